theorem in_X10_replace_X10 : ∀ w ∈ u_ws RX10 TX10 18, w ∈ wsX10_replace := fun _ h => List.mem_cons_of_mem _ (List.mem_append_right _ h)
theorem mb_X10_replace_1 : Cond.fieldLink RX10 19 (TX10 5).1 (TX10 5).2.1 (TX10 5).2.2.1 ∈ wsX10_replace := by decide +kernel
theorem mb_X10_replace_2 : Cond.fieldLink RX10 116 (TX10 3).1 (TX10 3).2.1 (TX10 3).2.2.1 ∈ wsX10_replace := by decide +kernel
theorem mb_X10_replace_3 : Cond.fieldLink RX10 58 (TX10 1).1 (TX10 1).2.1 (TX10 1).2.2.1 ∈ wsX10_replace := by decide +kernel
theorem mb_X10_replace_4 : Cond.fieldLink RX10 13 (TX10 2).1 (TX10 2).2.1 (TX10 2).2.2.1 ∈ wsX10_replace := by decide +kernel
theorem mb_X10_replace_5 : Cond.fieldLink RX10 7 (TX10 0).1 (TX10 0).2.1 (TX10 0).2.2.1 ∈ wsX10_replace := by decide +kernel
abbrev rmX10_replace : Room := { frames := 1, cells := 0, slots := 0, locals := 23 }
set_option maxHeartbeats 4000000 in
set_option maxRecDepth 100000 in
theorem wk_X10_replace_128 {X : JC} {l : Launch} {D : va_G} {cB cI cJ : ClassId} (O : Jo X (l, D, cB, cI, cJ) cX10_replace 7 RX10 wsX10_replace rmX10_replace none) (m mt md mk ms mu mn mm mo mw : Nat) (m_c : Int32) (m_e : Int32) (m_ol : Int32) (m_fa : Int32) (m_f : Int32) (m_p : Int32) (m_is : Int32) (m_t : Nat → Int32) (m_k : Nat → Int32) (m_u : Nat → Int32) (m_n : Nat → Int64) (m_m : Nat → Int32) (m_o : Nat → Int32) (m_w : Nat → Int32) (a1 : Int32) (a2 : Int32) (fu : Nat) {z : Int32 × Int32 × (Nat → Int32) × (Nat → Int32)} : ∀ (fn : Nat) (v3 : Int32) (v4 : Int32) (v5 : Int32) (v6 : Int32) (m_tl : Int32) (m_dl : Int32) (m_d : Nat → Int32) (m_s : Nat → Int32), p_X10_replace_128 fu m_t a1 a2 fn v3 v4 v5 v6 m_tl m_dl m_d m_s = some z → J X 7 (JQv X [(m, .inr (6, [.ref mt, .int z.1, .ref md, .int z.2.1, .ref mk, .ref ms, .int m_c, .ref mu, .ref mn, .ref mm, .int m_e, .ref mo, .int m_ol, .int m_fa, .int m_f, .ref mw, .int m_p, .int m_is])), (mt, .inl (cI, 6000, .inl m_t)), (md, .inl (cI, 12000, .inl z.2.2.1)), (mk, .inl (cI, 61, .inl m_k)), (ms, .inl (cI, 61, .inl z.2.2.2)), (mu, .inl (cI, 41, .inl m_u)), (mn, .inl (cJ, 41, .inr (.inl m_n))), (mm, .inl (cI, 41, .inl m_m)), (mo, .inl (cI, 14000, .inl m_o)), (mw, .inl (cI, 61, .inl m_w))] 0 0) [(m, .inr (6, [.ref mt, .int m_tl, .ref md, .int m_dl, .ref mk, .ref ms, .int m_c, .ref mu, .ref mn, .ref mm, .int m_e, .ref mo, .int m_ol, .int m_fa, .int m_f, .ref mw, .int m_p, .int m_is])), (mt, .inl (cI, 6000, .inl m_t)), (md, .inl (cI, 12000, .inl m_d)), (mk, .inl (cI, 61, .inl m_k)), (ms, .inl (cI, 61, .inl m_s)), (mu, .inl (cI, 41, .inl m_u)), (mn, .inl (cJ, 41, .inr (.inl m_n))), (mm, .inl (cI, 41, .inl m_m)), (mo, .inl (cI, 14000, .inl m_o)), (mw, .inl (cI, 61, .inl m_w))] 0 0 128 [(0, .ref m), (1, .int a1), (2, .int a2), (3, .int v3), (4, .int v4), (5, .int v5), (6, .int v6)] [] := by
  intro fn
  induction fn with
  | zero =>
    intro v3 v4 v5 v6 m_tl m_dl m_d m_s hf
    rw [p_X10_replace_128] at hf
    exact jt_n hf
  | succ fn ih =>
    intro v3 v4 v5 v6 m_tl m_dl m_d m_s hf
    rw [p_X10_replace_128] at hf
    refine J_iload O (i := 6) (pc := 128) 6 rfl dX10_replace_128 ?_
    refine J_iload O (i := 4) (pc := 130) 4 rfl dX10_replace_130 ?_
    refine J_icmp_ge O (tgt := 157) (pc := 132) dX10_replace_132 (by decide) (fun c132 => ?_) (fun c132 => ?_)
    · have hf := jt_t c132 hf
      refine J_aload_n O (i := 0) (k0 := 0) (pc := 157) 0 rfl rfl dX10_replace_157 ?_
      refine J_dup O (pc := 158) rfl dX10_replace_158 ?_
      refine J_get O (pc := 159) in_X10_replace_X10 0 rfl rfl 3 (by decide) mb_X10_replace_2 rfl dX10_replace_159 ?_
      refine J_iload O (i := 5) (pc := 162) 5 rfl dX10_replace_162 ?_
      refine J_iadd O (pc := 164) dX10_replace_164 ?_
      refine J_put O (pc := 165) in_X10_replace_X10 tyX10 tyX10_ok nmX10 0 rfl rfl 3 (by decide) mb_X10_replace_2 rfl rfl rfl (Nat.le_of_ble_eq_true rfl) [(m, .inr (6, [.ref mt, .int m_tl, .ref md, .int (m_dl + v5), .ref mk, .ref ms, .int m_c, .ref mu, .ref mn, .ref mm, .int m_e, .ref mo, .int m_ol, .int m_fa, .int m_f, .ref mw, .int m_p, .int m_is])), (mt, .inl (cI, 6000, .inl m_t)), (md, .inl (cI, 12000, .inl m_d)), (mk, .inl (cI, 61, .inl m_k)), (ms, .inl (cI, 61, .inl m_s)), (mu, .inl (cI, 41, .inl m_u)), (mn, .inl (cJ, 41, .inr (.inl m_n))), (mm, .inl (cI, 41, .inl m_m)), (mo, .inl (cI, 14000, .inl m_o)), (mw, .inl (cI, 61, .inl m_w))] rfl dX10_replace_165 ?_
      refine J_aload_n O (i := 0) (k0 := 0) (pc := 168) 0 rfl rfl dX10_replace_168 ?_
      refine J_get O (pc := 169) in_X10_replace_X10 0 rfl rfl 5 (by decide) mb_X10_replace_1 rfl dX10_replace_169 ?_
      refine J_iload_n O (i := 1) (k0 := 1) (pc := 172) 1 rfl rfl dX10_replace_172 ?_
      refine J_iload O (i := 4) (pc := 173) 4 rfl dX10_replace_173 ?_
      obtain ⟨h175, hf⟩ := jt_g hf
      refine J_iast O (pc := 175) 4 1 rfl rfl h175 [(m, .inr (6, [.ref mt, .int m_tl, .ref md, .int (m_dl + v5), .ref mk, .ref ms, .int m_c, .ref mu, .ref mn, .ref mm, .int m_e, .ref mo, .int m_ol, .int m_fa, .int m_f, .ref mw, .int m_p, .int m_is])), (mt, .inl (cI, 6000, .inl m_t)), (md, .inl (cI, 12000, .inl m_d)), (mk, .inl (cI, 61, .inl m_k)), (ms, .inl (cI, 61, .inl (upd m_s (Int32.toNatClampNeg a1) v4))), (mu, .inl (cI, 41, .inl m_u)), (mn, .inl (cJ, 41, .inr (.inl m_n))), (mm, .inl (cI, 41, .inl m_m)), (mo, .inl (cI, 14000, .inl m_o)), (mw, .inl (cI, 61, .inl m_w))] rfl dX10_replace_175 ?_
      refine J_aload_n O (i := 0) (k0 := 0) (pc := 176) 0 rfl rfl dX10_replace_176 ?_
      refine J_iload_n O (i := 2) (k0 := 2) (pc := 177) 2 rfl rfl dX10_replace_177 ?_
      refine J_if_eq O (tgt := 185) (pc := 178) dX10_replace_178 (by decide) (fun c178 => ?_) (fun c178 => ?_)
      · have hf := jt_t c178 hf
        refine J_aload_n O (i := 0) (k0 := 0) (pc := 185) 0 rfl rfl dX10_replace_185 ?_
        refine J_get O (pc := 186) in_X10_replace_X10 0 rfl rfl 1 (by decide) mb_X10_replace_3 rfl dX10_replace_186 ?_
        refine J_put O (pc := 189) in_X10_replace_X10 tyX10 tyX10_ok nmX10 0 rfl rfl 1 (by decide) mb_X10_replace_3 rfl rfl rfl (Nat.le_of_ble_eq_true rfl) [(m, .inr (6, [.ref mt, .int m_tl, .ref md, .int (m_dl + v5), .ref mk, .ref ms, .int m_c, .ref mu, .ref mn, .ref mm, .int m_e, .ref mo, .int m_ol, .int m_fa, .int m_f, .ref mw, .int m_p, .int m_is])), (mt, .inl (cI, 6000, .inl m_t)), (md, .inl (cI, 12000, .inl m_d)), (mk, .inl (cI, 61, .inl m_k)), (ms, .inl (cI, 61, .inl (upd m_s (Int32.toNatClampNeg a1) v4))), (mu, .inl (cI, 41, .inl m_u)), (mn, .inl (cJ, 41, .inr (.inl m_n))), (mm, .inl (cI, 41, .inl m_m)), (mo, .inl (cI, 14000, .inl m_o)), (mw, .inl (cI, 61, .inl m_w))] rfl dX10_replace_189 ?_
        have e9 := Option.some.inj hf
        subst e9
        exact J_vret O (pc := 192) dX10_replace_192
      · have hf := jt_f c178 hf
        refine J_iconst O (v := 0) (pc := 181) (by decide) dX10_replace_181 ?_
        refine J_goto O (tgt := 189) (pc := 182) dX10_replace_182 (by decide) ?_
        refine J_put O (pc := 189) in_X10_replace_X10 tyX10 tyX10_ok nmX10 0 rfl rfl 1 (by decide) mb_X10_replace_3 rfl rfl rfl (Nat.le_of_ble_eq_true rfl) [(m, .inr (6, [.ref mt, .int 0, .ref md, .int (m_dl + v5), .ref mk, .ref ms, .int m_c, .ref mu, .ref mn, .ref mm, .int m_e, .ref mo, .int m_ol, .int m_fa, .int m_f, .ref mw, .int m_p, .int m_is])), (mt, .inl (cI, 6000, .inl m_t)), (md, .inl (cI, 12000, .inl m_d)), (mk, .inl (cI, 61, .inl m_k)), (ms, .inl (cI, 61, .inl (upd m_s (Int32.toNatClampNeg a1) v4))), (mu, .inl (cI, 41, .inl m_u)), (mn, .inl (cJ, 41, .inr (.inl m_n))), (mm, .inl (cI, 41, .inl m_m)), (mo, .inl (cI, 14000, .inl m_o)), (mw, .inl (cI, 61, .inl m_w))] rfl dX10_replace_189 ?_
        have e9 := Option.some.inj hf
        subst e9
        exact J_vret O (pc := 192) dX10_replace_192
    · have hf := jt_f c132 hf
      refine J_aload_n O (i := 0) (k0 := 0) (pc := 135) 0 rfl rfl dX10_replace_135 ?_
      refine J_get O (pc := 136) in_X10_replace_X10 0 rfl rfl 2 (by decide) mb_X10_replace_4 rfl dX10_replace_136 ?_
      refine J_iload_n O (i := 3) (k0 := 3) (pc := 139) 3 rfl rfl dX10_replace_139 ?_
      refine J_iload O (i := 6) (pc := 140) 6 rfl dX10_replace_140 ?_
      refine J_iadd O (pc := 142) dX10_replace_142 ?_
      refine J_aload_n O (i := 0) (k0 := 0) (pc := 143) 0 rfl rfl dX10_replace_143 ?_
      refine J_get O (pc := 144) in_X10_replace_X10 0 rfl rfl 0 (by decide) mb_X10_replace_5 rfl dX10_replace_144 ?_
      refine J_iload O (i := 6) (pc := 147) 6 rfl dX10_replace_147 ?_
      obtain ⟨h149, hf⟩ := jt_g hf
      refine J_iald O (pc := 149) 1 1 rfl rfl h149 dX10_replace_149 ?_
      obtain ⟨h150, hf⟩ := jt_g hf
      refine J_iast O (pc := 150) 2 1 rfl rfl h150 [(m, .inr (6, [.ref mt, .int m_tl, .ref md, .int m_dl, .ref mk, .ref ms, .int m_c, .ref mu, .ref mn, .ref mm, .int m_e, .ref mo, .int m_ol, .int m_fa, .int m_f, .ref mw, .int m_p, .int m_is])), (mt, .inl (cI, 6000, .inl m_t)), (md, .inl (cI, 12000, .inl (upd m_d (Int32.toNatClampNeg (v3 + v6)) (m_t (Int32.toNatClampNeg v6))))), (mk, .inl (cI, 61, .inl m_k)), (ms, .inl (cI, 61, .inl m_s)), (mu, .inl (cI, 41, .inl m_u)), (mn, .inl (cJ, 41, .inr (.inl m_n))), (mm, .inl (cI, 41, .inl m_m)), (mo, .inl (cI, 14000, .inl m_o)), (mw, .inl (cI, 61, .inl m_w))] rfl dX10_replace_150 ?_
      refine J_iinc O (i := 6) (n := 1) (v := v6 + 1) (pc := 151) 6 rfl [(6, .int (v6 + 1)), (0, .ref m), (1, .int a1), (2, .int a2), (3, .int v3), (4, .int v4), (5, .int v5)] (by decide) (congrArg (_ + ·) (by decide)) rfl dX10_replace_151 ?_
      refine J_goto O (tgt := 128) (pc := 154) dX10_replace_154 (by decide) ?_
      refine J_sub [1, 2, 3, 4, 5, 6, 0] (lv' := [(0, .ref m), (1, .int a1), (2, .int a2), (3, .int v3), (4, .int v4), (5, .int v5), (6, .int (v6 + 1))]) rfl ?_
      exact ih v3 v4 v5 (v6 + 1) m_tl m_dl (upd m_d (Int32.toNatClampNeg (v3 + v6)) (m_t (Int32.toNatClampNeg v6))) m_s hf
set_option maxHeartbeats 4000000 in
set_option maxRecDepth 100000 in
theorem wk_X10_replace_93 {X : JC} {l : Launch} {D : va_G} {cB cI cJ : ClassId} (O : Jo X (l, D, cB, cI, cJ) cX10_replace 7 RX10 wsX10_replace rmX10_replace none) (m mt md mk ms mu mn mm mo mw : Nat) (m_c : Int32) (m_e : Int32) (m_ol : Int32) (m_fa : Int32) (m_f : Int32) (m_p : Int32) (m_is : Int32) (m_t : Nat → Int32) (m_k : Nat → Int32) (m_u : Nat → Int32) (m_n : Nat → Int64) (m_m : Nat → Int32) (m_o : Nat → Int32) (m_w : Nat → Int32) (a1 : Int32) (a2 : Int32) (fu : Nat) {z : Int32 × Int32 × (Nat → Int32) × (Nat → Int32)} : ∀ (fn : Nat) (v3 : Int32) (v4 : Int32) (v5 : Int32) (v6 : Int32) (m_tl : Int32) (m_dl : Int32) (m_d : Nat → Int32) (m_s : Nat → Int32), p_X10_replace_93 fu m_t a1 a2 fn v3 v4 v5 v6 m_tl m_dl m_d m_s = some z → J X 7 (JQv X [(m, .inr (6, [.ref mt, .int z.1, .ref md, .int z.2.1, .ref mk, .ref ms, .int m_c, .ref mu, .ref mn, .ref mm, .int m_e, .ref mo, .int m_ol, .int m_fa, .int m_f, .ref mw, .int m_p, .int m_is])), (mt, .inl (cI, 6000, .inl m_t)), (md, .inl (cI, 12000, .inl z.2.2.1)), (mk, .inl (cI, 61, .inl m_k)), (ms, .inl (cI, 61, .inl z.2.2.2)), (mu, .inl (cI, 41, .inl m_u)), (mn, .inl (cJ, 41, .inr (.inl m_n))), (mm, .inl (cI, 41, .inl m_m)), (mo, .inl (cI, 14000, .inl m_o)), (mw, .inl (cI, 61, .inl m_w))] 0 0) [(m, .inr (6, [.ref mt, .int m_tl, .ref md, .int m_dl, .ref mk, .ref ms, .int m_c, .ref mu, .ref mn, .ref mm, .int m_e, .ref mo, .int m_ol, .int m_fa, .int m_f, .ref mw, .int m_p, .int m_is])), (mt, .inl (cI, 6000, .inl m_t)), (md, .inl (cI, 12000, .inl m_d)), (mk, .inl (cI, 61, .inl m_k)), (ms, .inl (cI, 61, .inl m_s)), (mu, .inl (cI, 41, .inl m_u)), (mn, .inl (cJ, 41, .inr (.inl m_n))), (mm, .inl (cI, 41, .inl m_m)), (mo, .inl (cI, 14000, .inl m_o)), (mw, .inl (cI, 61, .inl m_w))] 0 0 93 [(0, .ref m), (1, .int a1), (2, .int a2), (3, .int v3), (4, .int v4), (5, .int v5), (6, .int v6)] [] := by
  intro fn
  induction fn with
  | zero =>
    intro v3 v4 v5 v6 m_tl m_dl m_d m_s hf
    rw [p_X10_replace_93] at hf
    exact jt_n hf
  | succ fn ih =>
    intro v3 v4 v5 v6 m_tl m_dl m_d m_s hf
    rw [p_X10_replace_93] at hf
    refine J_iload O (i := 6) (pc := 93) 6 rfl dX10_replace_93 ?_
    refine J_aload_n O (i := 0) (k0 := 0) (pc := 95) 0 rfl rfl dX10_replace_95 ?_
    refine J_get O (pc := 96) in_X10_replace_X10 0 rfl rfl 3 (by decide) mb_X10_replace_2 rfl dX10_replace_96 ?_
    refine J_icmp_ge O (tgt := 125) (pc := 99) dX10_replace_99 (by decide) (fun c99 => ?_) (fun c99 => ?_)
    · have hf := jt_t c99 hf
      refine J_iconst O (v := 0) (pc := 125) (by decide) dX10_replace_125 ?_
      refine J_istore O (i := 6) (pc := 126) [(6, .int 0), (0, .ref m), (1, .int a1), (2, .int a2), (3, .int v3), (4, .int v4), (5, .int v5)] (by decide) rfl dX10_replace_126 ?_
      refine J_sub [1, 2, 3, 4, 5, 6, 0] (lv' := [(0, .ref m), (1, .int a1), (2, .int a2), (3, .int v3), (4, .int v4), (5, .int v5), (6, .int 0)]) rfl ?_
      exact wk_X10_replace_128 O m mt md mk ms mu mn mm mo mw m_c m_e m_ol m_fa m_f m_p m_is m_t m_k m_u m_n m_m m_o m_w a1 a2 fu fu v3 v4 v5 0 m_tl m_dl m_d m_s hf
    · have hf := jt_f c99 hf
      refine J_aload_n O (i := 0) (k0 := 0) (pc := 102) 0 rfl rfl dX10_replace_102 ?_
      refine J_get O (pc := 103) in_X10_replace_X10 0 rfl rfl 2 (by decide) mb_X10_replace_4 rfl dX10_replace_103 ?_
      refine J_iload O (i := 6) (pc := 106) 6 rfl dX10_replace_106 ?_
      refine J_iload O (i := 5) (pc := 108) 5 rfl dX10_replace_108 ?_
      refine J_iadd O (pc := 110) dX10_replace_110 ?_
      refine J_aload_n O (i := 0) (k0 := 0) (pc := 111) 0 rfl rfl dX10_replace_111 ?_
      refine J_get O (pc := 112) in_X10_replace_X10 0 rfl rfl 2 (by decide) mb_X10_replace_4 rfl dX10_replace_112 ?_
      refine J_iload O (i := 6) (pc := 115) 6 rfl dX10_replace_115 ?_
      obtain ⟨h117, hf⟩ := jt_g hf
      refine J_iald O (pc := 117) 2 1 rfl rfl h117 dX10_replace_117 ?_
      obtain ⟨h118, hf⟩ := jt_g hf
      refine J_iast O (pc := 118) 2 1 rfl rfl h118 [(m, .inr (6, [.ref mt, .int m_tl, .ref md, .int m_dl, .ref mk, .ref ms, .int m_c, .ref mu, .ref mn, .ref mm, .int m_e, .ref mo, .int m_ol, .int m_fa, .int m_f, .ref mw, .int m_p, .int m_is])), (mt, .inl (cI, 6000, .inl m_t)), (md, .inl (cI, 12000, .inl (upd m_d (Int32.toNatClampNeg (v6 + v5)) (m_d (Int32.toNatClampNeg v6))))), (mk, .inl (cI, 61, .inl m_k)), (ms, .inl (cI, 61, .inl m_s)), (mu, .inl (cI, 41, .inl m_u)), (mn, .inl (cJ, 41, .inr (.inl m_n))), (mm, .inl (cI, 41, .inl m_m)), (mo, .inl (cI, 14000, .inl m_o)), (mw, .inl (cI, 61, .inl m_w))] rfl dX10_replace_118 ?_
      refine J_iinc O (i := 6) (n := 1) (v := v6 + 1) (pc := 119) 6 rfl [(6, .int (v6 + 1)), (0, .ref m), (1, .int a1), (2, .int a2), (3, .int v3), (4, .int v4), (5, .int v5)] (by decide) (congrArg (_ + ·) (by decide)) rfl dX10_replace_119 ?_
      refine J_goto O (tgt := 93) (pc := 122) dX10_replace_122 (by decide) ?_
      refine J_sub [1, 2, 3, 4, 5, 6, 0] (lv' := [(0, .ref m), (1, .int a1), (2, .int a2), (3, .int v3), (4, .int v4), (5, .int v5), (6, .int (v6 + 1))]) rfl ?_
      exact ih v3 v4 v5 (v6 + 1) m_tl m_dl (upd m_d (Int32.toNatClampNeg (v6 + v5)) (m_d (Int32.toNatClampNeg v6))) m_s hf
set_option maxHeartbeats 4000000 in
set_option maxRecDepth 100000 in
theorem wk_X10_replace_44 {X : JC} {l : Launch} {D : va_G} {cB cI cJ : ClassId} (O : Jo X (l, D, cB, cI, cJ) cX10_replace 7 RX10 wsX10_replace rmX10_replace none) (m mt md mk ms mu mn mm mo mw : Nat) (m_c : Int32) (m_e : Int32) (m_ol : Int32) (m_fa : Int32) (m_f : Int32) (m_p : Int32) (m_is : Int32) (m_t : Nat → Int32) (m_k : Nat → Int32) (m_u : Nat → Int32) (m_n : Nat → Int64) (m_m : Nat → Int32) (m_o : Nat → Int32) (m_w : Nat → Int32) (a1 : Int32) (a2 : Int32) (fu : Nat) {z : Int32 × Int32 × (Nat → Int32) × (Nat → Int32)} : ∀ (fn : Nat) (v3 : Int32) (v4 : Int32) (v5 : Int32) (v6 : Int32) (m_tl : Int32) (m_dl : Int32) (m_d : Nat → Int32) (m_s : Nat → Int32), p_X10_replace_44 fu m_t a1 a2 fn v3 v4 v5 v6 m_tl m_dl m_d m_s = some z → J X 7 (JQv X [(m, .inr (6, [.ref mt, .int z.1, .ref md, .int z.2.1, .ref mk, .ref ms, .int m_c, .ref mu, .ref mn, .ref mm, .int m_e, .ref mo, .int m_ol, .int m_fa, .int m_f, .ref mw, .int m_p, .int m_is])), (mt, .inl (cI, 6000, .inl m_t)), (md, .inl (cI, 12000, .inl z.2.2.1)), (mk, .inl (cI, 61, .inl m_k)), (ms, .inl (cI, 61, .inl z.2.2.2)), (mu, .inl (cI, 41, .inl m_u)), (mn, .inl (cJ, 41, .inr (.inl m_n))), (mm, .inl (cI, 41, .inl m_m)), (mo, .inl (cI, 14000, .inl m_o)), (mw, .inl (cI, 61, .inl m_w))] 0 0) [(m, .inr (6, [.ref mt, .int m_tl, .ref md, .int m_dl, .ref mk, .ref ms, .int m_c, .ref mu, .ref mn, .ref mm, .int m_e, .ref mo, .int m_ol, .int m_fa, .int m_f, .ref mw, .int m_p, .int m_is])), (mt, .inl (cI, 6000, .inl m_t)), (md, .inl (cI, 12000, .inl m_d)), (mk, .inl (cI, 61, .inl m_k)), (ms, .inl (cI, 61, .inl m_s)), (mu, .inl (cI, 41, .inl m_u)), (mn, .inl (cJ, 41, .inr (.inl m_n))), (mm, .inl (cI, 41, .inl m_m)), (mo, .inl (cI, 14000, .inl m_o)), (mw, .inl (cI, 61, .inl m_w))] 0 0 44 [(0, .ref m), (1, .int a1), (2, .int a2), (3, .int v3), (4, .int v4), (5, .int v5), (6, .int v6)] [] := by
  intro fn
  induction fn with
  | zero =>
    intro v3 v4 v5 v6 m_tl m_dl m_d m_s hf
    rw [p_X10_replace_44] at hf
    exact jt_n hf
  | succ fn ih =>
    intro v3 v4 v5 v6 m_tl m_dl m_d m_s hf
    rw [p_X10_replace_44] at hf
    refine J_iload O (i := 6) (pc := 44) 6 rfl dX10_replace_44 ?_
    refine J_iload_n O (i := 3) (k0 := 3) (pc := 46) 3 rfl rfl dX10_replace_46 ?_
    refine J_aload_n O (i := 0) (k0 := 0) (pc := 47) 0 rfl rfl dX10_replace_47 ?_
    refine J_get O (pc := 48) in_X10_replace_X10 0 rfl rfl 5 (by decide) mb_X10_replace_1 rfl dX10_replace_48 ?_
    refine J_iload_n O (i := 1) (k0 := 1) (pc := 51) 1 rfl rfl dX10_replace_51 ?_
    obtain ⟨h52, hf⟩ := jt_g hf
    refine J_iald O (pc := 52) 4 1 rfl rfl h52 dX10_replace_52 ?_
    refine J_iadd O (pc := 53) dX10_replace_53 ?_
    refine J_icmp_lt O (tgt := 80) (pc := 54) dX10_replace_54 (by decide) (fun c54 => ?_) (fun c54 => ?_)
    · have hf := jt_t c54 hf
      refine J_goto O (tgt := 125) (pc := 80) dX10_replace_80 (by decide) ?_
      refine J_iconst O (v := 0) (pc := 125) (by decide) dX10_replace_125 ?_
      refine J_istore O (i := 6) (pc := 126) [(6, .int 0), (0, .ref m), (1, .int a1), (2, .int a2), (3, .int v3), (4, .int v4), (5, .int v5)] (by decide) rfl dX10_replace_126 ?_
      refine J_sub [1, 2, 3, 4, 5, 6, 0] (lv' := [(0, .ref m), (1, .int a1), (2, .int a2), (3, .int v3), (4, .int v4), (5, .int v5), (6, .int 0)]) rfl ?_
      exact wk_X10_replace_128 O m mt md mk ms mu mn mm mo mw m_c m_e m_ol m_fa m_f m_p m_is m_t m_k m_u m_n m_m m_o m_w a1 a2 fu fu v3 v4 v5 0 m_tl m_dl m_d m_s hf
    · have hf := jt_f c54 hf
      refine J_aload_n O (i := 0) (k0 := 0) (pc := 57) 0 rfl rfl dX10_replace_57 ?_
      refine J_get O (pc := 58) in_X10_replace_X10 0 rfl rfl 2 (by decide) mb_X10_replace_4 rfl dX10_replace_58 ?_
      refine J_iload O (i := 6) (pc := 61) 6 rfl dX10_replace_61 ?_
      refine J_iload O (i := 5) (pc := 63) 5 rfl dX10_replace_63 ?_
      refine J_iadd O (pc := 65) dX10_replace_65 ?_
      refine J_aload_n O (i := 0) (k0 := 0) (pc := 66) 0 rfl rfl dX10_replace_66 ?_
      refine J_get O (pc := 67) in_X10_replace_X10 0 rfl rfl 2 (by decide) mb_X10_replace_4 rfl dX10_replace_67 ?_
      refine J_iload O (i := 6) (pc := 70) 6 rfl dX10_replace_70 ?_
      obtain ⟨h72, hf⟩ := jt_g hf
      refine J_iald O (pc := 72) 2 1 rfl rfl h72 dX10_replace_72 ?_
      obtain ⟨h73, hf⟩ := jt_g hf
      refine J_iast O (pc := 73) 2 1 rfl rfl h73 [(m, .inr (6, [.ref mt, .int m_tl, .ref md, .int m_dl, .ref mk, .ref ms, .int m_c, .ref mu, .ref mn, .ref mm, .int m_e, .ref mo, .int m_ol, .int m_fa, .int m_f, .ref mw, .int m_p, .int m_is])), (mt, .inl (cI, 6000, .inl m_t)), (md, .inl (cI, 12000, .inl (upd m_d (Int32.toNatClampNeg (v6 + v5)) (m_d (Int32.toNatClampNeg v6))))), (mk, .inl (cI, 61, .inl m_k)), (ms, .inl (cI, 61, .inl m_s)), (mu, .inl (cI, 41, .inl m_u)), (mn, .inl (cJ, 41, .inr (.inl m_n))), (mm, .inl (cI, 41, .inl m_m)), (mo, .inl (cI, 14000, .inl m_o)), (mw, .inl (cI, 61, .inl m_w))] rfl dX10_replace_73 ?_
      refine J_iinc O (i := 6) (n := (-1)) (v := v6 + (-1)) (pc := 74) 6 rfl [(6, .int (v6 + (-1))), (0, .ref m), (1, .int a1), (2, .int a2), (3, .int v3), (4, .int v4), (5, .int v5)] (by decide) (congrArg (_ + ·) (by decide)) rfl dX10_replace_74 ?_
      refine J_goto O (tgt := 44) (pc := 77) dX10_replace_77 (by decide) ?_
      refine J_sub [1, 2, 3, 4, 5, 6, 0] (lv' := [(0, .ref m), (1, .int a1), (2, .int a2), (3, .int v3), (4, .int v4), (5, .int v5), (6, .int (v6 + (-1)))]) rfl ?_
      exact ih v3 v4 v5 (v6 + (-1)) m_tl m_dl (upd m_d (Int32.toNatClampNeg (v6 + v5)) (m_d (Int32.toNatClampNeg v6))) m_s hf
set_option maxHeartbeats 4000000 in
set_option maxRecDepth 100000 in
theorem wk_X10_replace_18 {X : JC} {l : Launch} {D : va_G} {cB cI cJ : ClassId} (O : Jo X (l, D, cB, cI, cJ) cX10_replace 7 RX10 wsX10_replace rmX10_replace none) (m mt md mk ms mu mn mm mo mw : Nat) (m_c : Int32) (m_e : Int32) (m_ol : Int32) (m_fa : Int32) (m_f : Int32) (m_p : Int32) (m_is : Int32) (m_t : Nat → Int32) (m_k : Nat → Int32) (m_u : Nat → Int32) (m_n : Nat → Int64) (m_m : Nat → Int32) (m_o : Nat → Int32) (m_w : Nat → Int32) (a1 : Int32) (a2 : Int32) (fu : Nat) {z : Int32 × Int32 × (Nat → Int32) × (Nat → Int32)} (v3 : Int32) (s0 : Int32) (m_tl : Int32) (m_dl : Int32) (m_d : Nat → Int32) (m_s : Nat → Int32) (hf : p_X10_replace_18 fu m_t a1 a2 v3 s0 m_tl m_dl m_d m_s = some z) : J X 7 (JQv X [(m, .inr (6, [.ref mt, .int z.1, .ref md, .int z.2.1, .ref mk, .ref ms, .int m_c, .ref mu, .ref mn, .ref mm, .int m_e, .ref mo, .int m_ol, .int m_fa, .int m_f, .ref mw, .int m_p, .int m_is])), (mt, .inl (cI, 6000, .inl m_t)), (md, .inl (cI, 12000, .inl z.2.2.1)), (mk, .inl (cI, 61, .inl m_k)), (ms, .inl (cI, 61, .inl z.2.2.2)), (mu, .inl (cI, 41, .inl m_u)), (mn, .inl (cJ, 41, .inr (.inl m_n))), (mm, .inl (cI, 41, .inl m_m)), (mo, .inl (cI, 14000, .inl m_o)), (mw, .inl (cI, 61, .inl m_w))] 0 0) [(m, .inr (6, [.ref mt, .int m_tl, .ref md, .int m_dl, .ref mk, .ref ms, .int m_c, .ref mu, .ref mn, .ref mm, .int m_e, .ref mo, .int m_ol, .int m_fa, .int m_f, .ref mw, .int m_p, .int m_is])), (mt, .inl (cI, 6000, .inl m_t)), (md, .inl (cI, 12000, .inl m_d)), (mk, .inl (cI, 61, .inl m_k)), (ms, .inl (cI, 61, .inl m_s)), (mu, .inl (cI, 41, .inl m_u)), (mn, .inl (cJ, 41, .inr (.inl m_n))), (mm, .inl (cI, 41, .inl m_m)), (mo, .inl (cI, 14000, .inl m_o)), (mw, .inl (cI, 61, .inl m_w))] 0 0 18 [(0, .ref m), (1, .int a1), (2, .int a2), (3, .int v3)] [.int s0] := by
  rw [p_X10_replace_18] at hf
  refine J_istore O (i := 4) (pc := 18) [(4, .int s0), (0, .ref m), (1, .int a1), (2, .int a2), (3, .int v3)] (by decide) rfl dX10_replace_18 ?_
  refine J_iload O (i := 4) (pc := 20) 0 rfl dX10_replace_20 ?_
  refine J_aload_n O (i := 0) (k0 := 0) (pc := 22) 1 rfl rfl dX10_replace_22 ?_
  refine J_get O (pc := 23) in_X10_replace_X10 0 rfl rfl 5 (by decide) mb_X10_replace_1 rfl dX10_replace_23 ?_
  refine J_iload_n O (i := 1) (k0 := 1) (pc := 26) 2 rfl rfl dX10_replace_26 ?_
  obtain ⟨h27, hf⟩ := jt_g hf
  refine J_iald O (pc := 27) 4 1 rfl rfl h27 dX10_replace_27 ?_
  refine J_isub O (pc := 28) dX10_replace_28 ?_
  refine J_istore O (i := 5) (pc := 29) [(5, .int (s0 - (m_s (Int32.toNatClampNeg a1)))), (4, .int s0), (0, .ref m), (1, .int a1), (2, .int a2), (3, .int v3)] (by decide) rfl dX10_replace_29 ?_
  refine J_iload O (i := 5) (pc := 31) 0 rfl dX10_replace_31 ?_
  refine J_if_le O (tgt := 83) (pc := 33) dX10_replace_33 (by decide) (fun c33 => ?_) (fun c33 => ?_)
  · have hf := jt_t c33 hf
    refine J_iload_n O (i := 3) (k0 := 3) (pc := 83) 5 rfl rfl dX10_replace_83 ?_
    refine J_aload_n O (i := 0) (k0 := 0) (pc := 84) 2 rfl rfl dX10_replace_84 ?_
    refine J_get O (pc := 85) in_X10_replace_X10 0 rfl rfl 5 (by decide) mb_X10_replace_1 rfl dX10_replace_85 ?_
    refine J_iload_n O (i := 1) (k0 := 1) (pc := 88) 3 rfl rfl dX10_replace_88 ?_
    obtain ⟨h89, hf⟩ := jt_g hf
    refine J_iald O (pc := 89) 4 1 rfl rfl h89 dX10_replace_89 ?_
    refine J_iadd O (pc := 90) dX10_replace_90 ?_
    refine J_istore O (i := 6) (pc := 91) [(6, .int (v3 + (m_s (Int32.toNatClampNeg a1)))), (5, .int (s0 - (m_s (Int32.toNatClampNeg a1)))), (4, .int s0), (0, .ref m), (1, .int a1), (2, .int a2), (3, .int v3)] (by decide) rfl dX10_replace_91 ?_
    refine J_sub [3, 4, 5, 6, 2, 1, 0] (lv' := [(0, .ref m), (1, .int a1), (2, .int a2), (3, .int v3), (4, .int s0), (5, .int (s0 - (m_s (Int32.toNatClampNeg a1)))), (6, .int (v3 + (m_s (Int32.toNatClampNeg a1))))]) rfl ?_
    exact wk_X10_replace_93 O m mt md mk ms mu mn mm mo mw m_c m_e m_ol m_fa m_f m_p m_is m_t m_k m_u m_n m_m m_o m_w a1 a2 fu fu v3 s0 (s0 - (m_s (Int32.toNatClampNeg a1))) (v3 + (m_s (Int32.toNatClampNeg a1))) m_tl m_dl m_d m_s hf
  · have hf := jt_f c33 hf
    refine J_aload_n O (i := 0) (k0 := 0) (pc := 36) 2 rfl rfl dX10_replace_36 ?_
    refine J_get O (pc := 37) in_X10_replace_X10 0 rfl rfl 3 (by decide) mb_X10_replace_2 rfl dX10_replace_37 ?_
    refine J_iconst O (v := 1) (pc := 40) (by decide) dX10_replace_40 ?_
    refine J_isub O (pc := 41) dX10_replace_41 ?_
    refine J_istore O (i := 6) (pc := 42) [(6, .int (m_dl - 1)), (5, .int (s0 - (m_s (Int32.toNatClampNeg a1)))), (4, .int s0), (0, .ref m), (1, .int a1), (2, .int a2), (3, .int v3)] (by decide) rfl dX10_replace_42 ?_
    refine J_sub [3, 4, 5, 6, 2, 1, 0] (lv' := [(0, .ref m), (1, .int a1), (2, .int a2), (3, .int v3), (4, .int s0), (5, .int (s0 - (m_s (Int32.toNatClampNeg a1)))), (6, .int (m_dl - 1))]) rfl ?_
    exact wk_X10_replace_44 O m mt md mk ms mu mn mm mo mw m_c m_e m_ol m_fa m_f m_p m_is m_t m_k m_u m_n m_m m_o m_w a1 a2 fu fu v3 s0 (s0 - (m_s (Int32.toNatClampNeg a1))) (m_dl - 1) m_tl m_dl m_d m_s hf
set_option maxHeartbeats 4000000 in
set_option maxRecDepth 100000 in
theorem c_X10_replace (l : Launch) (D : va_G) (cB cI cJ : ClassId) (m mt md mk ms mu mn mm mo mw : Nat) (m_tl : Int32) (m_dl : Int32) (m_c : Int32) (m_e : Int32) (m_ol : Int32) (m_fa : Int32) (m_f : Int32) (m_p : Int32) (m_is : Int32) (m_t : Nat → Int32) (m_d : Nat → Int32) (m_k : Nat → Int32) (m_s : Nat → Int32) (m_u : Nat → Int32) (m_n : Nat → Int64) (m_m : Nat → Int32) (m_o : Nat → Int32) (m_w : Nat → Int32) (a1 : Int32) (a2 : Int32) (fu : Nat) {z : Int32 × Int32 × (Nat → Int32) × (Nat → Int32)} (hf : p_X10_replace fu m_tl m_dl m_t m_d m_s a1 a2 = some z) : Cv (l, D, cB, cI, cJ) yX10_replace wsX10_replace rmX10_replace [.ref m, .int a1, .int a2] [(m, .inr (6, [.ref mt, .int m_tl, .ref md, .int m_dl, .ref mk, .ref ms, .int m_c, .ref mu, .ref mn, .ref mm, .int m_e, .ref mo, .int m_ol, .int m_fa, .int m_f, .ref mw, .int m_p, .int m_is])), (mt, .inl (cI, 6000, .inl m_t)), (md, .inl (cI, 12000, .inl m_d)), (mk, .inl (cI, 61, .inl m_k)), (ms, .inl (cI, 61, .inl m_s)), (mu, .inl (cI, 41, .inl m_u)), (mn, .inl (cJ, 41, .inr (.inl m_n))), (mm, .inl (cI, 41, .inl m_m)), (mo, .inl (cI, 14000, .inl m_o)), (mw, .inl (cI, 61, .inl m_w))] [(m, .inr (6, [.ref mt, .int z.1, .ref md, .int z.2.1, .ref mk, .ref ms, .int m_c, .ref mu, .ref mn, .ref mm, .int m_e, .ref mo, .int m_ol, .int m_fa, .int m_f, .ref mw, .int m_p, .int m_is])), (mt, .inl (cI, 6000, .inl m_t)), (md, .inl (cI, 12000, .inl z.2.2.1)), (mk, .inl (cI, 61, .inl m_k)), (ms, .inl (cI, 61, .inl z.2.2.2)), (mu, .inl (cI, 41, .inl m_u)), (mn, .inl (cJ, 41, .inr (.inl m_n))), (mm, .inl (cI, 41, .inl m_m)), (mo, .inl (cI, 14000, .inl m_o)), (mw, .inl (cI, 61, .inl m_w))] := by
  refine Cv_of (cc := cX10_replace) (nL := 7) (own := RX10) (ret := none) (by decide) rfl rfl (Nat.le_of_ble_eq_true rfl) (fun X O hnm0 => ?_)
  rw [p_X10_replace] at hf
  show J X 7 (JQv X [(m, .inr (6, [.ref mt, .int z.1, .ref md, .int z.2.1, .ref mk, .ref ms, .int m_c, .ref mu, .ref mn, .ref mm, .int m_e, .ref mo, .int m_ol, .int m_fa, .int m_f, .ref mw, .int m_p, .int m_is])), (mt, .inl (cI, 6000, .inl m_t)), (md, .inl (cI, 12000, .inl z.2.2.1)), (mk, .inl (cI, 61, .inl m_k)), (ms, .inl (cI, 61, .inl z.2.2.2)), (mu, .inl (cI, 41, .inl m_u)), (mn, .inl (cJ, 41, .inr (.inl m_n))), (mm, .inl (cI, 41, .inl m_m)), (mo, .inl (cI, 14000, .inl m_o)), (mw, .inl (cI, 61, .inl m_w))] 0 0) [(m, .inr (6, [.ref mt, .int m_tl, .ref md, .int m_dl, .ref mk, .ref ms, .int m_c, .ref mu, .ref mn, .ref mm, .int m_e, .ref mo, .int m_ol, .int m_fa, .int m_f, .ref mw, .int m_p, .int m_is])), (mt, .inl (cI, 6000, .inl m_t)), (md, .inl (cI, 12000, .inl m_d)), (mk, .inl (cI, 61, .inl m_k)), (ms, .inl (cI, 61, .inl m_s)), (mu, .inl (cI, 41, .inl m_u)), (mn, .inl (cJ, 41, .inr (.inl m_n))), (mm, .inl (cI, 41, .inl m_m)), (mo, .inl (cI, 14000, .inl m_o)), (mw, .inl (cI, 61, .inl m_w))] 0 0 0 [(0, .ref m), (1, .int a1), (2, .int a2)] []
  refine J_aload_n O (i := 0) (k0 := 0) (pc := 0) 0 rfl rfl dX10_replace_0 ?_
  refine J_iload_n O (i := 1) (k0 := 1) (pc := 1) 1 rfl rfl dX10_replace_1 ?_
  obtain ⟨z2, h2, hf⟩ := jt_b hf
  refine J_callVi O (pc := 2) (c_X10_fromOf l D cB cI cJ m mt md mk ms mu mn mm mo mw m_tl m_dl m_c m_e m_ol m_fa m_f m_p m_is m_t m_d m_k m_s m_u m_n m_m m_o m_w a1 fu h2) rfl 0 rfl rfl gX10_replace_X10_fromOf hdV_X10_fromOf ⟨(Nat.le_of_ble_eq_true rfl), (Nat.le_of_ble_eq_true rfl)⟩ rfl (st := []) rfl (Nat.le_of_ble_eq_true rfl) [0, 1, 2, 3, 4, 5, 6, 7, 8, 9] [] rfl rfl rfl rfl rfl (by decide) [(m, .inr (6, [.ref mt, .int m_tl, .ref md, .int m_dl, .ref mk, .ref ms, .int m_c, .ref mu, .ref mn, .ref mm, .int m_e, .ref mo, .int m_ol, .int m_fa, .int m_f, .ref mw, .int m_p, .int m_is])), (mt, .inl (cI, 6000, .inl m_t)), (md, .inl (cI, 12000, .inl m_d)), (mk, .inl (cI, 61, .inl m_k)), (ms, .inl (cI, 61, .inl m_s)), (mu, .inl (cI, 41, .inl m_u)), (mn, .inl (cJ, 41, .inr (.inl m_n))), (mm, .inl (cI, 41, .inl m_m)), (mo, .inl (cI, 14000, .inl m_o)), (mw, .inl (cI, 61, .inl m_w))] [0, 1, 2, 3, 4, 5, 6, 7, 8, 9] rfl rfl rfl (0) (0) (Nat.le_of_ble_eq_true rfl) (Nat.le_of_ble_eq_true rfl) ⟨(Nat.le_of_ble_eq_true rfl), (Nat.le_of_ble_eq_true rfl)⟩ dX10_replace_2 ?_
  refine J_istore_n O (i := 3) (k0 := 3) (pc := 5) rfl [(3, .int z2), (0, .ref m), (1, .int a1), (2, .int a2)] (by decide) rfl dX10_replace_5 ?_
  refine J_iload_n O (i := 2) (k0 := 2) (pc := 6) 3 rfl rfl dX10_replace_6 ?_
  refine J_if_eq O (tgt := 17) (pc := 7) dX10_replace_7 (by decide) (fun c7 => ?_) (fun c7 => ?_)
  · have hf := jt_t c7 hf
    refine J_iconst O (v := 0) (pc := 17) (by decide) dX10_replace_17 ?_
    refine J_sub [1, 2, 3, 0] (lv' := [(0, .ref m), (1, .int a1), (2, .int a2), (3, .int z2)]) rfl ?_
    exact wk_X10_replace_18 O m mt md mk ms mu mn mm mo mw m_c m_e m_ol m_fa m_f m_p m_is m_t m_k m_u m_n m_m m_o m_w a1 a2 fu z2 0 m_tl m_dl m_d m_s hf
  · have hf := jt_f c7 hf
    refine J_aload_n O (i := 0) (k0 := 0) (pc := 10) 1 rfl rfl dX10_replace_10 ?_
    refine J_get O (pc := 11) in_X10_replace_X10 0 rfl rfl 1 (by decide) mb_X10_replace_3 rfl dX10_replace_11 ?_
    refine J_goto O (tgt := 18) (pc := 14) dX10_replace_14 (by decide) ?_
    refine J_sub [1, 2, 3, 0] (lv' := [(0, .ref m), (1, .int a1), (2, .int a2), (3, .int z2)]) rfl ?_
    exact wk_X10_replace_18 O m mt md mk ms mu mn mm mo mw m_c m_e m_ol m_fa m_f m_p m_is m_t m_k m_u m_n m_m m_o m_w a1 a2 fu z2 m_tl m_tl m_dl m_d m_s hf
theorem mb_X10_add_0 : Cond.constant RX10 97 1380541560 ∈ wsX10_add := by decide +kernel
theorem in_X10_add_X10 : ∀ w ∈ u_ws RX10 TX10 18, w ∈ wsX10_add := fun _ h => List.mem_cons_of_mem _ (List.mem_append_right _ h)
theorem mb_X10_add_2 : Cond.fieldLink RX10 113 (TX10 6).1 (TX10 6).2.1 (TX10 6).2.2.1 ∈ wsX10_add := by decide +kernel
theorem mb_X10_add_3 : Cond.fieldLink RX10 116 (TX10 3).1 (TX10 3).2.1 (TX10 3).2.2.1 ∈ wsX10_add := by decide +kernel
theorem mb_X10_add_4 : Cond.fieldLink RX10 58 (TX10 1).1 (TX10 1).2.1 (TX10 1).2.2.1 ∈ wsX10_add := by decide +kernel
theorem mb_X10_add_5 : Cond.fieldLink RX10 16 (TX10 4).1 (TX10 4).2.1 (TX10 4).2.2.1 ∈ wsX10_add := by decide +kernel
theorem mb_X10_add_6 : Cond.fieldLink RX10 19 (TX10 5).1 (TX10 5).2.1 (TX10 5).2.2.1 ∈ wsX10_add := by decide +kernel
theorem hdV_X10_replace : yX10_replace.cls = RX10 ∧ yX10_replace.cls ≠ "java/lang/invoke/MethodHandle" ∧ yX10_replace.cls ≠ "java/lang/invoke/VarHandle" ∧ (parseMethodDescriptor yX10_replace.desc).map (fun d => d.parameters.length) = some 2 := by decide +kernel
abbrev rmX10_add : Room := { frames := 2, cells := 0, slots := 0, locals := 49 }
set_option maxHeartbeats 4000000 in
set_option maxRecDepth 100000 in
theorem c_X10_add (l : Launch) (D : va_G) (cB cI cJ : ClassId) (m mt md mk ms mu mn mm mo mw : Nat) (m_tl : Int32) (m_dl : Int32) (m_c : Int32) (m_e : Int32) (m_ol : Int32) (m_fa : Int32) (m_f : Int32) (m_p : Int32) (m_is : Int32) (m_t : Nat → Int32) (m_d : Nat → Int32) (m_k : Nat → Int32) (m_s : Nat → Int32) (m_u : Nat → Int32) (m_n : Nat → Int64) (m_m : Nat → Int32) (m_o : Nat → Int32) (m_w : Nat → Int32) (a1 : Int32) (fu : Nat) {z : Int32 × Int32 × Int32 × Int32 × (Nat → Int32) × (Nat → Int32) × (Nat → Int32)} (hf : p_X10_add fu m_tl m_dl m_c m_t m_d m_k m_s a1 = some z) : Ci (l, D, cB, cI, cJ) yX10_add wsX10_add rmX10_add [.ref m, .int a1] [(m, .inr (6, [.ref mt, .int m_tl, .ref md, .int m_dl, .ref mk, .ref ms, .int m_c, .ref mu, .ref mn, .ref mm, .int m_e, .ref mo, .int m_ol, .int m_fa, .int m_f, .ref mw, .int m_p, .int m_is])), (mt, .inl (cI, 6000, .inl m_t)), (md, .inl (cI, 12000, .inl m_d)), (mk, .inl (cI, 61, .inl m_k)), (ms, .inl (cI, 61, .inl m_s)), (mu, .inl (cI, 41, .inl m_u)), (mn, .inl (cJ, 41, .inr (.inl m_n))), (mm, .inl (cI, 41, .inl m_m)), (mo, .inl (cI, 14000, .inl m_o)), (mw, .inl (cI, 61, .inl m_w))] [(m, .inr (6, [.ref mt, .int z.2.1, .ref md, .int z.2.2.1, .ref mk, .ref ms, .int z.2.2.2.1, .ref mu, .ref mn, .ref mm, .int m_e, .ref mo, .int m_ol, .int m_fa, .int m_f, .ref mw, .int m_p, .int m_is])), (mt, .inl (cI, 6000, .inl m_t)), (md, .inl (cI, 12000, .inl z.2.2.2.2.1)), (mk, .inl (cI, 61, .inl z.2.2.2.2.2.1)), (ms, .inl (cI, 61, .inl z.2.2.2.2.2.2)), (mu, .inl (cI, 41, .inl m_u)), (mn, .inl (cJ, 41, .inr (.inl m_n))), (mm, .inl (cI, 41, .inl m_m)), (mo, .inl (cI, 14000, .inl m_o)), (mw, .inl (cI, 61, .inl m_w))] z.1 := by
  refine Ci_of (cc := cX10_add) (nL := 2) (own := RX10) (ret := (some .int)) (by decide) rfl rfl (Nat.le_of_ble_eq_true rfl) (fun X O hnm0 => ?_)
  rw [p_X10_add] at hf
  show J X 2 (JQi X [(m, .inr (6, [.ref mt, .int z.2.1, .ref md, .int z.2.2.1, .ref mk, .ref ms, .int z.2.2.2.1, .ref mu, .ref mn, .ref mm, .int m_e, .ref mo, .int m_ol, .int m_fa, .int m_f, .ref mw, .int m_p, .int m_is])), (mt, .inl (cI, 6000, .inl m_t)), (md, .inl (cI, 12000, .inl z.2.2.2.2.1)), (mk, .inl (cI, 61, .inl z.2.2.2.2.2.1)), (ms, .inl (cI, 61, .inl z.2.2.2.2.2.2)), (mu, .inl (cI, 41, .inl m_u)), (mn, .inl (cJ, 41, .inr (.inl m_n))), (mm, .inl (cI, 41, .inl m_m)), (mo, .inl (cI, 14000, .inl m_o)), (mw, .inl (cI, 61, .inl m_w))] z.1 0 0) [(m, .inr (6, [.ref mt, .int m_tl, .ref md, .int m_dl, .ref mk, .ref ms, .int m_c, .ref mu, .ref mn, .ref mm, .int m_e, .ref mo, .int m_ol, .int m_fa, .int m_f, .ref mw, .int m_p, .int m_is])), (mt, .inl (cI, 6000, .inl m_t)), (md, .inl (cI, 12000, .inl m_d)), (mk, .inl (cI, 61, .inl m_k)), (ms, .inl (cI, 61, .inl m_s)), (mu, .inl (cI, 41, .inl m_u)), (mn, .inl (cJ, 41, .inr (.inl m_n))), (mm, .inl (cI, 41, .inl m_m)), (mo, .inl (cI, 14000, .inl m_o)), (mw, .inl (cI, 61, .inl m_w))] 0 0 0 [(0, .ref m), (1, .int a1)] []
  refine J_iload_n O (i := 1) (k0 := 1) (pc := 0) 1 rfl rfl dX10_add_0 ?_
  obtain ⟨z1, h1, hf⟩ := jt_b hf
  refine J_callSi O (pc := 1) (c_X10_isKind l D cB cI cJ a1 h1) rfl gX10_add_X10_isKind hdS_X10_isKind ⟨(Nat.le_of_ble_eq_true rfl), (Nat.le_of_ble_eq_true rfl)⟩ rfl (st := []) rfl (Nat.le_of_ble_eq_true rfl) [] [0, 1, 2, 3, 4, 5, 6, 7, 8, 9] rfl rfl rfl rfl rfl (by decide) [(m, .inr (6, [.ref mt, .int m_tl, .ref md, .int m_dl, .ref mk, .ref ms, .int m_c, .ref mu, .ref mn, .ref mm, .int m_e, .ref mo, .int m_ol, .int m_fa, .int m_f, .ref mw, .int m_p, .int m_is])), (mt, .inl (cI, 6000, .inl m_t)), (md, .inl (cI, 12000, .inl m_d)), (mk, .inl (cI, 61, .inl m_k)), (ms, .inl (cI, 61, .inl m_s)), (mu, .inl (cI, 41, .inl m_u)), (mn, .inl (cJ, 41, .inr (.inl m_n))), (mm, .inl (cI, 41, .inl m_m)), (mo, .inl (cI, 14000, .inl m_o)), (mw, .inl (cI, 61, .inl m_w))] [0, 1, 2, 3, 4, 5, 6, 7, 8, 9] rfl rfl rfl (0) (0) (Nat.le_of_ble_eq_true rfl) (Nat.le_of_ble_eq_true rfl) ⟨(Nat.le_of_ble_eq_true rfl), (Nat.le_of_ble_eq_true rfl)⟩ dX10_add_1 ?_
  refine J_zeq O (tgt := 13) (pc := 4) dX10_add_4 (by decide) (fun c4 => ?_) (fun c4 => ?_)
  · have hf := jt_f c4 hf
    refine J_iconst O (v := (-1)) (pc := 13) (by decide) dX10_add_13 ?_
    have e9 := Option.some.inj hf
    subst e9
    exact J_iret O (pc := 14) rfl dX10_add_14
  · have hf := jt_t c4 hf
    refine J_iload_n O (i := 1) (k0 := 1) (pc := 7) 1 rfl rfl dX10_add_7 ?_
    refine J_ldc O (pc := 8) mb_X10_add_0 dX10_add_8 ?_
    refine J_icmp_ne O (tgt := 15) (pc := 10) dX10_add_10 (by decide) (fun c10 => ?_) (fun c10 => ?_)
    · have hf := jt_f c10 hf
      refine J_aload_n O (i := 0) (k0 := 0) (pc := 15) 0 rfl rfl dX10_add_15 ?_
      refine J_get O (pc := 16) in_X10_add_X10 0 rfl rfl 6 (by decide) mb_X10_add_2 rfl dX10_add_16 ?_
      refine J_bipush O (v := 60) (pc := 19) (by decide) dX10_add_19 ?_
      refine J_icmp_eq O (tgt := 39) (pc := 21) dX10_add_21 (by decide) (fun c21 => ?_) (fun c21 => ?_)
      · have hf := jt_t c21 hf
        refine J_bipush O (v := (-4)) (pc := 39) (by decide) dX10_add_39 ?_
        have e9 := Option.some.inj hf
        subst e9
        exact J_iret O (pc := 41) rfl dX10_add_41
      · have hf := jt_f c21 hf
        refine J_aload_n O (i := 0) (k0 := 0) (pc := 24) 0 rfl rfl dX10_add_24 ?_
        refine J_get O (pc := 25) in_X10_add_X10 0 rfl rfl 3 (by decide) mb_X10_add_3 rfl dX10_add_25 ?_
        refine J_aload_n O (i := 0) (k0 := 0) (pc := 28) 0 rfl rfl dX10_add_28 ?_
        refine J_get O (pc := 29) in_X10_add_X10 0 rfl rfl 1 (by decide) mb_X10_add_4 rfl dX10_add_29 ?_
        refine J_iadd O (pc := 32) dX10_add_32 ?_
        refine J_sipush O (v := 12000) (pc := 33) (by decide) dX10_add_33 ?_
        refine J_icmp_le O (tgt := 42) (pc := 36) dX10_add_36 (by decide) (fun c36 => ?_) (fun c36 => ?_)
        · have hf := jt_t c36 hf
          refine J_aload_n O (i := 0) (k0 := 0) (pc := 42) 0 rfl rfl dX10_add_42 ?_
          refine J_get O (pc := 43) in_X10_add_X10 0 rfl rfl 4 (by decide) mb_X10_add_5 rfl dX10_add_43 ?_
          refine J_aload_n O (i := 0) (k0 := 0) (pc := 46) 0 rfl rfl dX10_add_46 ?_
          refine J_get O (pc := 47) in_X10_add_X10 0 rfl rfl 6 (by decide) mb_X10_add_2 rfl dX10_add_47 ?_
          refine J_iload_n O (i := 1) (k0 := 1) (pc := 50) 1 rfl rfl dX10_add_50 ?_
          obtain ⟨h51, hf⟩ := jt_g hf
          refine J_iast O (pc := 51) 3 1 rfl rfl h51 [(m, .inr (6, [.ref mt, .int m_tl, .ref md, .int m_dl, .ref mk, .ref ms, .int m_c, .ref mu, .ref mn, .ref mm, .int m_e, .ref mo, .int m_ol, .int m_fa, .int m_f, .ref mw, .int m_p, .int m_is])), (mt, .inl (cI, 6000, .inl m_t)), (md, .inl (cI, 12000, .inl m_d)), (mk, .inl (cI, 61, .inl (upd m_k (Int32.toNatClampNeg m_c) a1))), (ms, .inl (cI, 61, .inl m_s)), (mu, .inl (cI, 41, .inl m_u)), (mn, .inl (cJ, 41, .inr (.inl m_n))), (mm, .inl (cI, 41, .inl m_m)), (mo, .inl (cI, 14000, .inl m_o)), (mw, .inl (cI, 61, .inl m_w))] rfl dX10_add_51 ?_
          refine J_aload_n O (i := 0) (k0 := 0) (pc := 52) 0 rfl rfl dX10_add_52 ?_
          refine J_get O (pc := 53) in_X10_add_X10 0 rfl rfl 5 (by decide) mb_X10_add_6 rfl dX10_add_53 ?_
          refine J_aload_n O (i := 0) (k0 := 0) (pc := 56) 0 rfl rfl dX10_add_56 ?_
          refine J_get O (pc := 57) in_X10_add_X10 0 rfl rfl 6 (by decide) mb_X10_add_2 rfl dX10_add_57 ?_
          refine J_iconst O (v := 0) (pc := 60) (by decide) dX10_add_60 ?_
          obtain ⟨h61, hf⟩ := jt_g hf
          refine J_iast O (pc := 61) 4 1 rfl rfl h61 [(m, .inr (6, [.ref mt, .int m_tl, .ref md, .int m_dl, .ref mk, .ref ms, .int m_c, .ref mu, .ref mn, .ref mm, .int m_e, .ref mo, .int m_ol, .int m_fa, .int m_f, .ref mw, .int m_p, .int m_is])), (mt, .inl (cI, 6000, .inl m_t)), (md, .inl (cI, 12000, .inl m_d)), (mk, .inl (cI, 61, .inl (upd m_k (Int32.toNatClampNeg m_c) a1))), (ms, .inl (cI, 61, .inl (upd m_s (Int32.toNatClampNeg m_c) 0))), (mu, .inl (cI, 41, .inl m_u)), (mn, .inl (cJ, 41, .inr (.inl m_n))), (mm, .inl (cI, 41, .inl m_m)), (mo, .inl (cI, 14000, .inl m_o)), (mw, .inl (cI, 61, .inl m_w))] rfl dX10_add_61 ?_
          refine J_aload_n O (i := 0) (k0 := 0) (pc := 62) 0 rfl rfl dX10_add_62 ?_
          refine J_dup O (pc := 63) rfl dX10_add_63 ?_
          refine J_get O (pc := 64) in_X10_add_X10 0 rfl rfl 6 (by decide) mb_X10_add_2 rfl dX10_add_64 ?_
          refine J_iconst O (v := 1) (pc := 67) (by decide) dX10_add_67 ?_
          refine J_iadd O (pc := 68) dX10_add_68 ?_
          refine J_put O (pc := 69) in_X10_add_X10 tyX10 tyX10_ok nmX10 0 rfl rfl 6 (by decide) mb_X10_add_2 rfl rfl rfl (Nat.le_of_ble_eq_true rfl) [(m, .inr (6, [.ref mt, .int m_tl, .ref md, .int m_dl, .ref mk, .ref ms, .int (m_c + 1), .ref mu, .ref mn, .ref mm, .int m_e, .ref mo, .int m_ol, .int m_fa, .int m_f, .ref mw, .int m_p, .int m_is])), (mt, .inl (cI, 6000, .inl m_t)), (md, .inl (cI, 12000, .inl m_d)), (mk, .inl (cI, 61, .inl (upd m_k (Int32.toNatClampNeg m_c) a1))), (ms, .inl (cI, 61, .inl (upd m_s (Int32.toNatClampNeg m_c) 0))), (mu, .inl (cI, 41, .inl m_u)), (mn, .inl (cJ, 41, .inr (.inl m_n))), (mm, .inl (cI, 41, .inl m_m)), (mo, .inl (cI, 14000, .inl m_o)), (mw, .inl (cI, 61, .inl m_w))] rfl dX10_add_69 ?_
          refine J_aload_n O (i := 0) (k0 := 0) (pc := 72) 0 rfl rfl dX10_add_72 ?_
          refine J_aload_n O (i := 0) (k0 := 0) (pc := 73) 0 rfl rfl dX10_add_73 ?_
          refine J_get O (pc := 74) in_X10_add_X10 0 rfl rfl 6 (by decide) mb_X10_add_2 rfl dX10_add_74 ?_
          refine J_iconst O (v := 1) (pc := 77) (by decide) dX10_add_77 ?_
          refine J_isub O (pc := 78) dX10_add_78 ?_
          refine J_iconst O (v := 1) (pc := 79) (by decide) dX10_add_79 ?_
          obtain ⟨z80, h80, hf⟩ := jt_b hf
          refine J_callVv O (pc := 80) (c_X10_replace l D cB cI cJ m mt md mk ms mu mn mm mo mw m_tl m_dl (m_c + 1) m_e m_ol m_fa m_f m_p m_is m_t m_d (upd m_k (Int32.toNatClampNeg m_c) a1) (upd m_s (Int32.toNatClampNeg m_c) 0) m_u m_n m_m m_o m_w ((m_c + 1) - 1) 1 fu h80) rfl 0 rfl rfl gX10_add_X10_replace hdV_X10_replace ⟨(Nat.le_of_ble_eq_true rfl), (Nat.le_of_ble_eq_true rfl)⟩ rfl (st := []) rfl (Nat.le_of_ble_eq_true rfl) [0, 1, 2, 3, 4, 5, 6, 7, 8, 9] [] rfl rfl rfl rfl rfl (by decide) [(m, .inr (6, [.ref mt, .int z80.1, .ref md, .int z80.2.1, .ref mk, .ref ms, .int (m_c + 1), .ref mu, .ref mn, .ref mm, .int m_e, .ref mo, .int m_ol, .int m_fa, .int m_f, .ref mw, .int m_p, .int m_is])), (mt, .inl (cI, 6000, .inl m_t)), (md, .inl (cI, 12000, .inl z80.2.2.1)), (mk, .inl (cI, 61, .inl (upd m_k (Int32.toNatClampNeg m_c) a1))), (ms, .inl (cI, 61, .inl z80.2.2.2)), (mu, .inl (cI, 41, .inl m_u)), (mn, .inl (cJ, 41, .inr (.inl m_n))), (mm, .inl (cI, 41, .inl m_m)), (mo, .inl (cI, 14000, .inl m_o)), (mw, .inl (cI, 61, .inl m_w))] [0, 1, 2, 3, 4, 5, 6, 7, 8, 9] rfl rfl rfl (0) (0) (Nat.le_of_ble_eq_true rfl) (Nat.le_of_ble_eq_true rfl) ⟨(Nat.le_of_ble_eq_true rfl), (Nat.le_of_ble_eq_true rfl)⟩ dX10_add_80 ?_
          refine J_aload_n O (i := 0) (k0 := 0) (pc := 83) 0 rfl rfl dX10_add_83 ?_
          refine J_get O (pc := 84) in_X10_add_X10 0 rfl rfl 6 (by decide) mb_X10_add_2 rfl dX10_add_84 ?_
          refine J_iconst O (v := 1) (pc := 87) (by decide) dX10_add_87 ?_
          refine J_isub O (pc := 88) dX10_add_88 ?_
          have e9 := Option.some.inj hf
          subst e9
          exact J_iret O (pc := 89) rfl dX10_add_89
        · have hf := jt_f c36 hf
          refine J_bipush O (v := (-4)) (pc := 39) (by decide) dX10_add_39 ?_
          have e9 := Option.some.inj hf
          subst e9
          exact J_iret O (pc := 41) rfl dX10_add_41
    · have hf := jt_t c10 hf
      refine J_iconst O (v := (-1)) (pc := 13) (by decide) dX10_add_13 ?_
      have e9 := Option.some.inj hf
      subst e9
      exact J_iret O (pc := 14) rfl dX10_add_14
theorem in_X10_mean_X10 : ∀ w ∈ u_ws RX10 TX10 18, w ∈ wsX10_mean := fun _ h => List.mem_cons_of_mem _ (List.mem_append_right _ h)
theorem mb_X10_mean_1 : Cond.fieldLink RX10 119 (TX10 10).1 (TX10 10).2.1 (TX10 10).2.2.1 ∈ wsX10_mean := by decide +kernel
theorem mb_X10_mean_2 : Cond.fieldLink RX10 22 (TX10 7).1 (TX10 7).2.1 (TX10 7).2.2.1 ∈ wsX10_mean := by decide +kernel
theorem mb_X10_mean_3 : Cond.fieldLink RX10 25 (TX10 8).1 (TX10 8).2.1 (TX10 8).2.2.1 ∈ wsX10_mean := by decide +kernel
theorem mb_X10_mean_4 : Cond.fieldLink RX10 29 (TX10 9).1 (TX10 9).2.1 (TX10 9).2.2.1 ∈ wsX10_mean := by decide +kernel
abbrev rmX10_mean : Room := { frames := 2, cells := 0, slots := 0, locals := 46 }
set_option maxHeartbeats 4000000 in
set_option maxRecDepth 100000 in
theorem c_X10_mean (l : Launch) (D : va_G) (cB cI cJ : ClassId) (m mt md mk ms mu mn mm mo mw : Nat) (m_tl : Int32) (m_dl : Int32) (m_c : Int32) (m_e : Int32) (m_ol : Int32) (m_fa : Int32) (m_f : Int32) (m_p : Int32) (m_is : Int32) (m_t : Nat → Int32) (m_d : Nat → Int32) (m_k : Nat → Int32) (m_s : Nat → Int32) (m_u : Nat → Int32) (m_n : Nat → Int64) (m_m : Nat → Int32) (m_o : Nat → Int32) (m_w : Nat → Int32) (a1 : Int32) (a2 : Int64) (a4 : Int32) (fu : Nat) {z : Int32 × Int32 × (Nat → Int32) × (Nat → Int64) × (Nat → Int32)} (hf : p_X10_mean fu m_c m_e m_u m_n m_m a1 a2 a4 = some z) : Ci (l, D, cB, cI, cJ) yX10_mean wsX10_mean rmX10_mean [.ref m, .int a1, .long a2, .int a4] [(m, .inr (6, [.ref mt, .int m_tl, .ref md, .int m_dl, .ref mk, .ref ms, .int m_c, .ref mu, .ref mn, .ref mm, .int m_e, .ref mo, .int m_ol, .int m_fa, .int m_f, .ref mw, .int m_p, .int m_is])), (mt, .inl (cI, 6000, .inl m_t)), (md, .inl (cI, 12000, .inl m_d)), (mk, .inl (cI, 61, .inl m_k)), (ms, .inl (cI, 61, .inl m_s)), (mu, .inl (cI, 41, .inl m_u)), (mn, .inl (cJ, 41, .inr (.inl m_n))), (mm, .inl (cI, 41, .inl m_m)), (mo, .inl (cI, 14000, .inl m_o)), (mw, .inl (cI, 61, .inl m_w))] [(m, .inr (6, [.ref mt, .int m_tl, .ref md, .int m_dl, .ref mk, .ref ms, .int m_c, .ref mu, .ref mn, .ref mm, .int z.2.1, .ref mo, .int m_ol, .int m_fa, .int m_f, .ref mw, .int m_p, .int m_is])), (mt, .inl (cI, 6000, .inl m_t)), (md, .inl (cI, 12000, .inl m_d)), (mk, .inl (cI, 61, .inl m_k)), (ms, .inl (cI, 61, .inl m_s)), (mu, .inl (cI, 41, .inl z.2.2.1)), (mn, .inl (cJ, 41, .inr (.inl z.2.2.2.1))), (mm, .inl (cI, 41, .inl z.2.2.2.2)), (mo, .inl (cI, 14000, .inl m_o)), (mw, .inl (cI, 61, .inl m_w))] z.1 := by
  refine Ci_of (cc := cX10_mean) (nL := 5) (own := RX10) (ret := (some .int)) (by decide) rfl rfl (Nat.le_of_ble_eq_true rfl) (fun X O hnm0 => ?_)
  rw [p_X10_mean] at hf
  show J X 5 (JQi X [(m, .inr (6, [.ref mt, .int m_tl, .ref md, .int m_dl, .ref mk, .ref ms, .int m_c, .ref mu, .ref mn, .ref mm, .int z.2.1, .ref mo, .int m_ol, .int m_fa, .int m_f, .ref mw, .int m_p, .int m_is])), (mt, .inl (cI, 6000, .inl m_t)), (md, .inl (cI, 12000, .inl m_d)), (mk, .inl (cI, 61, .inl m_k)), (ms, .inl (cI, 61, .inl m_s)), (mu, .inl (cI, 41, .inl z.2.2.1)), (mn, .inl (cJ, 41, .inr (.inl z.2.2.2.1))), (mm, .inl (cI, 41, .inl z.2.2.2.2)), (mo, .inl (cI, 14000, .inl m_o)), (mw, .inl (cI, 61, .inl m_w))] z.1 0 0) [(m, .inr (6, [.ref mt, .int m_tl, .ref md, .int m_dl, .ref mk, .ref ms, .int m_c, .ref mu, .ref mn, .ref mm, .int m_e, .ref mo, .int m_ol, .int m_fa, .int m_f, .ref mw, .int m_p, .int m_is])), (mt, .inl (cI, 6000, .inl m_t)), (md, .inl (cI, 12000, .inl m_d)), (mk, .inl (cI, 61, .inl m_k)), (ms, .inl (cI, 61, .inl m_s)), (mu, .inl (cI, 41, .inl m_u)), (mn, .inl (cJ, 41, .inr (.inl m_n))), (mm, .inl (cI, 41, .inl m_m)), (mo, .inl (cI, 14000, .inl m_o)), (mw, .inl (cI, 61, .inl m_w))] 0 0 0 [(0, .ref m), (1, .int a1), (2, .long a2), (4, .int a4)] []
  refine J_iload_n O (i := 1) (k0 := 1) (pc := 0) 1 rfl rfl dX10_mean_0 ?_
  obtain ⟨z1, h1, hf⟩ := jt_b hf
  refine J_callSi O (pc := 1) (c_X10_isUse l D cB cI cJ a1 h1) rfl gX10_mean_X10_isUse hdS_X10_isUse ⟨(Nat.le_of_ble_eq_true rfl), (Nat.le_of_ble_eq_true rfl)⟩ rfl (st := []) rfl (Nat.le_of_ble_eq_true rfl) [] [0, 1, 2, 3, 4, 5, 6, 7, 8, 9] rfl rfl rfl rfl rfl (by decide) [(m, .inr (6, [.ref mt, .int m_tl, .ref md, .int m_dl, .ref mk, .ref ms, .int m_c, .ref mu, .ref mn, .ref mm, .int m_e, .ref mo, .int m_ol, .int m_fa, .int m_f, .ref mw, .int m_p, .int m_is])), (mt, .inl (cI, 6000, .inl m_t)), (md, .inl (cI, 12000, .inl m_d)), (mk, .inl (cI, 61, .inl m_k)), (ms, .inl (cI, 61, .inl m_s)), (mu, .inl (cI, 41, .inl m_u)), (mn, .inl (cJ, 41, .inr (.inl m_n))), (mm, .inl (cI, 41, .inl m_m)), (mo, .inl (cI, 14000, .inl m_o)), (mw, .inl (cI, 61, .inl m_w))] [0, 1, 2, 3, 4, 5, 6, 7, 8, 9] rfl rfl rfl (0) (0) (Nat.le_of_ble_eq_true rfl) (Nat.le_of_ble_eq_true rfl) ⟨(Nat.le_of_ble_eq_true rfl), (Nat.le_of_ble_eq_true rfl)⟩ dX10_mean_1 ?_
  refine J_zeq O (tgt := 23) (pc := 4) dX10_mean_4 (by decide) (fun c4 => ?_) (fun c4 => ?_)
  · have hf := jt_f c4 hf
    refine J_iconst O (v := (-1)) (pc := 23) (by decide) dX10_mean_23 ?_
    have e9 := Option.some.inj hf
    subst e9
    exact J_iret O (pc := 24) rfl dX10_mean_24
  · have hf := jt_t c4 hf
    refine J_lload_n O (i := 2) (k0 := 2) (pc := 7) 2 rfl rfl dX10_mean_7 ?_
    obtain ⟨z8, h8, hf⟩ := jt_b hf
    refine J_callSi O (pc := 8) (c_X10_isNumber l D cB cI cJ a2 h8) rfl gX10_mean_X10_isNumber hdS_X10_isNumber ⟨(Nat.le_of_ble_eq_true rfl), (Nat.le_of_ble_eq_true rfl)⟩ rfl (st := []) rfl (Nat.le_of_ble_eq_true rfl) [] [0, 1, 2, 3, 4, 5, 6, 7, 8, 9] rfl rfl rfl rfl rfl (by decide) [(m, .inr (6, [.ref mt, .int m_tl, .ref md, .int m_dl, .ref mk, .ref ms, .int m_c, .ref mu, .ref mn, .ref mm, .int m_e, .ref mo, .int m_ol, .int m_fa, .int m_f, .ref mw, .int m_p, .int m_is])), (mt, .inl (cI, 6000, .inl m_t)), (md, .inl (cI, 12000, .inl m_d)), (mk, .inl (cI, 61, .inl m_k)), (ms, .inl (cI, 61, .inl m_s)), (mu, .inl (cI, 41, .inl m_u)), (mn, .inl (cJ, 41, .inr (.inl m_n))), (mm, .inl (cI, 41, .inl m_m)), (mo, .inl (cI, 14000, .inl m_o)), (mw, .inl (cI, 61, .inl m_w))] [0, 1, 2, 3, 4, 5, 6, 7, 8, 9] rfl rfl rfl (0) (0) (Nat.le_of_ble_eq_true rfl) (Nat.le_of_ble_eq_true rfl) ⟨(Nat.le_of_ble_eq_true rfl), (Nat.le_of_ble_eq_true rfl)⟩ dX10_mean_8 ?_
    refine J_zeq O (tgt := 23) (pc := 11) dX10_mean_11 (by decide) (fun c11 => ?_) (fun c11 => ?_)
    · have hf := jt_f c11 hf
      refine J_iconst O (v := (-1)) (pc := 23) (by decide) dX10_mean_23 ?_
      have e9 := Option.some.inj hf
      subst e9
      exact J_iret O (pc := 24) rfl dX10_mean_24
    · have hf := jt_t c11 hf
      refine J_aload_n O (i := 0) (k0 := 0) (pc := 14) 0 rfl rfl dX10_mean_14 ?_
      refine J_iload O (i := 4) (pc := 15) 3 rfl dX10_mean_15 ?_
      obtain ⟨z17, h17, hf⟩ := jt_b hf
      refine J_callVi O (pc := 17) (c_X10_isChunk l D cB cI cJ m mt md mk ms mu mn mm mo mw m_tl m_dl m_c m_e m_ol m_fa m_f m_p m_is m_t m_d m_k m_s m_u m_n m_m m_o m_w a4 h17) rfl 0 rfl rfl gX10_mean_X10_isChunk hdV_X10_isChunk ⟨(Nat.le_of_ble_eq_true rfl), (Nat.le_of_ble_eq_true rfl)⟩ rfl (st := []) rfl (Nat.le_of_ble_eq_true rfl) [0, 1, 2, 3, 4, 5, 6, 7, 8, 9] [] rfl rfl rfl rfl rfl (by decide) [(m, .inr (6, [.ref mt, .int m_tl, .ref md, .int m_dl, .ref mk, .ref ms, .int m_c, .ref mu, .ref mn, .ref mm, .int m_e, .ref mo, .int m_ol, .int m_fa, .int m_f, .ref mw, .int m_p, .int m_is])), (mt, .inl (cI, 6000, .inl m_t)), (md, .inl (cI, 12000, .inl m_d)), (mk, .inl (cI, 61, .inl m_k)), (ms, .inl (cI, 61, .inl m_s)), (mu, .inl (cI, 41, .inl m_u)), (mn, .inl (cJ, 41, .inr (.inl m_n))), (mm, .inl (cI, 41, .inl m_m)), (mo, .inl (cI, 14000, .inl m_o)), (mw, .inl (cI, 61, .inl m_w))] [0, 1, 2, 3, 4, 5, 6, 7, 8, 9] rfl rfl rfl (0) (0) (Nat.le_of_ble_eq_true rfl) (Nat.le_of_ble_eq_true rfl) ⟨(Nat.le_of_ble_eq_true rfl), (Nat.le_of_ble_eq_true rfl)⟩ dX10_mean_17 ?_
      refine J_zne O (tgt := 25) (pc := 20) dX10_mean_20 (by decide) (fun c20 => ?_) (fun c20 => ?_)
      · have hf := jt_t c20 hf
        refine J_aload_n O (i := 0) (k0 := 0) (pc := 25) 0 rfl rfl dX10_mean_25 ?_
        refine J_iload_n O (i := 1) (k0 := 1) (pc := 26) 1 rfl rfl dX10_mean_26 ?_
        refine J_lload_n O (i := 2) (k0 := 2) (pc := 27) 2 rfl rfl dX10_mean_27 ?_
        obtain ⟨z28, h28, hf⟩ := jt_b hf
        refine J_callVi O (pc := 28) (c_X10_entryFor l D cB cI cJ m mt md mk ms mu mn mm mo mw m_tl m_dl m_c m_e m_ol m_fa m_f m_p m_is m_t m_d m_k m_s m_u m_n m_m m_o m_w a1 a2 fu h28) rfl 0 rfl rfl gX10_mean_X10_entryFor hdV_X10_entryFor ⟨(Nat.le_of_ble_eq_true rfl), (Nat.le_of_ble_eq_true rfl)⟩ rfl (st := []) rfl (Nat.le_of_ble_eq_true rfl) [0, 1, 2, 3, 4, 5, 6, 7, 8, 9] [] rfl rfl rfl rfl rfl (by decide) [(m, .inr (6, [.ref mt, .int m_tl, .ref md, .int m_dl, .ref mk, .ref ms, .int m_c, .ref mu, .ref mn, .ref mm, .int m_e, .ref mo, .int m_ol, .int m_fa, .int m_f, .ref mw, .int m_p, .int m_is])), (mt, .inl (cI, 6000, .inl m_t)), (md, .inl (cI, 12000, .inl m_d)), (mk, .inl (cI, 61, .inl m_k)), (ms, .inl (cI, 61, .inl m_s)), (mu, .inl (cI, 41, .inl m_u)), (mn, .inl (cJ, 41, .inr (.inl m_n))), (mm, .inl (cI, 41, .inl m_m)), (mo, .inl (cI, 14000, .inl m_o)), (mw, .inl (cI, 61, .inl m_w))] [0, 1, 2, 3, 4, 5, 6, 7, 8, 9] rfl rfl rfl (0) (0) (Nat.le_of_ble_eq_true rfl) (Nat.le_of_ble_eq_true rfl) ⟨(Nat.le_of_ble_eq_true rfl), (Nat.le_of_ble_eq_true rfl)⟩ dX10_mean_28 ?_
        refine J_bipush O (v := (-2)) (pc := 31) (by decide) dX10_mean_31 ?_
        refine J_icmp_eq O (tgt := 39) (pc := 33) dX10_mean_33 (by decide) (fun c33 => ?_) (fun c33 => ?_)
        · have hf := jt_t c33 hf
          refine J_aload_n O (i := 0) (k0 := 0) (pc := 39) 0 rfl rfl dX10_mean_39 ?_
          refine J_get O (pc := 40) in_X10_mean_X10 0 rfl rfl 10 (by decide) mb_X10_mean_1 rfl dX10_mean_40 ?_
          refine J_bipush O (v := 40) (pc := 43) (by decide) dX10_mean_43 ?_
          refine J_icmp_ne O (tgt := 51) (pc := 45) dX10_mean_45 (by decide) (fun c45 => ?_) (fun c45 => ?_)
          · have hf := jt_f c45 hf
            refine J_aload_n O (i := 0) (k0 := 0) (pc := 51) 0 rfl rfl dX10_mean_51 ?_
            refine J_get O (pc := 52) in_X10_mean_X10 0 rfl rfl 7 (by decide) mb_X10_mean_2 rfl dX10_mean_52 ?_
            refine J_aload_n O (i := 0) (k0 := 0) (pc := 55) 0 rfl rfl dX10_mean_55 ?_
            refine J_get O (pc := 56) in_X10_mean_X10 0 rfl rfl 10 (by decide) mb_X10_mean_1 rfl dX10_mean_56 ?_
            refine J_iload_n O (i := 1) (k0 := 1) (pc := 59) 1 rfl rfl dX10_mean_59 ?_
            obtain ⟨h60, hf⟩ := jt_g hf
            refine J_iast O (pc := 60) 5 1 rfl rfl h60 [(m, .inr (6, [.ref mt, .int m_tl, .ref md, .int m_dl, .ref mk, .ref ms, .int m_c, .ref mu, .ref mn, .ref mm, .int m_e, .ref mo, .int m_ol, .int m_fa, .int m_f, .ref mw, .int m_p, .int m_is])), (mt, .inl (cI, 6000, .inl m_t)), (md, .inl (cI, 12000, .inl m_d)), (mk, .inl (cI, 61, .inl m_k)), (ms, .inl (cI, 61, .inl m_s)), (mu, .inl (cI, 41, .inl (upd m_u (Int32.toNatClampNeg m_e) a1))), (mn, .inl (cJ, 41, .inr (.inl m_n))), (mm, .inl (cI, 41, .inl m_m)), (mo, .inl (cI, 14000, .inl m_o)), (mw, .inl (cI, 61, .inl m_w))] rfl dX10_mean_60 ?_
            refine J_aload_n O (i := 0) (k0 := 0) (pc := 61) 0 rfl rfl dX10_mean_61 ?_
            refine J_get O (pc := 62) in_X10_mean_X10 0 rfl rfl 8 (by decide) mb_X10_mean_3 rfl dX10_mean_62 ?_
            refine J_aload_n O (i := 0) (k0 := 0) (pc := 65) 0 rfl rfl dX10_mean_65 ?_
            refine J_get O (pc := 66) in_X10_mean_X10 0 rfl rfl 10 (by decide) mb_X10_mean_1 rfl dX10_mean_66 ?_
            refine J_lload_n O (i := 2) (k0 := 2) (pc := 69) 2 rfl rfl dX10_mean_69 ?_
            obtain ⟨h70, hf⟩ := jt_g hf
            refine J_last O (pc := 70) 6 2 rfl rfl h70 [(m, .inr (6, [.ref mt, .int m_tl, .ref md, .int m_dl, .ref mk, .ref ms, .int m_c, .ref mu, .ref mn, .ref mm, .int m_e, .ref mo, .int m_ol, .int m_fa, .int m_f, .ref mw, .int m_p, .int m_is])), (mt, .inl (cI, 6000, .inl m_t)), (md, .inl (cI, 12000, .inl m_d)), (mk, .inl (cI, 61, .inl m_k)), (ms, .inl (cI, 61, .inl m_s)), (mu, .inl (cI, 41, .inl (upd m_u (Int32.toNatClampNeg m_e) a1))), (mn, .inl (cJ, 41, .inr (.inl (vp_updL m_n (Int32.toNatClampNeg m_e) a2)))), (mm, .inl (cI, 41, .inl m_m)), (mo, .inl (cI, 14000, .inl m_o)), (mw, .inl (cI, 61, .inl m_w))] rfl dX10_mean_70 ?_
            refine J_aload_n O (i := 0) (k0 := 0) (pc := 71) 0 rfl rfl dX10_mean_71 ?_
            refine J_get O (pc := 72) in_X10_mean_X10 0 rfl rfl 9 (by decide) mb_X10_mean_4 rfl dX10_mean_72 ?_
            refine J_aload_n O (i := 0) (k0 := 0) (pc := 75) 0 rfl rfl dX10_mean_75 ?_
            refine J_get O (pc := 76) in_X10_mean_X10 0 rfl rfl 10 (by decide) mb_X10_mean_1 rfl dX10_mean_76 ?_
            refine J_iload O (i := 4) (pc := 79) 3 rfl dX10_mean_79 ?_
            obtain ⟨h81, hf⟩ := jt_g hf
            refine J_iast O (pc := 81) 7 1 rfl rfl h81 [(m, .inr (6, [.ref mt, .int m_tl, .ref md, .int m_dl, .ref mk, .ref ms, .int m_c, .ref mu, .ref mn, .ref mm, .int m_e, .ref mo, .int m_ol, .int m_fa, .int m_f, .ref mw, .int m_p, .int m_is])), (mt, .inl (cI, 6000, .inl m_t)), (md, .inl (cI, 12000, .inl m_d)), (mk, .inl (cI, 61, .inl m_k)), (ms, .inl (cI, 61, .inl m_s)), (mu, .inl (cI, 41, .inl (upd m_u (Int32.toNatClampNeg m_e) a1))), (mn, .inl (cJ, 41, .inr (.inl (vp_updL m_n (Int32.toNatClampNeg m_e) a2)))), (mm, .inl (cI, 41, .inl (upd m_m (Int32.toNatClampNeg m_e) a4))), (mo, .inl (cI, 14000, .inl m_o)), (mw, .inl (cI, 61, .inl m_w))] rfl dX10_mean_81 ?_
            refine J_aload_n O (i := 0) (k0 := 0) (pc := 82) 0 rfl rfl dX10_mean_82 ?_
            refine J_dup O (pc := 83) rfl dX10_mean_83 ?_
            refine J_get O (pc := 84) in_X10_mean_X10 0 rfl rfl 10 (by decide) mb_X10_mean_1 rfl dX10_mean_84 ?_
            refine J_iconst O (v := 1) (pc := 87) (by decide) dX10_mean_87 ?_
            refine J_iadd O (pc := 88) dX10_mean_88 ?_
            refine J_put O (pc := 89) in_X10_mean_X10 tyX10 tyX10_ok nmX10 0 rfl rfl 10 (by decide) mb_X10_mean_1 rfl rfl rfl (Nat.le_of_ble_eq_true rfl) [(m, .inr (6, [.ref mt, .int m_tl, .ref md, .int m_dl, .ref mk, .ref ms, .int m_c, .ref mu, .ref mn, .ref mm, .int (m_e + 1), .ref mo, .int m_ol, .int m_fa, .int m_f, .ref mw, .int m_p, .int m_is])), (mt, .inl (cI, 6000, .inl m_t)), (md, .inl (cI, 12000, .inl m_d)), (mk, .inl (cI, 61, .inl m_k)), (ms, .inl (cI, 61, .inl m_s)), (mu, .inl (cI, 41, .inl (upd m_u (Int32.toNatClampNeg m_e) a1))), (mn, .inl (cJ, 41, .inr (.inl (vp_updL m_n (Int32.toNatClampNeg m_e) a2)))), (mm, .inl (cI, 41, .inl (upd m_m (Int32.toNatClampNeg m_e) a4))), (mo, .inl (cI, 14000, .inl m_o)), (mw, .inl (cI, 61, .inl m_w))] rfl dX10_mean_89 ?_
            refine J_aload_n O (i := 0) (k0 := 0) (pc := 92) 0 rfl rfl dX10_mean_92 ?_
            refine J_get O (pc := 93) in_X10_mean_X10 0 rfl rfl 10 (by decide) mb_X10_mean_1 rfl dX10_mean_93 ?_
            refine J_iconst O (v := 1) (pc := 96) (by decide) dX10_mean_96 ?_
            refine J_isub O (pc := 97) dX10_mean_97 ?_
            have e9 := Option.some.inj hf
            subst e9
            exact J_iret O (pc := 98) rfl dX10_mean_98
          · have hf := jt_t c45 hf
            refine J_bipush O (v := (-4)) (pc := 48) (by decide) dX10_mean_48 ?_
            have e9 := Option.some.inj hf
            subst e9
            exact J_iret O (pc := 50) rfl dX10_mean_50
        · have hf := jt_f c33 hf
          refine J_bipush O (v := (-3)) (pc := 36) (by decide) dX10_mean_36 ?_
          have e9 := Option.some.inj hf
          subst e9
          exact J_iret O (pc := 38) rfl dX10_mean_38
      · have hf := jt_f c20 hf
        refine J_iconst O (v := (-1)) (pc := 23) (by decide) dX10_mean_23 ?_
        have e9 := Option.some.inj hf
        subst e9
        exact J_iret O (pc := 24) rfl dX10_mean_24
theorem in_X10_change_X10 : ∀ w ∈ u_ws RX10 TX10 18, w ∈ wsX10_change := fun _ h => List.mem_cons_of_mem _ (List.mem_append_right _ h)
theorem mb_X10_change_1 : Cond.fieldLink RX10 116 (TX10 3).1 (TX10 3).2.1 (TX10 3).2.2.1 ∈ wsX10_change := by decide +kernel
theorem mb_X10_change_2 : Cond.fieldLink RX10 19 (TX10 5).1 (TX10 5).2.1 (TX10 5).2.2.1 ∈ wsX10_change := by decide +kernel
theorem mb_X10_change_3 : Cond.fieldLink RX10 58 (TX10 1).1 (TX10 1).2.1 (TX10 1).2.2.1 ∈ wsX10_change := by decide +kernel
abbrev rmX10_change : Room := { frames := 2, cells := 0, slots := 0, locals := 49 }
set_option maxHeartbeats 4000000 in
set_option maxRecDepth 100000 in
theorem c_X10_change (l : Launch) (D : va_G) (cB cI cJ : ClassId) (m mt md mk ms mu mn mm mo mw : Nat) (m_tl : Int32) (m_dl : Int32) (m_c : Int32) (m_e : Int32) (m_ol : Int32) (m_fa : Int32) (m_f : Int32) (m_p : Int32) (m_is : Int32) (m_t : Nat → Int32) (m_d : Nat → Int32) (m_k : Nat → Int32) (m_s : Nat → Int32) (m_u : Nat → Int32) (m_n : Nat → Int64) (m_m : Nat → Int32) (m_o : Nat → Int32) (m_w : Nat → Int32) (a1 : Int32) (fu : Nat) {z : Int32 × Int32 × Int32 × (Nat → Int32) × (Nat → Int32)} (hf : p_X10_change fu m_tl m_dl m_c m_t m_d m_s a1 = some z) : Ci (l, D, cB, cI, cJ) yX10_change wsX10_change rmX10_change [.ref m, .int a1] [(m, .inr (6, [.ref mt, .int m_tl, .ref md, .int m_dl, .ref mk, .ref ms, .int m_c, .ref mu, .ref mn, .ref mm, .int m_e, .ref mo, .int m_ol, .int m_fa, .int m_f, .ref mw, .int m_p, .int m_is])), (mt, .inl (cI, 6000, .inl m_t)), (md, .inl (cI, 12000, .inl m_d)), (mk, .inl (cI, 61, .inl m_k)), (ms, .inl (cI, 61, .inl m_s)), (mu, .inl (cI, 41, .inl m_u)), (mn, .inl (cJ, 41, .inr (.inl m_n))), (mm, .inl (cI, 41, .inl m_m)), (mo, .inl (cI, 14000, .inl m_o)), (mw, .inl (cI, 61, .inl m_w))] [(m, .inr (6, [.ref mt, .int z.2.1, .ref md, .int z.2.2.1, .ref mk, .ref ms, .int m_c, .ref mu, .ref mn, .ref mm, .int m_e, .ref mo, .int m_ol, .int m_fa, .int m_f, .ref mw, .int m_p, .int m_is])), (mt, .inl (cI, 6000, .inl m_t)), (md, .inl (cI, 12000, .inl z.2.2.2.1)), (mk, .inl (cI, 61, .inl m_k)), (ms, .inl (cI, 61, .inl z.2.2.2.2)), (mu, .inl (cI, 41, .inl m_u)), (mn, .inl (cJ, 41, .inr (.inl m_n))), (mm, .inl (cI, 41, .inl m_m)), (mo, .inl (cI, 14000, .inl m_o)), (mw, .inl (cI, 61, .inl m_w))] z.1 := by
  refine Ci_of (cc := cX10_change) (nL := 3) (own := RX10) (ret := (some .int)) (by decide) rfl rfl (Nat.le_of_ble_eq_true rfl) (fun X O hnm0 => ?_)
  rw [p_X10_change] at hf
  show J X 3 (JQi X [(m, .inr (6, [.ref mt, .int z.2.1, .ref md, .int z.2.2.1, .ref mk, .ref ms, .int m_c, .ref mu, .ref mn, .ref mm, .int m_e, .ref mo, .int m_ol, .int m_fa, .int m_f, .ref mw, .int m_p, .int m_is])), (mt, .inl (cI, 6000, .inl m_t)), (md, .inl (cI, 12000, .inl z.2.2.2.1)), (mk, .inl (cI, 61, .inl m_k)), (ms, .inl (cI, 61, .inl z.2.2.2.2)), (mu, .inl (cI, 41, .inl m_u)), (mn, .inl (cJ, 41, .inr (.inl m_n))), (mm, .inl (cI, 41, .inl m_m)), (mo, .inl (cI, 14000, .inl m_o)), (mw, .inl (cI, 61, .inl m_w))] z.1 0 0) [(m, .inr (6, [.ref mt, .int m_tl, .ref md, .int m_dl, .ref mk, .ref ms, .int m_c, .ref mu, .ref mn, .ref mm, .int m_e, .ref mo, .int m_ol, .int m_fa, .int m_f, .ref mw, .int m_p, .int m_is])), (mt, .inl (cI, 6000, .inl m_t)), (md, .inl (cI, 12000, .inl m_d)), (mk, .inl (cI, 61, .inl m_k)), (ms, .inl (cI, 61, .inl m_s)), (mu, .inl (cI, 41, .inl m_u)), (mn, .inl (cJ, 41, .inr (.inl m_n))), (mm, .inl (cI, 41, .inl m_m)), (mo, .inl (cI, 14000, .inl m_o)), (mw, .inl (cI, 61, .inl m_w))] 0 0 0 [(0, .ref m), (1, .int a1)] []
  refine J_aload_n O (i := 0) (k0 := 0) (pc := 0) 0 rfl rfl dX10_change_0 ?_
  refine J_iload_n O (i := 1) (k0 := 1) (pc := 1) 1 rfl rfl dX10_change_1 ?_
  obtain ⟨z2, h2, hf⟩ := jt_b hf
  refine J_callVi O (pc := 2) (c_X10_isChunk l D cB cI cJ m mt md mk ms mu mn mm mo mw m_tl m_dl m_c m_e m_ol m_fa m_f m_p m_is m_t m_d m_k m_s m_u m_n m_m m_o m_w a1 h2) rfl 0 rfl rfl gX10_change_X10_isChunk hdV_X10_isChunk ⟨(Nat.le_of_ble_eq_true rfl), (Nat.le_of_ble_eq_true rfl)⟩ rfl (st := []) rfl (Nat.le_of_ble_eq_true rfl) [0, 1, 2, 3, 4, 5, 6, 7, 8, 9] [] rfl rfl rfl rfl rfl (by decide) [(m, .inr (6, [.ref mt, .int m_tl, .ref md, .int m_dl, .ref mk, .ref ms, .int m_c, .ref mu, .ref mn, .ref mm, .int m_e, .ref mo, .int m_ol, .int m_fa, .int m_f, .ref mw, .int m_p, .int m_is])), (mt, .inl (cI, 6000, .inl m_t)), (md, .inl (cI, 12000, .inl m_d)), (mk, .inl (cI, 61, .inl m_k)), (ms, .inl (cI, 61, .inl m_s)), (mu, .inl (cI, 41, .inl m_u)), (mn, .inl (cJ, 41, .inr (.inl m_n))), (mm, .inl (cI, 41, .inl m_m)), (mo, .inl (cI, 14000, .inl m_o)), (mw, .inl (cI, 61, .inl m_w))] [0, 1, 2, 3, 4, 5, 6, 7, 8, 9] rfl rfl rfl (0) (0) (Nat.le_of_ble_eq_true rfl) (Nat.le_of_ble_eq_true rfl) ⟨(Nat.le_of_ble_eq_true rfl), (Nat.le_of_ble_eq_true rfl)⟩ dX10_change_2 ?_
  refine J_zne O (tgt := 10) (pc := 5) dX10_change_5 (by decide) (fun c5 => ?_) (fun c5 => ?_)
  · have hf := jt_t c5 hf
    refine J_aload_n O (i := 0) (k0 := 0) (pc := 10) 0 rfl rfl dX10_change_10 ?_
    refine J_get O (pc := 11) in_X10_change_X10 0 rfl rfl 3 (by decide) mb_X10_change_1 rfl dX10_change_11 ?_
    refine J_aload_n O (i := 0) (k0 := 0) (pc := 14) 0 rfl rfl dX10_change_14 ?_
    refine J_get O (pc := 15) in_X10_change_X10 0 rfl rfl 5 (by decide) mb_X10_change_2 rfl dX10_change_15 ?_
    refine J_iload_n O (i := 1) (k0 := 1) (pc := 18) 1 rfl rfl dX10_change_18 ?_
    obtain ⟨h19, hf⟩ := jt_g hf
    refine J_iald O (pc := 19) 4 1 rfl rfl h19 dX10_change_19 ?_
    refine J_isub O (pc := 20) dX10_change_20 ?_
    refine J_aload_n O (i := 0) (k0 := 0) (pc := 21) 0 rfl rfl dX10_change_21 ?_
    refine J_get O (pc := 22) in_X10_change_X10 0 rfl rfl 1 (by decide) mb_X10_change_3 rfl dX10_change_22 ?_
    refine J_iadd O (pc := 25) dX10_change_25 ?_
    refine J_sipush O (v := 12000) (pc := 26) (by decide) dX10_change_26 ?_
    refine J_icmp_le O (tgt := 35) (pc := 29) dX10_change_29 (by decide) (fun c29 => ?_) (fun c29 => ?_)
    · have hf := jt_t c29 hf
      refine J_aload_n O (i := 0) (k0 := 0) (pc := 35) 0 rfl rfl dX10_change_35 ?_
      refine J_get O (pc := 36) in_X10_change_X10 0 rfl rfl 5 (by decide) mb_X10_change_2 rfl dX10_change_36 ?_
      refine J_iload_n O (i := 1) (k0 := 1) (pc := 39) 1 rfl rfl dX10_change_39 ?_
      obtain ⟨h40, hf⟩ := jt_g hf
      refine J_iald O (pc := 40) 4 1 rfl rfl h40 dX10_change_40 ?_
      refine J_istore_n O (i := 2) (k0 := 2) (pc := 41) rfl [(2, .int (m_s (Int32.toNatClampNeg a1))), (0, .ref m), (1, .int a1)] (by decide) rfl dX10_change_41 ?_
      refine J_aload_n O (i := 0) (k0 := 0) (pc := 42) 1 rfl rfl dX10_change_42 ?_
      refine J_iload_n O (i := 1) (k0 := 1) (pc := 43) 2 rfl rfl dX10_change_43 ?_
      refine J_iconst O (v := 1) (pc := 44) (by decide) dX10_change_44 ?_
      obtain ⟨z45, h45, hf⟩ := jt_b hf
      refine J_callVv O (pc := 45) (c_X10_replace l D cB cI cJ m mt md mk ms mu mn mm mo mw m_tl m_dl m_c m_e m_ol m_fa m_f m_p m_is m_t m_d m_k m_s m_u m_n m_m m_o m_w a1 1 fu h45) rfl 0 rfl rfl gX10_change_X10_replace hdV_X10_replace ⟨(Nat.le_of_ble_eq_true rfl), (Nat.le_of_ble_eq_true rfl)⟩ rfl (st := []) rfl (Nat.le_of_ble_eq_true rfl) [0, 1, 2, 3, 4, 5, 6, 7, 8, 9] [] rfl rfl rfl rfl rfl (by decide) [(m, .inr (6, [.ref mt, .int z45.1, .ref md, .int z45.2.1, .ref mk, .ref ms, .int m_c, .ref mu, .ref mn, .ref mm, .int m_e, .ref mo, .int m_ol, .int m_fa, .int m_f, .ref mw, .int m_p, .int m_is])), (mt, .inl (cI, 6000, .inl m_t)), (md, .inl (cI, 12000, .inl z45.2.2.1)), (mk, .inl (cI, 61, .inl m_k)), (ms, .inl (cI, 61, .inl z45.2.2.2)), (mu, .inl (cI, 41, .inl m_u)), (mn, .inl (cJ, 41, .inr (.inl m_n))), (mm, .inl (cI, 41, .inl m_m)), (mo, .inl (cI, 14000, .inl m_o)), (mw, .inl (cI, 61, .inl m_w))] [0, 1, 2, 3, 4, 5, 6, 7, 8, 9] rfl rfl rfl (0) (0) (Nat.le_of_ble_eq_true rfl) (Nat.le_of_ble_eq_true rfl) ⟨(Nat.le_of_ble_eq_true rfl), (Nat.le_of_ble_eq_true rfl)⟩ dX10_change_45 ?_
      refine J_iload_n O (i := 2) (k0 := 2) (pc := 48) 0 rfl rfl dX10_change_48 ?_
      have e9 := Option.some.inj hf
      subst e9
      exact J_iret O (pc := 49) rfl dX10_change_49
    · have hf := jt_f c29 hf
      refine J_bipush O (v := (-4)) (pc := 32) (by decide) dX10_change_32 ?_
      have e9 := Option.some.inj hf
      subst e9
      exact J_iret O (pc := 34) rfl dX10_change_34
  · have hf := jt_f c5 hf
    refine J_iconst O (v := (-1)) (pc := 8) (by decide) dX10_change_8 ?_
    have e9 := Option.some.inj hf
    subst e9
    exact J_iret O (pc := 9) rfl dX10_change_9
theorem in_X10_goesAway_X10 : ∀ w ∈ u_ws RX10 TX10 18, w ∈ wsX10_goesAway := fun _ h => List.mem_cons_of_mem _ (List.mem_append_right _ h)
theorem mb_X10_goesAway_1 : Cond.fieldLink RX10 19 (TX10 5).1 (TX10 5).2.1 (TX10 5).2.2.1 ∈ wsX10_goesAway := by decide +kernel
theorem mb_X10_goesAway_2 : Cond.fieldLink RX10 113 (TX10 6).1 (TX10 6).2.1 (TX10 6).2.2.1 ∈ wsX10_goesAway := by decide +kernel
theorem mb_X10_goesAway_3 : Cond.fieldLink RX10 119 (TX10 10).1 (TX10 10).2.1 (TX10 10).2.2.1 ∈ wsX10_goesAway := by decide +kernel
theorem mb_X10_goesAway_4 : Cond.fieldLink RX10 29 (TX10 9).1 (TX10 9).2.1 (TX10 9).2.2.1 ∈ wsX10_goesAway := by decide +kernel
theorem mb_X10_goesAway_5 : Cond.fieldLink RX10 16 (TX10 4).1 (TX10 4).2.1 (TX10 4).2.2.1 ∈ wsX10_goesAway := by decide +kernel
abbrev rmX10_goesAway : Room := { frames := 2, cells := 0, slots := 0, locals := 49 }
set_option maxHeartbeats 4000000 in
set_option maxRecDepth 100000 in
theorem wk_X10_goesAway_69 {X : JC} {l : Launch} {D : va_G} {cB cI cJ : ClassId} (O : Jo X (l, D, cB, cI, cJ) cX10_goesAway 4 RX10 wsX10_goesAway rmX10_goesAway (some .int)) (m mt md mk ms mu mn mm mo mw : Nat) (m_e : Int32) (m_ol : Int32) (m_fa : Int32) (m_f : Int32) (m_p : Int32) (m_is : Int32) (m_t : Nat → Int32) (m_u : Nat → Int32) (m_n : Nat → Int64) (m_o : Nat → Int32) (m_w : Nat → Int32) (a1 : Int32) (fu : Nat) {z : Int32 × Int32 × Int32 × Int32 × (Nat → Int32) × (Nat → Int32) × (Nat → Int32) × (Nat → Int32)} : ∀ (fn : Nat) (v2 : Int32) (v3 : Int32) (m_tl : Int32) (m_dl : Int32) (m_c : Int32) (m_d : Nat → Int32) (m_k : Nat → Int32) (m_s : Nat → Int32) (m_m : Nat → Int32), p_X10_goesAway_69 fu m_e m_t a1 fn v2 v3 m_tl m_dl m_c m_d m_k m_s m_m = some z → J X 4 (JQi X [(m, .inr (6, [.ref mt, .int z.2.1, .ref md, .int z.2.2.1, .ref mk, .ref ms, .int z.2.2.2.1, .ref mu, .ref mn, .ref mm, .int m_e, .ref mo, .int m_ol, .int m_fa, .int m_f, .ref mw, .int m_p, .int m_is])), (mt, .inl (cI, 6000, .inl m_t)), (md, .inl (cI, 12000, .inl z.2.2.2.2.1)), (mk, .inl (cI, 61, .inl z.2.2.2.2.2.1)), (ms, .inl (cI, 61, .inl z.2.2.2.2.2.2.1)), (mu, .inl (cI, 41, .inl m_u)), (mn, .inl (cJ, 41, .inr (.inl m_n))), (mm, .inl (cI, 41, .inl z.2.2.2.2.2.2.2)), (mo, .inl (cI, 14000, .inl m_o)), (mw, .inl (cI, 61, .inl m_w))] z.1 0 0) [(m, .inr (6, [.ref mt, .int m_tl, .ref md, .int m_dl, .ref mk, .ref ms, .int m_c, .ref mu, .ref mn, .ref mm, .int m_e, .ref mo, .int m_ol, .int m_fa, .int m_f, .ref mw, .int m_p, .int m_is])), (mt, .inl (cI, 6000, .inl m_t)), (md, .inl (cI, 12000, .inl m_d)), (mk, .inl (cI, 61, .inl m_k)), (ms, .inl (cI, 61, .inl m_s)), (mu, .inl (cI, 41, .inl m_u)), (mn, .inl (cJ, 41, .inr (.inl m_n))), (mm, .inl (cI, 41, .inl m_m)), (mo, .inl (cI, 14000, .inl m_o)), (mw, .inl (cI, 61, .inl m_w))] 0 0 69 [(0, .ref m), (1, .int a1), (2, .int v2), (3, .int v3)] [] := by
  intro fn
  induction fn with
  | zero =>
    intro v2 v3 m_tl m_dl m_c m_d m_k m_s m_m hf
    rw [p_X10_goesAway_69] at hf
    exact jt_n hf
  | succ fn ih =>
    intro v2 v3 m_tl m_dl m_c m_d m_k m_s m_m hf
    rw [p_X10_goesAway_69] at hf
    refine J_iload_n O (i := 3) (k0 := 3) (pc := 69) 3 rfl rfl dX10_goesAway_69 ?_
    refine J_aload_n O (i := 0) (k0 := 0) (pc := 70) 0 rfl rfl dX10_goesAway_70 ?_
    refine J_get O (pc := 71) in_X10_goesAway_X10 0 rfl rfl 10 (by decide) mb_X10_goesAway_3 rfl dX10_goesAway_71 ?_
    refine J_icmp_ge O (tgt := 107) (pc := 74) dX10_goesAway_74 (by decide) (fun c74 => ?_) (fun c74 => ?_)
    · have hf := jt_t c74 hf
      refine J_iload_n O (i := 2) (k0 := 2) (pc := 107) 2 rfl rfl dX10_goesAway_107 ?_
      have e9 := Option.some.inj hf
      subst e9
      exact J_iret O (pc := 108) rfl dX10_goesAway_108
    · have hf := jt_f c74 hf
      refine J_aload_n O (i := 0) (k0 := 0) (pc := 77) 0 rfl rfl dX10_goesAway_77 ?_
      refine J_get O (pc := 78) in_X10_goesAway_X10 0 rfl rfl 9 (by decide) mb_X10_goesAway_4 rfl dX10_goesAway_78 ?_
      refine J_iload_n O (i := 3) (k0 := 3) (pc := 81) 3 rfl rfl dX10_goesAway_81 ?_
      refine J_dup2 O (pc := 82) rfl rfl dX10_goesAway_82 ?_
      obtain ⟨h83, hf⟩ := jt_g hf
      refine J_iald O (pc := 83) 7 1 rfl rfl h83 dX10_goesAway_83 ?_
      refine J_aload_n O (i := 0) (k0 := 0) (pc := 84) 0 rfl rfl dX10_goesAway_84 ?_
      refine J_get O (pc := 85) in_X10_goesAway_X10 0 rfl rfl 9 (by decide) mb_X10_goesAway_4 rfl dX10_goesAway_85 ?_
      refine J_iload_n O (i := 3) (k0 := 3) (pc := 88) 3 rfl rfl dX10_goesAway_88 ?_
      obtain ⟨h89, hf⟩ := jt_g hf
      refine J_iald O (pc := 89) 7 1 rfl rfl h89 dX10_goesAway_89 ?_
      refine J_iload_n O (i := 1) (k0 := 1) (pc := 90) 1 rfl rfl dX10_goesAway_90 ?_
      refine J_icmp_le O (tgt := 98) (pc := 91) dX10_goesAway_91 (by decide) (fun c91 => ?_) (fun c91 => ?_)
      · have hf := jt_t c91 hf
        refine J_iconst O (v := 0) (pc := 98) (by decide) dX10_goesAway_98 ?_
        refine J_isub O (pc := 99) dX10_goesAway_99 ?_
        obtain ⟨h100, hf⟩ := jt_g hf
        refine J_iast O (pc := 100) 7 1 rfl rfl h100 [(m, .inr (6, [.ref mt, .int m_tl, .ref md, .int m_dl, .ref mk, .ref ms, .int m_c, .ref mu, .ref mn, .ref mm, .int m_e, .ref mo, .int m_ol, .int m_fa, .int m_f, .ref mw, .int m_p, .int m_is])), (mt, .inl (cI, 6000, .inl m_t)), (md, .inl (cI, 12000, .inl m_d)), (mk, .inl (cI, 61, .inl m_k)), (ms, .inl (cI, 61, .inl m_s)), (mu, .inl (cI, 41, .inl m_u)), (mn, .inl (cJ, 41, .inr (.inl m_n))), (mm, .inl (cI, 41, .inl (upd m_m (Int32.toNatClampNeg v3) ((m_m (Int32.toNatClampNeg v3)) - 0)))), (mo, .inl (cI, 14000, .inl m_o)), (mw, .inl (cI, 61, .inl m_w))] rfl dX10_goesAway_100 ?_
        refine J_iinc O (i := 3) (n := 1) (v := v3 + 1) (pc := 101) 3 rfl [(3, .int (v3 + 1)), (0, .ref m), (1, .int a1), (2, .int v2)] (by decide) (congrArg (_ + ·) (by decide)) rfl dX10_goesAway_101 ?_
        refine J_goto O (tgt := 69) (pc := 104) dX10_goesAway_104 (by decide) ?_
        refine J_sub [1, 2, 3, 0] (lv' := [(0, .ref m), (1, .int a1), (2, .int v2), (3, .int (v3 + 1))]) rfl ?_
        exact ih v2 (v3 + 1) m_tl m_dl m_c m_d m_k m_s (upd m_m (Int32.toNatClampNeg v3) ((m_m (Int32.toNatClampNeg v3)) - 0)) hf
      · have hf := jt_f c91 hf
        refine J_iconst O (v := 1) (pc := 94) (by decide) dX10_goesAway_94 ?_
        refine J_goto O (tgt := 99) (pc := 95) dX10_goesAway_95 (by decide) ?_
        refine J_isub O (pc := 99) dX10_goesAway_99 ?_
        obtain ⟨h100, hf⟩ := jt_g hf
        refine J_iast O (pc := 100) 7 1 rfl rfl h100 [(m, .inr (6, [.ref mt, .int m_tl, .ref md, .int m_dl, .ref mk, .ref ms, .int m_c, .ref mu, .ref mn, .ref mm, .int m_e, .ref mo, .int m_ol, .int m_fa, .int m_f, .ref mw, .int m_p, .int m_is])), (mt, .inl (cI, 6000, .inl m_t)), (md, .inl (cI, 12000, .inl m_d)), (mk, .inl (cI, 61, .inl m_k)), (ms, .inl (cI, 61, .inl m_s)), (mu, .inl (cI, 41, .inl m_u)), (mn, .inl (cJ, 41, .inr (.inl m_n))), (mm, .inl (cI, 41, .inl (upd m_m (Int32.toNatClampNeg v3) ((m_m (Int32.toNatClampNeg v3)) - 1)))), (mo, .inl (cI, 14000, .inl m_o)), (mw, .inl (cI, 61, .inl m_w))] rfl dX10_goesAway_100 ?_
        refine J_iinc O (i := 3) (n := 1) (v := v3 + 1) (pc := 101) 3 rfl [(3, .int (v3 + 1)), (0, .ref m), (1, .int a1), (2, .int v2)] (by decide) (congrArg (_ + ·) (by decide)) rfl dX10_goesAway_101 ?_
        refine J_goto O (tgt := 69) (pc := 104) dX10_goesAway_104 (by decide) ?_
        refine J_sub [1, 2, 3, 0] (lv' := [(0, .ref m), (1, .int a1), (2, .int v2), (3, .int (v3 + 1))]) rfl ?_
        exact ih v2 (v3 + 1) m_tl m_dl m_c m_d m_k m_s (upd m_m (Int32.toNatClampNeg v3) ((m_m (Int32.toNatClampNeg v3)) - 1)) hf
set_option maxHeartbeats 4000000 in
set_option maxRecDepth 100000 in
theorem wk_X10_goesAway_25 {X : JC} {l : Launch} {D : va_G} {cB cI cJ : ClassId} (O : Jo X (l, D, cB, cI, cJ) cX10_goesAway 4 RX10 wsX10_goesAway rmX10_goesAway (some .int)) (m mt md mk ms mu mn mm mo mw : Nat) (m_e : Int32) (m_ol : Int32) (m_fa : Int32) (m_f : Int32) (m_p : Int32) (m_is : Int32) (m_t : Nat → Int32) (m_u : Nat → Int32) (m_n : Nat → Int64) (m_o : Nat → Int32) (m_w : Nat → Int32) (a1 : Int32) (fu : Nat) {z : Int32 × Int32 × Int32 × Int32 × (Nat → Int32) × (Nat → Int32) × (Nat → Int32) × (Nat → Int32)} : ∀ (fn : Nat) (v2 : Int32) (v3 : Int32) (m_tl : Int32) (m_dl : Int32) (m_c : Int32) (m_d : Nat → Int32) (m_k : Nat → Int32) (m_s : Nat → Int32) (m_m : Nat → Int32), p_X10_goesAway_25 fu m_e m_t a1 fn v2 v3 m_tl m_dl m_c m_d m_k m_s m_m = some z → J X 4 (JQi X [(m, .inr (6, [.ref mt, .int z.2.1, .ref md, .int z.2.2.1, .ref mk, .ref ms, .int z.2.2.2.1, .ref mu, .ref mn, .ref mm, .int m_e, .ref mo, .int m_ol, .int m_fa, .int m_f, .ref mw, .int m_p, .int m_is])), (mt, .inl (cI, 6000, .inl m_t)), (md, .inl (cI, 12000, .inl z.2.2.2.2.1)), (mk, .inl (cI, 61, .inl z.2.2.2.2.2.1)), (ms, .inl (cI, 61, .inl z.2.2.2.2.2.2.1)), (mu, .inl (cI, 41, .inl m_u)), (mn, .inl (cJ, 41, .inr (.inl m_n))), (mm, .inl (cI, 41, .inl z.2.2.2.2.2.2.2)), (mo, .inl (cI, 14000, .inl m_o)), (mw, .inl (cI, 61, .inl m_w))] z.1 0 0) [(m, .inr (6, [.ref mt, .int m_tl, .ref md, .int m_dl, .ref mk, .ref ms, .int m_c, .ref mu, .ref mn, .ref mm, .int m_e, .ref mo, .int m_ol, .int m_fa, .int m_f, .ref mw, .int m_p, .int m_is])), (mt, .inl (cI, 6000, .inl m_t)), (md, .inl (cI, 12000, .inl m_d)), (mk, .inl (cI, 61, .inl m_k)), (ms, .inl (cI, 61, .inl m_s)), (mu, .inl (cI, 41, .inl m_u)), (mn, .inl (cJ, 41, .inr (.inl m_n))), (mm, .inl (cI, 41, .inl m_m)), (mo, .inl (cI, 14000, .inl m_o)), (mw, .inl (cI, 61, .inl m_w))] 0 0 25 [(0, .ref m), (1, .int a1), (2, .int v2), (3, .int v3)] [] := by
  intro fn
  induction fn with
  | zero =>
    intro v2 v3 m_tl m_dl m_c m_d m_k m_s m_m hf
    rw [p_X10_goesAway_25] at hf
    exact jt_n hf
  | succ fn ih =>
    intro v2 v3 m_tl m_dl m_c m_d m_k m_s m_m hf
    rw [p_X10_goesAway_25] at hf
    refine J_iload_n O (i := 3) (k0 := 3) (pc := 25) 3 rfl rfl dX10_goesAway_25 ?_
    refine J_aload_n O (i := 0) (k0 := 0) (pc := 26) 0 rfl rfl dX10_goesAway_26 ?_
    refine J_get O (pc := 27) in_X10_goesAway_X10 0 rfl rfl 6 (by decide) mb_X10_goesAway_2 rfl dX10_goesAway_27 ?_
    refine J_icmp_ge O (tgt := 67) (pc := 30) dX10_goesAway_30 (by decide) (fun c30 => ?_) (fun c30 => ?_)
    · have hf := jt_t c30 hf
      refine J_iconst O (v := 0) (pc := 67) (by decide) dX10_goesAway_67 ?_
      refine J_istore_n O (i := 3) (k0 := 3) (pc := 68) rfl [(3, .int 0), (0, .ref m), (1, .int a1), (2, .int v2)] (by decide) rfl dX10_goesAway_68 ?_
      refine J_sub [1, 2, 3, 0] (lv' := [(0, .ref m), (1, .int a1), (2, .int v2), (3, .int 0)]) rfl ?_
      exact wk_X10_goesAway_69 O m mt md mk ms mu mn mm mo mw m_e m_ol m_fa m_f m_p m_is m_t m_u m_n m_o m_w a1 fu fu v2 0 m_tl m_dl m_c m_d m_k m_s m_m hf
    · have hf := jt_f c30 hf
      refine J_aload_n O (i := 0) (k0 := 0) (pc := 33) 0 rfl rfl dX10_goesAway_33 ?_
      refine J_get O (pc := 34) in_X10_goesAway_X10 0 rfl rfl 4 (by decide) mb_X10_goesAway_5 rfl dX10_goesAway_34 ?_
      refine J_iload_n O (i := 3) (k0 := 3) (pc := 37) 3 rfl rfl dX10_goesAway_37 ?_
      refine J_aload_n O (i := 0) (k0 := 0) (pc := 38) 0 rfl rfl dX10_goesAway_38 ?_
      refine J_get O (pc := 39) in_X10_goesAway_X10 0 rfl rfl 4 (by decide) mb_X10_goesAway_5 rfl dX10_goesAway_39 ?_
      refine J_iload_n O (i := 3) (k0 := 3) (pc := 42) 3 rfl rfl dX10_goesAway_42 ?_
      refine J_iconst O (v := 1) (pc := 43) (by decide) dX10_goesAway_43 ?_
      refine J_iadd O (pc := 44) dX10_goesAway_44 ?_
      obtain ⟨h45, hf⟩ := jt_g hf
      refine J_iald O (pc := 45) 3 1 rfl rfl h45 dX10_goesAway_45 ?_
      obtain ⟨h46, hf⟩ := jt_g hf
      refine J_iast O (pc := 46) 3 1 rfl rfl h46 [(m, .inr (6, [.ref mt, .int m_tl, .ref md, .int m_dl, .ref mk, .ref ms, .int m_c, .ref mu, .ref mn, .ref mm, .int m_e, .ref mo, .int m_ol, .int m_fa, .int m_f, .ref mw, .int m_p, .int m_is])), (mt, .inl (cI, 6000, .inl m_t)), (md, .inl (cI, 12000, .inl m_d)), (mk, .inl (cI, 61, .inl (upd m_k (Int32.toNatClampNeg v3) (m_k (Int32.toNatClampNeg (v3 + 1)))))), (ms, .inl (cI, 61, .inl m_s)), (mu, .inl (cI, 41, .inl m_u)), (mn, .inl (cJ, 41, .inr (.inl m_n))), (mm, .inl (cI, 41, .inl m_m)), (mo, .inl (cI, 14000, .inl m_o)), (mw, .inl (cI, 61, .inl m_w))] rfl dX10_goesAway_46 ?_
      refine J_aload_n O (i := 0) (k0 := 0) (pc := 47) 0 rfl rfl dX10_goesAway_47 ?_
      refine J_get O (pc := 48) in_X10_goesAway_X10 0 rfl rfl 5 (by decide) mb_X10_goesAway_1 rfl dX10_goesAway_48 ?_
      refine J_iload_n O (i := 3) (k0 := 3) (pc := 51) 3 rfl rfl dX10_goesAway_51 ?_
      refine J_aload_n O (i := 0) (k0 := 0) (pc := 52) 0 rfl rfl dX10_goesAway_52 ?_
      refine J_get O (pc := 53) in_X10_goesAway_X10 0 rfl rfl 5 (by decide) mb_X10_goesAway_1 rfl dX10_goesAway_53 ?_
      refine J_iload_n O (i := 3) (k0 := 3) (pc := 56) 3 rfl rfl dX10_goesAway_56 ?_
      refine J_iconst O (v := 1) (pc := 57) (by decide) dX10_goesAway_57 ?_
      refine J_iadd O (pc := 58) dX10_goesAway_58 ?_
      obtain ⟨h59, hf⟩ := jt_g hf
      refine J_iald O (pc := 59) 4 1 rfl rfl h59 dX10_goesAway_59 ?_
      obtain ⟨h60, hf⟩ := jt_g hf
      refine J_iast O (pc := 60) 4 1 rfl rfl h60 [(m, .inr (6, [.ref mt, .int m_tl, .ref md, .int m_dl, .ref mk, .ref ms, .int m_c, .ref mu, .ref mn, .ref mm, .int m_e, .ref mo, .int m_ol, .int m_fa, .int m_f, .ref mw, .int m_p, .int m_is])), (mt, .inl (cI, 6000, .inl m_t)), (md, .inl (cI, 12000, .inl m_d)), (mk, .inl (cI, 61, .inl (upd m_k (Int32.toNatClampNeg v3) (m_k (Int32.toNatClampNeg (v3 + 1)))))), (ms, .inl (cI, 61, .inl (upd m_s (Int32.toNatClampNeg v3) (m_s (Int32.toNatClampNeg (v3 + 1)))))), (mu, .inl (cI, 41, .inl m_u)), (mn, .inl (cJ, 41, .inr (.inl m_n))), (mm, .inl (cI, 41, .inl m_m)), (mo, .inl (cI, 14000, .inl m_o)), (mw, .inl (cI, 61, .inl m_w))] rfl dX10_goesAway_60 ?_
      refine J_iinc O (i := 3) (n := 1) (v := v3 + 1) (pc := 61) 3 rfl [(3, .int (v3 + 1)), (0, .ref m), (1, .int a1), (2, .int v2)] (by decide) (congrArg (_ + ·) (by decide)) rfl dX10_goesAway_61 ?_
      refine J_goto O (tgt := 25) (pc := 64) dX10_goesAway_64 (by decide) ?_
      refine J_sub [1, 2, 3, 0] (lv' := [(0, .ref m), (1, .int a1), (2, .int v2), (3, .int (v3 + 1))]) rfl ?_
      exact ih v2 (v3 + 1) m_tl m_dl m_c m_d (upd m_k (Int32.toNatClampNeg v3) (m_k (Int32.toNatClampNeg (v3 + 1)))) (upd m_s (Int32.toNatClampNeg v3) (m_s (Int32.toNatClampNeg (v3 + 1)))) m_m hf
set_option maxHeartbeats 4000000 in
set_option maxRecDepth 100000 in
theorem c_X10_goesAway (l : Launch) (D : va_G) (cB cI cJ : ClassId) (m mt md mk ms mu mn mm mo mw : Nat) (m_tl : Int32) (m_dl : Int32) (m_c : Int32) (m_e : Int32) (m_ol : Int32) (m_fa : Int32) (m_f : Int32) (m_p : Int32) (m_is : Int32) (m_t : Nat → Int32) (m_d : Nat → Int32) (m_k : Nat → Int32) (m_s : Nat → Int32) (m_u : Nat → Int32) (m_n : Nat → Int64) (m_m : Nat → Int32) (m_o : Nat → Int32) (m_w : Nat → Int32) (a1 : Int32) (fu : Nat) {z : Int32 × Int32 × Int32 × Int32 × (Nat → Int32) × (Nat → Int32) × (Nat → Int32) × (Nat → Int32)} (hf : p_X10_goesAway fu m_tl m_dl m_c m_e m_t m_d m_k m_s m_m a1 = some z) : Ci (l, D, cB, cI, cJ) yX10_goesAway wsX10_goesAway rmX10_goesAway [.ref m, .int a1] [(m, .inr (6, [.ref mt, .int m_tl, .ref md, .int m_dl, .ref mk, .ref ms, .int m_c, .ref mu, .ref mn, .ref mm, .int m_e, .ref mo, .int m_ol, .int m_fa, .int m_f, .ref mw, .int m_p, .int m_is])), (mt, .inl (cI, 6000, .inl m_t)), (md, .inl (cI, 12000, .inl m_d)), (mk, .inl (cI, 61, .inl m_k)), (ms, .inl (cI, 61, .inl m_s)), (mu, .inl (cI, 41, .inl m_u)), (mn, .inl (cJ, 41, .inr (.inl m_n))), (mm, .inl (cI, 41, .inl m_m)), (mo, .inl (cI, 14000, .inl m_o)), (mw, .inl (cI, 61, .inl m_w))] [(m, .inr (6, [.ref mt, .int z.2.1, .ref md, .int z.2.2.1, .ref mk, .ref ms, .int z.2.2.2.1, .ref mu, .ref mn, .ref mm, .int m_e, .ref mo, .int m_ol, .int m_fa, .int m_f, .ref mw, .int m_p, .int m_is])), (mt, .inl (cI, 6000, .inl m_t)), (md, .inl (cI, 12000, .inl z.2.2.2.2.1)), (mk, .inl (cI, 61, .inl z.2.2.2.2.2.1)), (ms, .inl (cI, 61, .inl z.2.2.2.2.2.2.1)), (mu, .inl (cI, 41, .inl m_u)), (mn, .inl (cJ, 41, .inr (.inl m_n))), (mm, .inl (cI, 41, .inl z.2.2.2.2.2.2.2)), (mo, .inl (cI, 14000, .inl m_o)), (mw, .inl (cI, 61, .inl m_w))] z.1 := by
  refine Ci_of (cc := cX10_goesAway) (nL := 4) (own := RX10) (ret := (some .int)) (by decide) rfl rfl (Nat.le_of_ble_eq_true rfl) (fun X O hnm0 => ?_)
  rw [p_X10_goesAway] at hf
  show J X 4 (JQi X [(m, .inr (6, [.ref mt, .int z.2.1, .ref md, .int z.2.2.1, .ref mk, .ref ms, .int z.2.2.2.1, .ref mu, .ref mn, .ref mm, .int m_e, .ref mo, .int m_ol, .int m_fa, .int m_f, .ref mw, .int m_p, .int m_is])), (mt, .inl (cI, 6000, .inl m_t)), (md, .inl (cI, 12000, .inl z.2.2.2.2.1)), (mk, .inl (cI, 61, .inl z.2.2.2.2.2.1)), (ms, .inl (cI, 61, .inl z.2.2.2.2.2.2.1)), (mu, .inl (cI, 41, .inl m_u)), (mn, .inl (cJ, 41, .inr (.inl m_n))), (mm, .inl (cI, 41, .inl z.2.2.2.2.2.2.2)), (mo, .inl (cI, 14000, .inl m_o)), (mw, .inl (cI, 61, .inl m_w))] z.1 0 0) [(m, .inr (6, [.ref mt, .int m_tl, .ref md, .int m_dl, .ref mk, .ref ms, .int m_c, .ref mu, .ref mn, .ref mm, .int m_e, .ref mo, .int m_ol, .int m_fa, .int m_f, .ref mw, .int m_p, .int m_is])), (mt, .inl (cI, 6000, .inl m_t)), (md, .inl (cI, 12000, .inl m_d)), (mk, .inl (cI, 61, .inl m_k)), (ms, .inl (cI, 61, .inl m_s)), (mu, .inl (cI, 41, .inl m_u)), (mn, .inl (cJ, 41, .inr (.inl m_n))), (mm, .inl (cI, 41, .inl m_m)), (mo, .inl (cI, 14000, .inl m_o)), (mw, .inl (cI, 61, .inl m_w))] 0 0 0 [(0, .ref m), (1, .int a1)] []
  refine J_aload_n O (i := 0) (k0 := 0) (pc := 0) 0 rfl rfl dX10_goesAway_0 ?_
  refine J_get O (pc := 1) in_X10_goesAway_X10 0 rfl rfl 5 (by decide) mb_X10_goesAway_1 rfl dX10_goesAway_1 ?_
  refine J_iload_n O (i := 1) (k0 := 1) (pc := 4) 1 rfl rfl dX10_goesAway_4 ?_
  obtain ⟨h5, hf⟩ := jt_g hf
  refine J_iald O (pc := 5) 4 1 rfl rfl h5 dX10_goesAway_5 ?_
  refine J_istore_n O (i := 2) (k0 := 2) (pc := 6) rfl [(2, .int (m_s (Int32.toNatClampNeg a1))), (0, .ref m), (1, .int a1)] (by decide) rfl dX10_goesAway_6 ?_
  refine J_aload_n O (i := 0) (k0 := 0) (pc := 7) 1 rfl rfl dX10_goesAway_7 ?_
  refine J_iload_n O (i := 1) (k0 := 1) (pc := 8) 2 rfl rfl dX10_goesAway_8 ?_
  refine J_iconst O (v := 0) (pc := 9) (by decide) dX10_goesAway_9 ?_
  obtain ⟨z10, h10, hf⟩ := jt_b hf
  refine J_callVv O (pc := 10) (c_X10_replace l D cB cI cJ m mt md mk ms mu mn mm mo mw m_tl m_dl m_c m_e m_ol m_fa m_f m_p m_is m_t m_d m_k m_s m_u m_n m_m m_o m_w a1 0 fu h10) rfl 0 rfl rfl gX10_goesAway_X10_replace hdV_X10_replace ⟨(Nat.le_of_ble_eq_true rfl), (Nat.le_of_ble_eq_true rfl)⟩ rfl (st := []) rfl (Nat.le_of_ble_eq_true rfl) [0, 1, 2, 3, 4, 5, 6, 7, 8, 9] [] rfl rfl rfl rfl rfl (by decide) [(m, .inr (6, [.ref mt, .int z10.1, .ref md, .int z10.2.1, .ref mk, .ref ms, .int m_c, .ref mu, .ref mn, .ref mm, .int m_e, .ref mo, .int m_ol, .int m_fa, .int m_f, .ref mw, .int m_p, .int m_is])), (mt, .inl (cI, 6000, .inl m_t)), (md, .inl (cI, 12000, .inl z10.2.2.1)), (mk, .inl (cI, 61, .inl m_k)), (ms, .inl (cI, 61, .inl z10.2.2.2)), (mu, .inl (cI, 41, .inl m_u)), (mn, .inl (cJ, 41, .inr (.inl m_n))), (mm, .inl (cI, 41, .inl m_m)), (mo, .inl (cI, 14000, .inl m_o)), (mw, .inl (cI, 61, .inl m_w))] [0, 1, 2, 3, 4, 5, 6, 7, 8, 9] rfl rfl rfl (0) (0) (Nat.le_of_ble_eq_true rfl) (Nat.le_of_ble_eq_true rfl) ⟨(Nat.le_of_ble_eq_true rfl), (Nat.le_of_ble_eq_true rfl)⟩ dX10_goesAway_10 ?_
  refine J_aload_n O (i := 0) (k0 := 0) (pc := 13) 1 rfl rfl dX10_goesAway_13 ?_
  refine J_dup O (pc := 14) rfl dX10_goesAway_14 ?_
  refine J_get O (pc := 15) in_X10_goesAway_X10 0 rfl rfl 6 (by decide) mb_X10_goesAway_2 rfl dX10_goesAway_15 ?_
  refine J_iconst O (v := 1) (pc := 18) (by decide) dX10_goesAway_18 ?_
  refine J_isub O (pc := 19) dX10_goesAway_19 ?_
  refine J_put O (pc := 20) in_X10_goesAway_X10 tyX10 tyX10_ok nmX10 0 rfl rfl 6 (by decide) mb_X10_goesAway_2 rfl rfl rfl (Nat.le_of_ble_eq_true rfl) [(m, .inr (6, [.ref mt, .int z10.1, .ref md, .int z10.2.1, .ref mk, .ref ms, .int (m_c - 1), .ref mu, .ref mn, .ref mm, .int m_e, .ref mo, .int m_ol, .int m_fa, .int m_f, .ref mw, .int m_p, .int m_is])), (mt, .inl (cI, 6000, .inl m_t)), (md, .inl (cI, 12000, .inl z10.2.2.1)), (mk, .inl (cI, 61, .inl m_k)), (ms, .inl (cI, 61, .inl z10.2.2.2)), (mu, .inl (cI, 41, .inl m_u)), (mn, .inl (cJ, 41, .inr (.inl m_n))), (mm, .inl (cI, 41, .inl m_m)), (mo, .inl (cI, 14000, .inl m_o)), (mw, .inl (cI, 61, .inl m_w))] rfl dX10_goesAway_20 ?_
  refine J_iload_n O (i := 1) (k0 := 1) (pc := 23) 2 rfl rfl dX10_goesAway_23 ?_
  refine J_istore_n O (i := 3) (k0 := 3) (pc := 24) rfl [(3, .int a1), (2, .int (m_s (Int32.toNatClampNeg a1))), (0, .ref m), (1, .int a1)] (by decide) rfl dX10_goesAway_24 ?_
  refine J_sub [2, 3, 1, 0] (lv' := [(0, .ref m), (1, .int a1), (2, .int (m_s (Int32.toNatClampNeg a1))), (3, .int a1)]) rfl ?_
  exact wk_X10_goesAway_25 O m mt md mk ms mu mn mm mo mw m_e m_ol m_fa m_f m_p m_is m_t m_u m_n m_o m_w a1 fu fu (m_s (Int32.toNatClampNeg a1)) a1 z10.1 z10.2.1 (m_c - 1) z10.2.2.1 m_k z10.2.2.2 m_m hf
