theorem in_X10_piece_X10 : ∀ w ∈ u_ws RX10 TX10 18, w ∈ wsX10_piece := fun _ h => List.mem_cons_of_mem _ (List.mem_append_right _ h)
theorem mb_X10_piece_1 : Cond.fieldLink RX10 58 (TX10 1).1 (TX10 1).2.1 (TX10 1).2.2.1 ∈ wsX10_piece := by decide +kernel
theorem mb_X10_piece_2 : Cond.fieldLink RX10 7 (TX10 0).1 (TX10 0).2.1 (TX10 0).2.2.1 ∈ wsX10_piece := by decide +kernel
theorem mb_X10_piece_3 : Cond.fieldLink RX10 80 (TX10 16).1 (TX10 16).2.1 (TX10 16).2.2.1 ∈ wsX10_piece := by decide +kernel
theorem mb_X10_piece_4 : Cond.constant RX10 97 1380541560 ∈ wsX10_piece := by decide +kernel
theorem hdV_X10_stop : yX10_stop.cls = RX10 ∧ yX10_stop.cls ≠ "java/lang/invoke/MethodHandle" ∧ yX10_stop.cls ≠ "java/lang/invoke/VarHandle" ∧ (parseMethodDescriptor yX10_stop.desc).map (fun d => d.parameters.length) = some 2 := by decide +kernel
theorem hdS_X10_four : yX10_four.cls ≠ "java/lang/invoke/MethodHandle" ∧ yX10_four.cls ≠ "java/lang/invoke/VarHandle" ∧ (parseMethodDescriptor yX10_four.desc).map (fun d => d.parameters.length) = some 2 := by decide +kernel
theorem mb_X10_piece_5 : Cond.constantLong RX10 56 8 ∈ wsX10_piece := by decide +kernel
theorem mb_X10_piece_6 : Cond.constantLong RX10 102 2 ∈ wsX10_piece := by decide +kernel
theorem mb_X10_piece_7 : Cond.fieldLink RX10 67 (TX10 14).1 (TX10 14).2.1 (TX10 14).2.2.1 ∈ wsX10_piece := by decide +kernel
theorem mb_X10_piece_8 : Cond.fieldLink RX10 39 (TX10 15).1 (TX10 15).2.1 (TX10 15).2.2.1 ∈ wsX10_piece := by decide +kernel
theorem mb_X10_piece_9 : Cond.fieldLink RX10 87 (TX10 17).1 (TX10 17).2.1 (TX10 17).2.2.1 ∈ wsX10_piece := by decide +kernel
theorem hdS_X10_isKind : yX10_isKind.cls ≠ "java/lang/invoke/MethodHandle" ∧ yX10_isKind.cls ≠ "java/lang/invoke/VarHandle" ∧ (parseMethodDescriptor yX10_isKind.desc).map (fun d => d.parameters.length) = some 1 := by decide +kernel
abbrev rmX10_piece : Room := { frames := 2, cells := 0, slots := 0, locals := 45 }
set_option maxHeartbeats 4000000 in
set_option maxRecDepth 100000 in
theorem wk_X10_piece_168 {X : JC} {l : Launch} {D : va_G} {cB cI cJ : ClassId} (O : Jo X (l, D, cB, cI, cJ) cX10_piece 7 RX10 wsX10_piece rmX10_piece (some .int)) (m mt md mk ms mu mn mm mo mw : Nat) (m_tl : Int32) (m_dl : Int32) (m_c : Int32) (m_e : Int32) (m_ol : Int32) (m_t : Nat → Int32) (m_d : Nat → Int32) (m_k : Nat → Int32) (m_s : Nat → Int32) (m_u : Nat → Int32) (m_n : Nat → Int64) (m_m : Nat → Int32) (m_o : Nat → Int32) (a1 : Int32) {z : Int32 × Int32 × Int32 × Int32 × Int32 × (Nat → Int32)} (v3 : Int64) (v5 : Int64) (m_fa : Int32) (m_f : Int32) (m_p : Int32) (m_is : Int32) (m_w : Nat → Int32) (hf : p_X10_piece_168 m_tl m_t a1 v3 v5 m_fa m_f m_p m_is m_w = some z) : J X 7 (JQi X [(m, .inr (6, [.ref mt, .int m_tl, .ref md, .int m_dl, .ref mk, .ref ms, .int m_c, .ref mu, .ref mn, .ref mm, .int m_e, .ref mo, .int m_ol, .int z.2.1, .int z.2.2.1, .ref mw, .int z.2.2.2.1, .int z.2.2.2.2.1])), (mt, .inl (cI, 6000, .inl m_t)), (md, .inl (cI, 12000, .inl m_d)), (mk, .inl (cI, 61, .inl m_k)), (ms, .inl (cI, 61, .inl m_s)), (mu, .inl (cI, 41, .inl m_u)), (mn, .inl (cJ, 41, .inr (.inl m_n))), (mm, .inl (cI, 41, .inl m_m)), (mo, .inl (cI, 14000, .inl m_o)), (mw, .inl (cI, 61, .inl z.2.2.2.2.2))] z.1 0 0) [(m, .inr (6, [.ref mt, .int m_tl, .ref md, .int m_dl, .ref mk, .ref ms, .int m_c, .ref mu, .ref mn, .ref mm, .int m_e, .ref mo, .int m_ol, .int m_fa, .int m_f, .ref mw, .int m_p, .int m_is])), (mt, .inl (cI, 6000, .inl m_t)), (md, .inl (cI, 12000, .inl m_d)), (mk, .inl (cI, 61, .inl m_k)), (ms, .inl (cI, 61, .inl m_s)), (mu, .inl (cI, 41, .inl m_u)), (mn, .inl (cJ, 41, .inr (.inl m_n))), (mm, .inl (cI, 41, .inl m_m)), (mo, .inl (cI, 14000, .inl m_o)), (mw, .inl (cI, 61, .inl m_w))] 0 0 168 [(0, .ref m), (1, .int a1), (3, .long v3), (5, .long v5)] [] := by
  rw [p_X10_piece_168] at hf
  refine J_aload_n O (i := 0) (k0 := 0) (pc := 168) 0 rfl rfl dX10_piece_168 ?_
  refine J_get O (pc := 169) in_X10_piece_X10 0 rfl rfl 14 (by decide) mb_X10_piece_7 rfl dX10_piece_169 ?_
  refine J_if_eq O (tgt := 177) (pc := 172) dX10_piece_172 (by decide) (fun c172 => ?_) (fun c172 => ?_)
  · have hf := jt_t c172 hf
    refine J_aload_n O (i := 0) (k0 := 0) (pc := 177) 0 rfl rfl dX10_piece_177 ?_
    refine J_get O (pc := 178) in_X10_piece_X10 0 rfl rfl 16 (by decide) mb_X10_piece_3 rfl dX10_piece_178 ?_
    refine J_if_ge O (tgt := 193) (pc := 181) dX10_piece_181 (by decide) (fun c181 => ?_) (fun c181 => ?_)
    · have hf := jt_t c181 hf
      refine J_aload_n O (i := 0) (k0 := 0) (pc := 193) 0 rfl rfl dX10_piece_193 ?_
      refine J_get O (pc := 194) in_X10_piece_X10 0 rfl rfl 15 (by decide) mb_X10_piece_8 rfl dX10_piece_194 ?_
      refine J_aload_n O (i := 0) (k0 := 0) (pc := 197) 0 rfl rfl dX10_piece_197 ?_
      refine J_get O (pc := 198) in_X10_piece_X10 0 rfl rfl 16 (by decide) mb_X10_piece_3 rfl dX10_piece_198 ?_
      refine J_iload_n O (i := 1) (k0 := 1) (pc := 201) 1 rfl rfl dX10_piece_201 ?_
      obtain ⟨h202, hf⟩ := jt_g hf
      refine J_iast O (pc := 202) 9 1 rfl rfl h202 [(m, .inr (6, [.ref mt, .int m_tl, .ref md, .int m_dl, .ref mk, .ref ms, .int m_c, .ref mu, .ref mn, .ref mm, .int m_e, .ref mo, .int m_ol, .int m_fa, .int m_f, .ref mw, .int m_p, .int m_is])), (mt, .inl (cI, 6000, .inl m_t)), (md, .inl (cI, 12000, .inl m_d)), (mk, .inl (cI, 61, .inl m_k)), (ms, .inl (cI, 61, .inl m_s)), (mu, .inl (cI, 41, .inl m_u)), (mn, .inl (cJ, 41, .inr (.inl m_n))), (mm, .inl (cI, 41, .inl m_m)), (mo, .inl (cI, 14000, .inl m_o)), (mw, .inl (cI, 61, .inl (upd m_w (Int32.toNatClampNeg m_p) a1)))] rfl dX10_piece_202 ?_
      refine J_aload_n O (i := 0) (k0 := 0) (pc := 203) 0 rfl rfl dX10_piece_203 ?_
      refine J_dup O (pc := 204) rfl dX10_piece_204 ?_
      refine J_get O (pc := 205) in_X10_piece_X10 0 rfl rfl 16 (by decide) mb_X10_piece_3 rfl dX10_piece_205 ?_
      refine J_iconst O (v := 1) (pc := 208) (by decide) dX10_piece_208 ?_
      refine J_iadd O (pc := 209) dX10_piece_209 ?_
      refine J_put O (pc := 210) in_X10_piece_X10 tyX10 tyX10_ok nmX10 0 rfl rfl 16 (by decide) mb_X10_piece_3 rfl rfl rfl (Nat.le_of_ble_eq_true rfl) [(m, .inr (6, [.ref mt, .int m_tl, .ref md, .int m_dl, .ref mk, .ref ms, .int m_c, .ref mu, .ref mn, .ref mm, .int m_e, .ref mo, .int m_ol, .int m_fa, .int m_f, .ref mw, .int (m_p + 1), .int m_is])), (mt, .inl (cI, 6000, .inl m_t)), (md, .inl (cI, 12000, .inl m_d)), (mk, .inl (cI, 61, .inl m_k)), (ms, .inl (cI, 61, .inl m_s)), (mu, .inl (cI, 41, .inl m_u)), (mn, .inl (cJ, 41, .inr (.inl m_n))), (mm, .inl (cI, 41, .inl m_m)), (mo, .inl (cI, 14000, .inl m_o)), (mw, .inl (cI, 61, .inl (upd m_w (Int32.toNatClampNeg m_p) a1)))] rfl dX10_piece_210 ?_
      refine J_lload O (i := 5) (pc := 213) 3 rfl dX10_piece_213 ?_
      refine J_l2i O (pc := 215) dX10_piece_215 ?_
      have e9 := Option.some.inj hf
      subst e9
      exact J_iret O (pc := 216) rfl dX10_piece_216
    · have hf := jt_f c181 hf
      refine J_aload_n O (i := 0) (k0 := 0) (pc := 184) 0 rfl rfl dX10_piece_184 ?_
      refine J_lload_n O (i := 3) (k0 := 3) (pc := 185) 2 rfl rfl dX10_piece_185 ?_
      refine J_l2i O (pc := 186) dX10_piece_186 ?_
      refine J_put O (pc := 187) in_X10_piece_X10 tyX10 tyX10_ok nmX10 0 rfl rfl 17 (by decide) mb_X10_piece_9 rfl rfl rfl (Nat.le_of_ble_eq_true rfl) [(m, .inr (6, [.ref mt, .int m_tl, .ref md, .int m_dl, .ref mk, .ref ms, .int m_c, .ref mu, .ref mn, .ref mm, .int m_e, .ref mo, .int m_ol, .int m_fa, .int m_f, .ref mw, .int m_p, .int (Int64.toInt32 v3)])), (mt, .inl (cI, 6000, .inl m_t)), (md, .inl (cI, 12000, .inl m_d)), (mk, .inl (cI, 61, .inl m_k)), (ms, .inl (cI, 61, .inl m_s)), (mu, .inl (cI, 41, .inl m_u)), (mn, .inl (cJ, 41, .inr (.inl m_n))), (mm, .inl (cI, 41, .inl m_m)), (mo, .inl (cI, 14000, .inl m_o)), (mw, .inl (cI, 61, .inl m_w))] rfl dX10_piece_187 ?_
      refine J_goto O (tgt := 203) (pc := 190) dX10_piece_190 (by decide) ?_
      refine J_aload_n O (i := 0) (k0 := 0) (pc := 203) 0 rfl rfl dX10_piece_203 ?_
      refine J_dup O (pc := 204) rfl dX10_piece_204 ?_
      refine J_get O (pc := 205) in_X10_piece_X10 0 rfl rfl 16 (by decide) mb_X10_piece_3 rfl dX10_piece_205 ?_
      refine J_iconst O (v := 1) (pc := 208) (by decide) dX10_piece_208 ?_
      refine J_iadd O (pc := 209) dX10_piece_209 ?_
      refine J_put O (pc := 210) in_X10_piece_X10 tyX10 tyX10_ok nmX10 0 rfl rfl 16 (by decide) mb_X10_piece_3 rfl rfl rfl (Nat.le_of_ble_eq_true rfl) [(m, .inr (6, [.ref mt, .int m_tl, .ref md, .int m_dl, .ref mk, .ref ms, .int m_c, .ref mu, .ref mn, .ref mm, .int m_e, .ref mo, .int m_ol, .int m_fa, .int m_f, .ref mw, .int (m_p + 1), .int (Int64.toInt32 v3)])), (mt, .inl (cI, 6000, .inl m_t)), (md, .inl (cI, 12000, .inl m_d)), (mk, .inl (cI, 61, .inl m_k)), (ms, .inl (cI, 61, .inl m_s)), (mu, .inl (cI, 41, .inl m_u)), (mn, .inl (cJ, 41, .inr (.inl m_n))), (mm, .inl (cI, 41, .inl m_m)), (mo, .inl (cI, 14000, .inl m_o)), (mw, .inl (cI, 61, .inl m_w))] rfl dX10_piece_210 ?_
      refine J_lload O (i := 5) (pc := 213) 3 rfl dX10_piece_213 ?_
      refine J_l2i O (pc := 215) dX10_piece_215 ?_
      have e9 := Option.some.inj hf
      subst e9
      exact J_iret O (pc := 216) rfl dX10_piece_216
  · have hf := jt_f c172 hf
    refine J_iload_n O (i := 1) (k0 := 1) (pc := 175) 1 rfl rfl dX10_piece_175 ?_
    have e9 := Option.some.inj hf
    subst e9
    exact J_iret O (pc := 176) rfl dX10_piece_176
set_option maxHeartbeats 4000000 in
set_option maxRecDepth 100000 in
theorem wk_X10_piece_128 {X : JC} {l : Launch} {D : va_G} {cB cI cJ : ClassId} (O : Jo X (l, D, cB, cI, cJ) cX10_piece 7 RX10 wsX10_piece rmX10_piece (some .int)) (m mt md mk ms mu mn mm mo mw : Nat) (m_tl : Int32) (m_dl : Int32) (m_c : Int32) (m_e : Int32) (m_ol : Int32) (m_t : Nat → Int32) (m_d : Nat → Int32) (m_k : Nat → Int32) (m_s : Nat → Int32) (m_u : Nat → Int32) (m_n : Nat → Int64) (m_m : Nat → Int32) (m_o : Nat → Int32) (a1 : Int32) {z : Int32 × Int32 × Int32 × Int32 × Int32 × (Nat → Int32)} (v3 : Int64) (v5 : Int64) (m_fa : Int32) (m_f : Int32) (m_p : Int32) (m_is : Int32) (m_w : Nat → Int32) (hf : p_X10_piece_128 m_tl m_t a1 v3 v5 m_fa m_f m_p m_is m_w = some z) : J X 7 (JQi X [(m, .inr (6, [.ref mt, .int m_tl, .ref md, .int m_dl, .ref mk, .ref ms, .int m_c, .ref mu, .ref mn, .ref mm, .int m_e, .ref mo, .int m_ol, .int z.2.1, .int z.2.2.1, .ref mw, .int z.2.2.2.1, .int z.2.2.2.2.1])), (mt, .inl (cI, 6000, .inl m_t)), (md, .inl (cI, 12000, .inl m_d)), (mk, .inl (cI, 61, .inl m_k)), (ms, .inl (cI, 61, .inl m_s)), (mu, .inl (cI, 41, .inl m_u)), (mn, .inl (cJ, 41, .inr (.inl m_n))), (mm, .inl (cI, 41, .inl m_m)), (mo, .inl (cI, 14000, .inl m_o)), (mw, .inl (cI, 61, .inl z.2.2.2.2.2))] z.1 0 0) [(m, .inr (6, [.ref mt, .int m_tl, .ref md, .int m_dl, .ref mk, .ref ms, .int m_c, .ref mu, .ref mn, .ref mm, .int m_e, .ref mo, .int m_ol, .int m_fa, .int m_f, .ref mw, .int m_p, .int m_is])), (mt, .inl (cI, 6000, .inl m_t)), (md, .inl (cI, 12000, .inl m_d)), (mk, .inl (cI, 61, .inl m_k)), (ms, .inl (cI, 61, .inl m_s)), (mu, .inl (cI, 41, .inl m_u)), (mn, .inl (cJ, 41, .inr (.inl m_n))), (mm, .inl (cI, 41, .inl m_m)), (mo, .inl (cI, 14000, .inl m_o)), (mw, .inl (cI, 61, .inl m_w))] 0 0 128 [(0, .ref m), (1, .int a1), (3, .long v3), (5, .long v5)] [] := by
  rw [p_X10_piece_128] at hf
  refine J_aload_n O (i := 0) (k0 := 0) (pc := 128) 0 rfl rfl dX10_piece_128 ?_
  refine J_get O (pc := 129) in_X10_piece_X10 0 rfl rfl 14 (by decide) mb_X10_piece_7 rfl dX10_piece_129 ?_
  refine J_if_ne O (tgt := 168) (pc := 132) dX10_piece_132 (by decide) (fun c132 => ?_) (fun c132 => ?_)
  · have hf := jt_f c132 hf
    refine J_sub [0, 1, 2, 3] (lv' := [(0, .ref m), (1, .int a1), (3, .long v3), (5, .long v5)]) rfl ?_
    exact wk_X10_piece_168 O m mt md mk ms mu mn mm mo mw m_tl m_dl m_c m_e m_ol m_t m_d m_k m_s m_u m_n m_m m_o a1 v3 v5 m_fa m_f m_p m_is m_w hf
  · have hf := jt_t c132 hf
    refine J_lload_n O (i := 3) (k0 := 3) (pc := 135) 2 rfl rfl dX10_piece_135 ?_
    refine J_ldc2 O (pc := 136) mb_X10_piece_6 dX10_piece_136 ?_
    refine J_lrem O (pc := 139) (by decide) dX10_piece_139 ?_
    refine J_lconst O (v := 1) (pc := 140) (by decide) dX10_piece_140 ?_
    refine J_lif_ne O (tgt := 168) (pc := 141) dX10_piece_141 dX10_piece_142 (by decide) (fun c141 => ?_) (fun c141 => ?_)
    · have hf := jt_f c141 hf
      refine J_sub [0, 1, 2, 3] (lv' := [(0, .ref m), (1, .int a1), (3, .long v3), (5, .long v5)]) rfl ?_
      exact wk_X10_piece_168 O m mt md mk ms mu mn mm mo mw m_tl m_dl m_c m_e m_ol m_t m_d m_k m_s m_u m_n m_m m_o a1 v3 v5 m_fa m_f m_p m_is m_w hf
    · have hf := jt_t c141 hf
      refine J_aload_n O (i := 0) (k0 := 0) (pc := 145) 0 rfl rfl dX10_piece_145 ?_
      refine J_get O (pc := 146) in_X10_piece_X10 0 rfl rfl 0 (by decide) mb_X10_piece_2 rfl dX10_piece_146 ?_
      refine J_lload O (i := 5) (pc := 149) 3 rfl dX10_piece_149 ?_
      refine J_l2i O (pc := 151) dX10_piece_151 ?_
      refine J_iconst O (v := 1) (pc := 152) (by decide) dX10_piece_152 ?_
      refine J_isub O (pc := 153) dX10_piece_153 ?_
      obtain ⟨h154, hf⟩ := jt_g hf
      refine J_iald O (pc := 154) 1 1 rfl rfl h154 dX10_piece_154 ?_
      refine J_if_eq O (tgt := 168) (pc := 155) dX10_piece_155 (by decide) (fun c155 => ?_) (fun c155 => ?_)
      · have hf := jt_t c155 hf
        refine J_sub [0, 1, 2, 3] (lv' := [(0, .ref m), (1, .int a1), (3, .long v3), (5, .long v5)]) rfl ?_
        exact wk_X10_piece_168 O m mt md mk ms mu mn mm mo mw m_tl m_dl m_c m_e m_ol m_t m_d m_k m_s m_u m_n m_m m_o a1 v3 v5 m_fa m_f m_p m_is m_w hf
      · have hf := jt_f c155 hf
        refine J_aload_n O (i := 0) (k0 := 0) (pc := 158) 0 rfl rfl dX10_piece_158 ?_
        refine J_iconst O (v := 5) (pc := 159) (by decide) dX10_piece_159 ?_
        refine J_lload O (i := 5) (pc := 160) 3 rfl dX10_piece_160 ?_
        refine J_l2i O (pc := 162) dX10_piece_162 ?_
        refine J_iconst O (v := 1) (pc := 163) (by decide) dX10_piece_163 ?_
        refine J_isub O (pc := 164) dX10_piece_164 ?_
        obtain ⟨z165, h165, hf⟩ := jt_b hf
        refine J_callVv O (pc := 165) (c_X10_stop l D cB cI cJ m mt md mk ms mu mn mm mo mw m_tl m_dl m_c m_e m_ol m_fa m_f m_p m_is m_t m_d m_k m_s m_u m_n m_m m_o m_w 5 ((Int64.toInt32 v5) - 1) h165) rfl 0 rfl rfl gX10_piece_X10_stop hdV_X10_stop ⟨(Nat.le_of_ble_eq_true rfl), (Nat.le_of_ble_eq_true rfl)⟩ rfl (st := []) rfl (Nat.le_of_ble_eq_true rfl) [0, 1, 2, 3, 4, 5, 6, 7, 8, 9] [] rfl rfl rfl rfl rfl (by decide) [(m, .inr (6, [.ref mt, .int m_tl, .ref md, .int m_dl, .ref mk, .ref ms, .int m_c, .ref mu, .ref mn, .ref mm, .int m_e, .ref mo, .int m_ol, .int z165.1, .int z165.2, .ref mw, .int m_p, .int m_is])), (mt, .inl (cI, 6000, .inl m_t)), (md, .inl (cI, 12000, .inl m_d)), (mk, .inl (cI, 61, .inl m_k)), (ms, .inl (cI, 61, .inl m_s)), (mu, .inl (cI, 41, .inl m_u)), (mn, .inl (cJ, 41, .inr (.inl m_n))), (mm, .inl (cI, 41, .inl m_m)), (mo, .inl (cI, 14000, .inl m_o)), (mw, .inl (cI, 61, .inl m_w))] [0, 1, 2, 3, 4, 5, 6, 7, 8, 9] rfl rfl rfl (0) (0) (Nat.le_of_ble_eq_true rfl) (Nat.le_of_ble_eq_true rfl) ⟨(Nat.le_of_ble_eq_true rfl), (Nat.le_of_ble_eq_true rfl)⟩ dX10_piece_165 ?_
        refine J_sub [0, 1, 2, 3] (lv' := [(0, .ref m), (1, .int a1), (3, .long v3), (5, .long v5)]) rfl ?_
        exact wk_X10_piece_168 O m mt md mk ms mu mn mm mo mw m_tl m_dl m_c m_e m_ol m_t m_d m_k m_s m_u m_n m_m m_o a1 v3 v5 z165.1 z165.2 m_p m_is m_w hf
set_option maxHeartbeats 4000000 in
set_option maxRecDepth 100000 in
theorem wk_X10_piece_82 {X : JC} {l : Launch} {D : va_G} {cB cI cJ : ClassId} (O : Jo X (l, D, cB, cI, cJ) cX10_piece 7 RX10 wsX10_piece rmX10_piece (some .int)) (m mt md mk ms mu mn mm mo mw : Nat) (m_tl : Int32) (m_dl : Int32) (m_c : Int32) (m_e : Int32) (m_ol : Int32) (m_t : Nat → Int32) (m_d : Nat → Int32) (m_k : Nat → Int32) (m_s : Nat → Int32) (m_u : Nat → Int32) (m_n : Nat → Int64) (m_m : Nat → Int32) (m_o : Nat → Int32) (a1 : Int32) {z : Int32 × Int32 × Int32 × Int32 × Int32 × (Nat → Int32)} (m_fa : Int32) (m_f : Int32) (m_p : Int32) (m_is : Int32) (m_w : Nat → Int32) (hf : p_X10_piece_82 m_tl m_t a1 m_fa m_f m_p m_is m_w = some z) : J X 7 (JQi X [(m, .inr (6, [.ref mt, .int m_tl, .ref md, .int m_dl, .ref mk, .ref ms, .int m_c, .ref mu, .ref mn, .ref mm, .int m_e, .ref mo, .int m_ol, .int z.2.1, .int z.2.2.1, .ref mw, .int z.2.2.2.1, .int z.2.2.2.2.1])), (mt, .inl (cI, 6000, .inl m_t)), (md, .inl (cI, 12000, .inl m_d)), (mk, .inl (cI, 61, .inl m_k)), (ms, .inl (cI, 61, .inl m_s)), (mu, .inl (cI, 41, .inl m_u)), (mn, .inl (cJ, 41, .inr (.inl m_n))), (mm, .inl (cI, 41, .inl m_m)), (mo, .inl (cI, 14000, .inl m_o)), (mw, .inl (cI, 61, .inl z.2.2.2.2.2))] z.1 0 0) [(m, .inr (6, [.ref mt, .int m_tl, .ref md, .int m_dl, .ref mk, .ref ms, .int m_c, .ref mu, .ref mn, .ref mm, .int m_e, .ref mo, .int m_ol, .int m_fa, .int m_f, .ref mw, .int m_p, .int m_is])), (mt, .inl (cI, 6000, .inl m_t)), (md, .inl (cI, 12000, .inl m_d)), (mk, .inl (cI, 61, .inl m_k)), (ms, .inl (cI, 61, .inl m_s)), (mu, .inl (cI, 41, .inl m_u)), (mn, .inl (cJ, 41, .inr (.inl m_n))), (mm, .inl (cI, 41, .inl m_m)), (mo, .inl (cI, 14000, .inl m_o)), (mw, .inl (cI, 61, .inl m_w))] 0 0 82 [(0, .ref m), (1, .int a1)] [] := by
  rw [p_X10_piece_82] at hf
  refine J_aload_n O (i := 0) (k0 := 0) (pc := 82) 0 rfl rfl dX10_piece_82 ?_
  refine J_get O (pc := 83) in_X10_piece_X10 0 rfl rfl 0 (by decide) mb_X10_piece_2 rfl dX10_piece_83 ?_
  refine J_iload_n O (i := 1) (k0 := 1) (pc := 86) 1 rfl rfl dX10_piece_86 ?_
  refine J_iconst O (v := 4) (pc := 87) (by decide) dX10_piece_87 ?_
  refine J_iadd O (pc := 88) dX10_piece_88 ?_
  obtain ⟨z89, h89, hf⟩ := jt_b hf
  refine J_callSl O (pc := 89) (c_X10_four l D cB cI cJ mt 6000 m_t (a1 + 4) h89) rfl gX10_piece_X10_four hdS_X10_four ⟨(Nat.le_of_ble_eq_true rfl), (Nat.le_of_ble_eq_true rfl)⟩ rfl (st := []) rfl (Nat.le_of_ble_eq_true rfl) [1] [0, 2, 3, 4, 5, 6, 7, 8, 9] rfl rfl rfl rfl rfl (by decide) [(m, .inr (6, [.ref mt, .int m_tl, .ref md, .int m_dl, .ref mk, .ref ms, .int m_c, .ref mu, .ref mn, .ref mm, .int m_e, .ref mo, .int m_ol, .int m_fa, .int m_f, .ref mw, .int m_p, .int m_is])), (mt, .inl (cI, 6000, .inl m_t)), (md, .inl (cI, 12000, .inl m_d)), (mk, .inl (cI, 61, .inl m_k)), (ms, .inl (cI, 61, .inl m_s)), (mu, .inl (cI, 41, .inl m_u)), (mn, .inl (cJ, 41, .inr (.inl m_n))), (mm, .inl (cI, 41, .inl m_m)), (mo, .inl (cI, 14000, .inl m_o)), (mw, .inl (cI, 61, .inl m_w))] [0, 9, 1, 2, 3, 4, 5, 6, 7, 8] rfl rfl rfl (0) (0) (Nat.le_of_ble_eq_true rfl) (Nat.le_of_ble_eq_true rfl) ⟨(Nat.le_of_ble_eq_true rfl), (Nat.le_of_ble_eq_true rfl)⟩ dX10_piece_89 ?_
  refine J_lstore_n O (i := 3) (k0 := 3) (pc := 92) rfl [(3, .long z89), (0, .ref m), (1, .int a1)] (by decide) rfl dX10_piece_92 ?_
  refine J_iload_n O (i := 1) (k0 := 1) (pc := 93) 2 rfl rfl dX10_piece_93 ?_
  refine J_i2l O (pc := 94) dX10_piece_94 ?_
  refine J_ldc2 O (pc := 95) mb_X10_piece_5 dX10_piece_95 ?_
  refine J_ladd O (pc := 98) dX10_piece_98 ?_
  refine J_lload_n O (i := 3) (k0 := 3) (pc := 99) 0 rfl rfl dX10_piece_99 ?_
  refine J_ladd O (pc := 100) dX10_piece_100 ?_
  refine J_lload_n O (i := 3) (k0 := 3) (pc := 101) 0 rfl rfl dX10_piece_101 ?_
  refine J_ldc2 O (pc := 102) mb_X10_piece_6 dX10_piece_102 ?_
  refine J_lrem O (pc := 105) (by decide) dX10_piece_105 ?_
  refine J_ladd O (pc := 106) dX10_piece_106 ?_
  refine J_lstore O (i := 5) (pc := 107) [(5, .long ((((Int32.toInt64 a1) + 8) + z89) + (z89 - z89 / 2 * 2))), (3, .long z89), (0, .ref m), (1, .int a1)] (by decide) rfl dX10_piece_107 ?_
  refine J_lload O (i := 5) (pc := 109) 0 rfl dX10_piece_109 ?_
  refine J_aload_n O (i := 0) (k0 := 0) (pc := 111) 2 rfl rfl dX10_piece_111 ?_
  refine J_get O (pc := 112) in_X10_piece_X10 0 rfl rfl 1 (by decide) mb_X10_piece_1 rfl dX10_piece_112 ?_
  refine J_i2l O (pc := 115) dX10_piece_115 ?_
  refine J_lif_le O (tgt := 128) (pc := 116) dX10_piece_116 dX10_piece_117 (by decide) (fun c116 => ?_) (fun c116 => ?_)
  · have hf := jt_t c116 hf
    refine J_sub [2, 3, 1, 0] (lv' := [(0, .ref m), (1, .int a1), (3, .long z89), (5, .long ((((Int32.toInt64 a1) + 8) + z89) + (z89 - z89 / 2 * 2)))]) rfl ?_
    exact wk_X10_piece_128 O m mt md mk ms mu mn mm mo mw m_tl m_dl m_c m_e m_ol m_t m_d m_k m_s m_u m_n m_m m_o a1 z89 ((((Int32.toInt64 a1) + 8) + z89) + (z89 - z89 / 2 * 2)) m_fa m_f m_p m_is m_w hf
  · have hf := jt_f c116 hf
    refine J_aload_n O (i := 0) (k0 := 0) (pc := 120) 2 rfl rfl dX10_piece_120 ?_
    refine J_iconst O (v := 4) (pc := 121) (by decide) dX10_piece_121 ?_
    refine J_iload_n O (i := 1) (k0 := 1) (pc := 122) 3 rfl rfl dX10_piece_122 ?_
    refine J_iconst O (v := 4) (pc := 123) (by decide) dX10_piece_123 ?_
    refine J_iadd O (pc := 124) dX10_piece_124 ?_
    obtain ⟨z125, h125, hf⟩ := jt_b hf
    refine J_callVv O (pc := 125) (c_X10_stop l D cB cI cJ m mt md mk ms mu mn mm mo mw m_tl m_dl m_c m_e m_ol m_fa m_f m_p m_is m_t m_d m_k m_s m_u m_n m_m m_o m_w 4 (a1 + 4) h125) rfl 0 rfl rfl gX10_piece_X10_stop hdV_X10_stop ⟨(Nat.le_of_ble_eq_true rfl), (Nat.le_of_ble_eq_true rfl)⟩ rfl (st := []) rfl (Nat.le_of_ble_eq_true rfl) [0, 1, 2, 3, 4, 5, 6, 7, 8, 9] [] rfl rfl rfl rfl rfl (by decide) [(m, .inr (6, [.ref mt, .int m_tl, .ref md, .int m_dl, .ref mk, .ref ms, .int m_c, .ref mu, .ref mn, .ref mm, .int m_e, .ref mo, .int m_ol, .int z125.1, .int z125.2, .ref mw, .int m_p, .int m_is])), (mt, .inl (cI, 6000, .inl m_t)), (md, .inl (cI, 12000, .inl m_d)), (mk, .inl (cI, 61, .inl m_k)), (ms, .inl (cI, 61, .inl m_s)), (mu, .inl (cI, 41, .inl m_u)), (mn, .inl (cJ, 41, .inr (.inl m_n))), (mm, .inl (cI, 41, .inl m_m)), (mo, .inl (cI, 14000, .inl m_o)), (mw, .inl (cI, 61, .inl m_w))] [0, 1, 2, 3, 4, 5, 6, 7, 8, 9] rfl rfl rfl (0) (0) (Nat.le_of_ble_eq_true rfl) (Nat.le_of_ble_eq_true rfl) ⟨(Nat.le_of_ble_eq_true rfl), (Nat.le_of_ble_eq_true rfl)⟩ dX10_piece_125 ?_
    refine J_sub [2, 3, 1, 0] (lv' := [(0, .ref m), (1, .int a1), (3, .long z89), (5, .long ((((Int32.toInt64 a1) + 8) + z89) + (z89 - z89 / 2 * 2)))]) rfl ?_
    exact wk_X10_piece_128 O m mt md mk ms mu mn mm mo mw m_tl m_dl m_c m_e m_ol m_t m_d m_k m_s m_u m_n m_m m_o a1 z89 ((((Int32.toInt64 a1) + 8) + z89) + (z89 - z89 / 2 * 2)) z125.1 z125.2 m_p m_is m_w hf
set_option maxHeartbeats 4000000 in
set_option maxRecDepth 100000 in
theorem wk_X10_piece_60 {X : JC} {l : Launch} {D : va_G} {cB cI cJ : ClassId} (O : Jo X (l, D, cB, cI, cJ) cX10_piece 7 RX10 wsX10_piece rmX10_piece (some .int)) (m mt md mk ms mu mn mm mo mw : Nat) (m_tl : Int32) (m_dl : Int32) (m_c : Int32) (m_e : Int32) (m_ol : Int32) (m_t : Nat → Int32) (m_d : Nat → Int32) (m_k : Nat → Int32) (m_s : Nat → Int32) (m_u : Nat → Int32) (m_n : Nat → Int64) (m_m : Nat → Int32) (m_o : Nat → Int32) (a1 : Int32) {z : Int32 × Int32 × Int32 × Int32 × Int32 × (Nat → Int32)} (m_fa : Int32) (m_f : Int32) (m_p : Int32) (m_is : Int32) (m_w : Nat → Int32) (hf : p_X10_piece_60 m_tl m_t a1 m_fa m_f m_p m_is m_w = some z) : J X 7 (JQi X [(m, .inr (6, [.ref mt, .int m_tl, .ref md, .int m_dl, .ref mk, .ref ms, .int m_c, .ref mu, .ref mn, .ref mm, .int m_e, .ref mo, .int m_ol, .int z.2.1, .int z.2.2.1, .ref mw, .int z.2.2.2.1, .int z.2.2.2.2.1])), (mt, .inl (cI, 6000, .inl m_t)), (md, .inl (cI, 12000, .inl m_d)), (mk, .inl (cI, 61, .inl m_k)), (ms, .inl (cI, 61, .inl m_s)), (mu, .inl (cI, 41, .inl m_u)), (mn, .inl (cJ, 41, .inr (.inl m_n))), (mm, .inl (cI, 41, .inl m_m)), (mo, .inl (cI, 14000, .inl m_o)), (mw, .inl (cI, 61, .inl z.2.2.2.2.2))] z.1 0 0) [(m, .inr (6, [.ref mt, .int m_tl, .ref md, .int m_dl, .ref mk, .ref ms, .int m_c, .ref mu, .ref mn, .ref mm, .int m_e, .ref mo, .int m_ol, .int m_fa, .int m_f, .ref mw, .int m_p, .int m_is])), (mt, .inl (cI, 6000, .inl m_t)), (md, .inl (cI, 12000, .inl m_d)), (mk, .inl (cI, 61, .inl m_k)), (ms, .inl (cI, 61, .inl m_s)), (mu, .inl (cI, 41, .inl m_u)), (mn, .inl (cJ, 41, .inr (.inl m_n))), (mm, .inl (cI, 41, .inl m_m)), (mo, .inl (cI, 14000, .inl m_o)), (mw, .inl (cI, 61, .inl m_w))] 0 0 60 [(0, .ref m), (1, .int a1)] [] := by
  rw [p_X10_piece_60] at hf
  refine J_aload_n O (i := 0) (k0 := 0) (pc := 60) 0 rfl rfl dX10_piece_60 ?_
  refine J_iconst O (v := 2) (pc := 61) (by decide) dX10_piece_61 ?_
  refine J_iload_n O (i := 1) (k0 := 1) (pc := 62) 1 rfl rfl dX10_piece_62 ?_
  obtain ⟨z63, h63, hf⟩ := jt_b hf
  refine J_callVv O (pc := 63) (c_X10_stop l D cB cI cJ m mt md mk ms mu mn mm mo mw m_tl m_dl m_c m_e m_ol m_fa m_f m_p m_is m_t m_d m_k m_s m_u m_n m_m m_o m_w 2 a1 h63) rfl 0 rfl rfl gX10_piece_X10_stop hdV_X10_stop ⟨(Nat.le_of_ble_eq_true rfl), (Nat.le_of_ble_eq_true rfl)⟩ rfl (st := []) rfl (Nat.le_of_ble_eq_true rfl) [0, 1, 2, 3, 4, 5, 6, 7, 8, 9] [] rfl rfl rfl rfl rfl (by decide) [(m, .inr (6, [.ref mt, .int m_tl, .ref md, .int m_dl, .ref mk, .ref ms, .int m_c, .ref mu, .ref mn, .ref mm, .int m_e, .ref mo, .int m_ol, .int z63.1, .int z63.2, .ref mw, .int m_p, .int m_is])), (mt, .inl (cI, 6000, .inl m_t)), (md, .inl (cI, 12000, .inl m_d)), (mk, .inl (cI, 61, .inl m_k)), (ms, .inl (cI, 61, .inl m_s)), (mu, .inl (cI, 41, .inl m_u)), (mn, .inl (cJ, 41, .inr (.inl m_n))), (mm, .inl (cI, 41, .inl m_m)), (mo, .inl (cI, 14000, .inl m_o)), (mw, .inl (cI, 61, .inl m_w))] [0, 1, 2, 3, 4, 5, 6, 7, 8, 9] rfl rfl rfl (0) (0) (Nat.le_of_ble_eq_true rfl) (Nat.le_of_ble_eq_true rfl) ⟨(Nat.le_of_ble_eq_true rfl), (Nat.le_of_ble_eq_true rfl)⟩ dX10_piece_63 ?_
  refine J_aload_n O (i := 0) (k0 := 0) (pc := 66) 0 rfl rfl dX10_piece_66 ?_
  refine J_get O (pc := 67) in_X10_piece_X10 0 rfl rfl 16 (by decide) mb_X10_piece_3 rfl dX10_piece_67 ?_
  refine J_bipush O (v := 60) (pc := 70) (by decide) dX10_piece_70 ?_
  refine J_icmp_ne O (tgt := 82) (pc := 72) dX10_piece_72 (by decide) (fun c72 => ?_) (fun c72 => ?_)
  · have hf := jt_f c72 hf
    refine J_sub [0, 1] (lv' := [(0, .ref m), (1, .int a1)]) rfl ?_
    exact wk_X10_piece_82 O m mt md mk ms mu mn mm mo mw m_tl m_dl m_c m_e m_ol m_t m_d m_k m_s m_u m_n m_m m_o a1 z63.1 z63.2 m_p m_is m_w hf
  · have hf := jt_t c72 hf
    refine J_aload_n O (i := 0) (k0 := 0) (pc := 75) 0 rfl rfl dX10_piece_75 ?_
    refine J_bipush O (v := 10) (pc := 76) (by decide) dX10_piece_76 ?_
    refine J_iload_n O (i := 1) (k0 := 1) (pc := 78) 1 rfl rfl dX10_piece_78 ?_
    obtain ⟨z79, h79, hf⟩ := jt_b hf
    refine J_callVv O (pc := 79) (c_X10_stop l D cB cI cJ m mt md mk ms mu mn mm mo mw m_tl m_dl m_c m_e m_ol z63.1 z63.2 m_p m_is m_t m_d m_k m_s m_u m_n m_m m_o m_w 10 a1 h79) rfl 0 rfl rfl gX10_piece_X10_stop hdV_X10_stop ⟨(Nat.le_of_ble_eq_true rfl), (Nat.le_of_ble_eq_true rfl)⟩ rfl (st := []) rfl (Nat.le_of_ble_eq_true rfl) [0, 1, 2, 3, 4, 5, 6, 7, 8, 9] [] rfl rfl rfl rfl rfl (by decide) [(m, .inr (6, [.ref mt, .int m_tl, .ref md, .int m_dl, .ref mk, .ref ms, .int m_c, .ref mu, .ref mn, .ref mm, .int m_e, .ref mo, .int m_ol, .int z79.1, .int z79.2, .ref mw, .int m_p, .int m_is])), (mt, .inl (cI, 6000, .inl m_t)), (md, .inl (cI, 12000, .inl m_d)), (mk, .inl (cI, 61, .inl m_k)), (ms, .inl (cI, 61, .inl m_s)), (mu, .inl (cI, 41, .inl m_u)), (mn, .inl (cJ, 41, .inr (.inl m_n))), (mm, .inl (cI, 41, .inl m_m)), (mo, .inl (cI, 14000, .inl m_o)), (mw, .inl (cI, 61, .inl m_w))] [0, 1, 2, 3, 4, 5, 6, 7, 8, 9] rfl rfl rfl (0) (0) (Nat.le_of_ble_eq_true rfl) (Nat.le_of_ble_eq_true rfl) ⟨(Nat.le_of_ble_eq_true rfl), (Nat.le_of_ble_eq_true rfl)⟩ dX10_piece_79 ?_
    refine J_sub [0, 1] (lv' := [(0, .ref m), (1, .int a1)]) rfl ?_
    exact wk_X10_piece_82 O m mt md mk ms mu mn mm mo mw m_tl m_dl m_c m_e m_ol m_t m_d m_k m_s m_u m_n m_m m_o a1 z79.1 z79.2 m_p m_is m_w hf
set_option maxHeartbeats 4000000 in
set_option maxRecDepth 100000 in
theorem c_X10_piece (l : Launch) (D : va_G) (cB cI cJ : ClassId) (m mt md mk ms mu mn mm mo mw : Nat) (m_tl : Int32) (m_dl : Int32) (m_c : Int32) (m_e : Int32) (m_ol : Int32) (m_fa : Int32) (m_f : Int32) (m_p : Int32) (m_is : Int32) (m_t : Nat → Int32) (m_d : Nat → Int32) (m_k : Nat → Int32) (m_s : Nat → Int32) (m_u : Nat → Int32) (m_n : Nat → Int64) (m_m : Nat → Int32) (m_o : Nat → Int32) (m_w : Nat → Int32) (a1 : Int32) {z : Int32 × Int32 × Int32 × Int32 × Int32 × (Nat → Int32)} (hf : p_X10_piece m_tl m_fa m_f m_p m_is m_t m_w a1 = some z) : Ci (l, D, cB, cI, cJ) yX10_piece wsX10_piece rmX10_piece [.ref m, .int a1] [(m, .inr (6, [.ref mt, .int m_tl, .ref md, .int m_dl, .ref mk, .ref ms, .int m_c, .ref mu, .ref mn, .ref mm, .int m_e, .ref mo, .int m_ol, .int m_fa, .int m_f, .ref mw, .int m_p, .int m_is])), (mt, .inl (cI, 6000, .inl m_t)), (md, .inl (cI, 12000, .inl m_d)), (mk, .inl (cI, 61, .inl m_k)), (ms, .inl (cI, 61, .inl m_s)), (mu, .inl (cI, 41, .inl m_u)), (mn, .inl (cJ, 41, .inr (.inl m_n))), (mm, .inl (cI, 41, .inl m_m)), (mo, .inl (cI, 14000, .inl m_o)), (mw, .inl (cI, 61, .inl m_w))] [(m, .inr (6, [.ref mt, .int m_tl, .ref md, .int m_dl, .ref mk, .ref ms, .int m_c, .ref mu, .ref mn, .ref mm, .int m_e, .ref mo, .int m_ol, .int z.2.1, .int z.2.2.1, .ref mw, .int z.2.2.2.1, .int z.2.2.2.2.1])), (mt, .inl (cI, 6000, .inl m_t)), (md, .inl (cI, 12000, .inl m_d)), (mk, .inl (cI, 61, .inl m_k)), (ms, .inl (cI, 61, .inl m_s)), (mu, .inl (cI, 41, .inl m_u)), (mn, .inl (cJ, 41, .inr (.inl m_n))), (mm, .inl (cI, 41, .inl m_m)), (mo, .inl (cI, 14000, .inl m_o)), (mw, .inl (cI, 61, .inl z.2.2.2.2.2))] z.1 := by
  refine Ci_of (cc := cX10_piece) (nL := 7) (own := RX10) (ret := (some .int)) (by decide) rfl rfl (Nat.le_of_ble_eq_true rfl) (fun X O hnm0 => ?_)
  rw [p_X10_piece] at hf
  show J X 7 (JQi X [(m, .inr (6, [.ref mt, .int m_tl, .ref md, .int m_dl, .ref mk, .ref ms, .int m_c, .ref mu, .ref mn, .ref mm, .int m_e, .ref mo, .int m_ol, .int z.2.1, .int z.2.2.1, .ref mw, .int z.2.2.2.1, .int z.2.2.2.2.1])), (mt, .inl (cI, 6000, .inl m_t)), (md, .inl (cI, 12000, .inl m_d)), (mk, .inl (cI, 61, .inl m_k)), (ms, .inl (cI, 61, .inl m_s)), (mu, .inl (cI, 41, .inl m_u)), (mn, .inl (cJ, 41, .inr (.inl m_n))), (mm, .inl (cI, 41, .inl m_m)), (mo, .inl (cI, 14000, .inl m_o)), (mw, .inl (cI, 61, .inl z.2.2.2.2.2))] z.1 0 0) [(m, .inr (6, [.ref mt, .int m_tl, .ref md, .int m_dl, .ref mk, .ref ms, .int m_c, .ref mu, .ref mn, .ref mm, .int m_e, .ref mo, .int m_ol, .int m_fa, .int m_f, .ref mw, .int m_p, .int m_is])), (mt, .inl (cI, 6000, .inl m_t)), (md, .inl (cI, 12000, .inl m_d)), (mk, .inl (cI, 61, .inl m_k)), (ms, .inl (cI, 61, .inl m_s)), (mu, .inl (cI, 41, .inl m_u)), (mn, .inl (cJ, 41, .inr (.inl m_n))), (mm, .inl (cI, 41, .inl m_m)), (mo, .inl (cI, 14000, .inl m_o)), (mw, .inl (cI, 61, .inl m_w))] 0 0 0 [(0, .ref m), (1, .int a1)] []
  refine J_iload_n O (i := 1) (k0 := 1) (pc := 0) 1 rfl rfl dX10_piece_0 ?_
  refine J_bipush O (v := 8) (pc := 1) (by decide) dX10_piece_1 ?_
  refine J_iadd O (pc := 3) dX10_piece_3 ?_
  refine J_aload_n O (i := 0) (k0 := 0) (pc := 4) 0 rfl rfl dX10_piece_4 ?_
  refine J_get O (pc := 5) in_X10_piece_X10 0 rfl rfl 1 (by decide) mb_X10_piece_1 rfl dX10_piece_5 ?_
  refine J_icmp_le O (tgt := 22) (pc := 8) dX10_piece_8 (by decide) (fun c8 => ?_) (fun c8 => ?_)
  · have hf := jt_t c8 hf
    refine J_aload_n O (i := 0) (k0 := 0) (pc := 22) 0 rfl rfl dX10_piece_22 ?_
    refine J_get O (pc := 23) in_X10_piece_X10 0 rfl rfl 0 (by decide) mb_X10_piece_2 rfl dX10_piece_23 ?_
    refine J_iload_n O (i := 1) (k0 := 1) (pc := 26) 1 rfl rfl dX10_piece_26 ?_
    obtain ⟨z27, h27, hf⟩ := jt_b hf
    refine J_callSi O (pc := 27) (c_X10_kindIn l D cB cI cJ mt 6000 m_t a1 h27) rfl gX10_piece_X10_kindIn hdS_X10_kindIn ⟨(Nat.le_of_ble_eq_true rfl), (Nat.le_of_ble_eq_true rfl)⟩ rfl (st := []) rfl (Nat.le_of_ble_eq_true rfl) [1] [0, 2, 3, 4, 5, 6, 7, 8, 9] rfl rfl rfl rfl rfl (by decide) [(m, .inr (6, [.ref mt, .int m_tl, .ref md, .int m_dl, .ref mk, .ref ms, .int m_c, .ref mu, .ref mn, .ref mm, .int m_e, .ref mo, .int m_ol, .int m_fa, .int m_f, .ref mw, .int m_p, .int m_is])), (mt, .inl (cI, 6000, .inl m_t)), (md, .inl (cI, 12000, .inl m_d)), (mk, .inl (cI, 61, .inl m_k)), (ms, .inl (cI, 61, .inl m_s)), (mu, .inl (cI, 41, .inl m_u)), (mn, .inl (cJ, 41, .inr (.inl m_n))), (mm, .inl (cI, 41, .inl m_m)), (mo, .inl (cI, 14000, .inl m_o)), (mw, .inl (cI, 61, .inl m_w))] [0, 9, 1, 2, 3, 4, 5, 6, 7, 8] rfl rfl rfl (0) (0) (Nat.le_of_ble_eq_true rfl) (Nat.le_of_ble_eq_true rfl) ⟨(Nat.le_of_ble_eq_true rfl), (Nat.le_of_ble_eq_true rfl)⟩ dX10_piece_27 ?_
    refine J_istore_n O (i := 2) (k0 := 2) (pc := 30) rfl [(2, .int z27), (0, .ref m), (1, .int a1)] (by decide) rfl dX10_piece_30 ?_
    refine J_aload_n O (i := 0) (k0 := 0) (pc := 31) 1 rfl rfl dX10_piece_31 ?_
    refine J_get O (pc := 32) in_X10_piece_X10 0 rfl rfl 16 (by decide) mb_X10_piece_3 rfl dX10_piece_32 ?_
    refine J_if_ge O (tgt := 47) (pc := 35) dX10_piece_35 (by decide) (fun c35 => ?_) (fun c35 => ?_)
    · have hf := jt_t c35 hf
      refine J_iload_n O (i := 2) (k0 := 2) (pc := 47) 0 rfl rfl dX10_piece_47 ?_
      refine J_ldc O (pc := 48) mb_X10_piece_4 dX10_piece_48 ?_
      refine J_icmp_eq O (tgt := 60) (pc := 50) dX10_piece_50 (by decide) (fun c50 => ?_) (fun c50 => ?_)
      · have hf := jt_t c50 hf
        refine J_sub [1, 2] (lv' := [(0, .ref m), (1, .int a1)]) rfl ?_
        exact wk_X10_piece_60 O m mt md mk ms mu mn mm mo mw m_tl m_dl m_c m_e m_ol m_t m_d m_k m_s m_u m_n m_m m_o a1 m_fa m_f m_p m_is m_w hf
      · have hf := jt_f c50 hf
        refine J_iload_n O (i := 2) (k0 := 2) (pc := 53) 0 rfl rfl dX10_piece_53 ?_
        obtain ⟨z54, h54, hf⟩ := jt_b hf
        refine J_callSi O (pc := 54) (c_X10_isKind l D cB cI cJ z27 h54) rfl gX10_piece_X10_isKind hdS_X10_isKind ⟨(Nat.le_of_ble_eq_true rfl), (Nat.le_of_ble_eq_true rfl)⟩ rfl (st := []) rfl (Nat.le_of_ble_eq_true rfl) [] [0, 1, 2, 3, 4, 5, 6, 7, 8, 9] rfl rfl rfl rfl rfl (by decide) [(m, .inr (6, [.ref mt, .int m_tl, .ref md, .int m_dl, .ref mk, .ref ms, .int m_c, .ref mu, .ref mn, .ref mm, .int m_e, .ref mo, .int m_ol, .int m_fa, .int m_f, .ref mw, .int m_p, .int m_is])), (mt, .inl (cI, 6000, .inl m_t)), (md, .inl (cI, 12000, .inl m_d)), (mk, .inl (cI, 61, .inl m_k)), (ms, .inl (cI, 61, .inl m_s)), (mu, .inl (cI, 41, .inl m_u)), (mn, .inl (cJ, 41, .inr (.inl m_n))), (mm, .inl (cI, 41, .inl m_m)), (mo, .inl (cI, 14000, .inl m_o)), (mw, .inl (cI, 61, .inl m_w))] [0, 1, 2, 3, 4, 5, 6, 7, 8, 9] rfl rfl rfl (0) (0) (Nat.le_of_ble_eq_true rfl) (Nat.le_of_ble_eq_true rfl) ⟨(Nat.le_of_ble_eq_true rfl), (Nat.le_of_ble_eq_true rfl)⟩ dX10_piece_54 ?_
        refine J_zne O (tgt := 66) (pc := 57) dX10_piece_57 (by decide) (fun c57 => ?_) (fun c57 => ?_)
        · have hf := jt_t c57 hf
          refine J_aload_n O (i := 0) (k0 := 0) (pc := 66) 1 rfl rfl dX10_piece_66 ?_
          refine J_get O (pc := 67) in_X10_piece_X10 0 rfl rfl 16 (by decide) mb_X10_piece_3 rfl dX10_piece_67 ?_
          refine J_bipush O (v := 60) (pc := 70) (by decide) dX10_piece_70 ?_
          refine J_icmp_ne O (tgt := 82) (pc := 72) dX10_piece_72 (by decide) (fun c72 => ?_) (fun c72 => ?_)
          · have hf := jt_f c72 hf
            refine J_sub [1, 2] (lv' := [(0, .ref m), (1, .int a1)]) rfl ?_
            exact wk_X10_piece_82 O m mt md mk ms mu mn mm mo mw m_tl m_dl m_c m_e m_ol m_t m_d m_k m_s m_u m_n m_m m_o a1 m_fa m_f m_p m_is m_w hf
          · have hf := jt_t c72 hf
            refine J_aload_n O (i := 0) (k0 := 0) (pc := 75) 1 rfl rfl dX10_piece_75 ?_
            refine J_bipush O (v := 10) (pc := 76) (by decide) dX10_piece_76 ?_
            refine J_iload_n O (i := 1) (k0 := 1) (pc := 78) 2 rfl rfl dX10_piece_78 ?_
            obtain ⟨z79, h79, hf⟩ := jt_b hf
            refine J_callVv O (pc := 79) (c_X10_stop l D cB cI cJ m mt md mk ms mu mn mm mo mw m_tl m_dl m_c m_e m_ol m_fa m_f m_p m_is m_t m_d m_k m_s m_u m_n m_m m_o m_w 10 a1 h79) rfl 0 rfl rfl gX10_piece_X10_stop hdV_X10_stop ⟨(Nat.le_of_ble_eq_true rfl), (Nat.le_of_ble_eq_true rfl)⟩ rfl (st := []) rfl (Nat.le_of_ble_eq_true rfl) [0, 1, 2, 3, 4, 5, 6, 7, 8, 9] [] rfl rfl rfl rfl rfl (by decide) [(m, .inr (6, [.ref mt, .int m_tl, .ref md, .int m_dl, .ref mk, .ref ms, .int m_c, .ref mu, .ref mn, .ref mm, .int m_e, .ref mo, .int m_ol, .int z79.1, .int z79.2, .ref mw, .int m_p, .int m_is])), (mt, .inl (cI, 6000, .inl m_t)), (md, .inl (cI, 12000, .inl m_d)), (mk, .inl (cI, 61, .inl m_k)), (ms, .inl (cI, 61, .inl m_s)), (mu, .inl (cI, 41, .inl m_u)), (mn, .inl (cJ, 41, .inr (.inl m_n))), (mm, .inl (cI, 41, .inl m_m)), (mo, .inl (cI, 14000, .inl m_o)), (mw, .inl (cI, 61, .inl m_w))] [0, 1, 2, 3, 4, 5, 6, 7, 8, 9] rfl rfl rfl (0) (0) (Nat.le_of_ble_eq_true rfl) (Nat.le_of_ble_eq_true rfl) ⟨(Nat.le_of_ble_eq_true rfl), (Nat.le_of_ble_eq_true rfl)⟩ dX10_piece_79 ?_
            refine J_sub [1, 2] (lv' := [(0, .ref m), (1, .int a1)]) rfl ?_
            exact wk_X10_piece_82 O m mt md mk ms mu mn mm mo mw m_tl m_dl m_c m_e m_ol m_t m_d m_k m_s m_u m_n m_m m_o a1 z79.1 z79.2 m_p m_is m_w hf
        · have hf := jt_f c57 hf
          refine J_sub [1, 2] (lv' := [(0, .ref m), (1, .int a1)]) rfl ?_
          exact wk_X10_piece_60 O m mt md mk ms mu mn mm mo mw m_tl m_dl m_c m_e m_ol m_t m_d m_k m_s m_u m_n m_m m_o a1 m_fa m_f m_p m_is m_w hf
    · have hf := jt_f c35 hf
      refine J_iload_n O (i := 2) (k0 := 2) (pc := 38) 0 rfl rfl dX10_piece_38 ?_
      refine J_ldc O (pc := 39) mb_X10_piece_4 dX10_piece_39 ?_
      refine J_icmp_eq O (tgt := 66) (pc := 41) dX10_piece_41 (by decide) (fun c41 => ?_) (fun c41 => ?_)
      · have hf := jt_t c41 hf
        refine J_aload_n O (i := 0) (k0 := 0) (pc := 66) 1 rfl rfl dX10_piece_66 ?_
        refine J_get O (pc := 67) in_X10_piece_X10 0 rfl rfl 16 (by decide) mb_X10_piece_3 rfl dX10_piece_67 ?_
        refine J_bipush O (v := 60) (pc := 70) (by decide) dX10_piece_70 ?_
        refine J_icmp_ne O (tgt := 82) (pc := 72) dX10_piece_72 (by decide) (fun c72 => ?_) (fun c72 => ?_)
        · have hf := jt_f c72 hf
          refine J_sub [1, 2] (lv' := [(0, .ref m), (1, .int a1)]) rfl ?_
          exact wk_X10_piece_82 O m mt md mk ms mu mn mm mo mw m_tl m_dl m_c m_e m_ol m_t m_d m_k m_s m_u m_n m_m m_o a1 m_fa m_f m_p m_is m_w hf
        · have hf := jt_t c72 hf
          refine J_aload_n O (i := 0) (k0 := 0) (pc := 75) 1 rfl rfl dX10_piece_75 ?_
          refine J_bipush O (v := 10) (pc := 76) (by decide) dX10_piece_76 ?_
          refine J_iload_n O (i := 1) (k0 := 1) (pc := 78) 2 rfl rfl dX10_piece_78 ?_
          obtain ⟨z79, h79, hf⟩ := jt_b hf
          refine J_callVv O (pc := 79) (c_X10_stop l D cB cI cJ m mt md mk ms mu mn mm mo mw m_tl m_dl m_c m_e m_ol m_fa m_f m_p m_is m_t m_d m_k m_s m_u m_n m_m m_o m_w 10 a1 h79) rfl 0 rfl rfl gX10_piece_X10_stop hdV_X10_stop ⟨(Nat.le_of_ble_eq_true rfl), (Nat.le_of_ble_eq_true rfl)⟩ rfl (st := []) rfl (Nat.le_of_ble_eq_true rfl) [0, 1, 2, 3, 4, 5, 6, 7, 8, 9] [] rfl rfl rfl rfl rfl (by decide) [(m, .inr (6, [.ref mt, .int m_tl, .ref md, .int m_dl, .ref mk, .ref ms, .int m_c, .ref mu, .ref mn, .ref mm, .int m_e, .ref mo, .int m_ol, .int z79.1, .int z79.2, .ref mw, .int m_p, .int m_is])), (mt, .inl (cI, 6000, .inl m_t)), (md, .inl (cI, 12000, .inl m_d)), (mk, .inl (cI, 61, .inl m_k)), (ms, .inl (cI, 61, .inl m_s)), (mu, .inl (cI, 41, .inl m_u)), (mn, .inl (cJ, 41, .inr (.inl m_n))), (mm, .inl (cI, 41, .inl m_m)), (mo, .inl (cI, 14000, .inl m_o)), (mw, .inl (cI, 61, .inl m_w))] [0, 1, 2, 3, 4, 5, 6, 7, 8, 9] rfl rfl rfl (0) (0) (Nat.le_of_ble_eq_true rfl) (Nat.le_of_ble_eq_true rfl) ⟨(Nat.le_of_ble_eq_true rfl), (Nat.le_of_ble_eq_true rfl)⟩ dX10_piece_79 ?_
          refine J_sub [1, 2] (lv' := [(0, .ref m), (1, .int a1)]) rfl ?_
          exact wk_X10_piece_82 O m mt md mk ms mu mn mm mo mw m_tl m_dl m_c m_e m_ol m_t m_d m_k m_s m_u m_n m_m m_o a1 z79.1 z79.2 m_p m_is m_w hf
      · have hf := jt_f c41 hf
        refine J_goto O (tgt := 60) (pc := 44) dX10_piece_44 (by decide) ?_
        refine J_sub [1, 2] (lv' := [(0, .ref m), (1, .int a1)]) rfl ?_
        exact wk_X10_piece_60 O m mt md mk ms mu mn mm mo mw m_tl m_dl m_c m_e m_ol m_t m_d m_k m_s m_u m_n m_m m_o a1 m_fa m_f m_p m_is m_w hf
  · have hf := jt_f c8 hf
    refine J_aload_n O (i := 0) (k0 := 0) (pc := 11) 0 rfl rfl dX10_piece_11 ?_
    refine J_iconst O (v := 1) (pc := 12) (by decide) dX10_piece_12 ?_
    refine J_aload_n O (i := 0) (k0 := 0) (pc := 13) 0 rfl rfl dX10_piece_13 ?_
    refine J_get O (pc := 14) in_X10_piece_X10 0 rfl rfl 1 (by decide) mb_X10_piece_1 rfl dX10_piece_14 ?_
    obtain ⟨z17, h17, hf⟩ := jt_b hf
    refine J_callVv O (pc := 17) (c_X10_stop l D cB cI cJ m mt md mk ms mu mn mm mo mw m_tl m_dl m_c m_e m_ol m_fa m_f m_p m_is m_t m_d m_k m_s m_u m_n m_m m_o m_w 1 m_tl h17) rfl 0 rfl rfl gX10_piece_X10_stop hdV_X10_stop ⟨(Nat.le_of_ble_eq_true rfl), (Nat.le_of_ble_eq_true rfl)⟩ rfl (st := []) rfl (Nat.le_of_ble_eq_true rfl) [0, 1, 2, 3, 4, 5, 6, 7, 8, 9] [] rfl rfl rfl rfl rfl (by decide) [(m, .inr (6, [.ref mt, .int m_tl, .ref md, .int m_dl, .ref mk, .ref ms, .int m_c, .ref mu, .ref mn, .ref mm, .int m_e, .ref mo, .int m_ol, .int z17.1, .int z17.2, .ref mw, .int m_p, .int m_is])), (mt, .inl (cI, 6000, .inl m_t)), (md, .inl (cI, 12000, .inl m_d)), (mk, .inl (cI, 61, .inl m_k)), (ms, .inl (cI, 61, .inl m_s)), (mu, .inl (cI, 41, .inl m_u)), (mn, .inl (cJ, 41, .inr (.inl m_n))), (mm, .inl (cI, 41, .inl m_m)), (mo, .inl (cI, 14000, .inl m_o)), (mw, .inl (cI, 61, .inl m_w))] [0, 1, 2, 3, 4, 5, 6, 7, 8, 9] rfl rfl rfl (0) (0) (Nat.le_of_ble_eq_true rfl) (Nat.le_of_ble_eq_true rfl) ⟨(Nat.le_of_ble_eq_true rfl), (Nat.le_of_ble_eq_true rfl)⟩ dX10_piece_17 ?_
    refine J_iload_n O (i := 1) (k0 := 1) (pc := 20) 1 rfl rfl dX10_piece_20 ?_
    have e9 := Option.some.inj hf
    subst e9
    exact J_iret O (pc := 21) rfl dX10_piece_21
theorem in_X10_entryOf_X10 : ∀ w ∈ u_ws RX10 TX10 18, w ∈ wsX10_entryOf := fun _ h => List.mem_cons_of_mem _ (List.mem_append_right _ h)
theorem mb_X10_entryOf_1 : Cond.fieldLink RX10 7 (TX10 0).1 (TX10 0).2.1 (TX10 0).2.2.1 ∈ wsX10_entryOf := by decide +kernel
theorem hdS_X10_isUse : yX10_isUse.cls ≠ "java/lang/invoke/MethodHandle" ∧ yX10_isUse.cls ≠ "java/lang/invoke/VarHandle" ∧ (parseMethodDescriptor yX10_isUse.desc).map (fun d => d.parameters.length) = some 1 := by decide +kernel
theorem mb_X10_entryOf_2 : Cond.fieldLink RX10 80 (TX10 16).1 (TX10 16).2.1 (TX10 16).2.2.1 ∈ wsX10_entryOf := by decide +kernel
theorem mb_X10_entryOf_3 : Cond.fieldLink RX10 39 (TX10 15).1 (TX10 15).2.1 (TX10 15).2.2.1 ∈ wsX10_entryOf := by decide +kernel
abbrev rmX10_entryOf : Room := { frames := 2, cells := 0, slots := 0, locals := 42 }
set_option maxHeartbeats 4000000 in
set_option maxRecDepth 100000 in
theorem wk_X10_entryOf_113 {X : JC} {l : Launch} {D : va_G} {cB cI cJ : ClassId} (O : Jo X (l, D, cB, cI, cJ) cX10_entryOf 6 RX10 wsX10_entryOf rmX10_entryOf none) (m mt md mk ms mu mn mm mo mw : Nat) (m_tl : Int32) (m_dl : Int32) (m_c : Int32) (m_e : Int32) (m_ol : Int32) (m_p : Int32) (m_is : Int32) (m_t : Nat → Int32) (m_d : Nat → Int32) (m_k : Nat → Int32) (m_s : Nat → Int32) (m_u : Nat → Int32) (m_n : Nat → Int64) (m_m : Nat → Int32) (m_o : Nat → Int32) (m_w : Nat → Int32) (a1 : Int32) (a2 : Int32) (fu : Nat) {z : Int32 × Int32} : ∀ (fn : Nat) (v4 : Int32) (v5 : Int32) (m_fa : Int32) (m_f : Int32), p_X10_entryOf_113 fu m_p m_t m_w a1 a2 fn v4 v5 m_fa m_f = some z → J X 6 (JQv X [(m, .inr (6, [.ref mt, .int m_tl, .ref md, .int m_dl, .ref mk, .ref ms, .int m_c, .ref mu, .ref mn, .ref mm, .int m_e, .ref mo, .int m_ol, .int z.1, .int z.2, .ref mw, .int m_p, .int m_is])), (mt, .inl (cI, 6000, .inl m_t)), (md, .inl (cI, 12000, .inl m_d)), (mk, .inl (cI, 61, .inl m_k)), (ms, .inl (cI, 61, .inl m_s)), (mu, .inl (cI, 41, .inl m_u)), (mn, .inl (cJ, 41, .inr (.inl m_n))), (mm, .inl (cI, 41, .inl m_m)), (mo, .inl (cI, 14000, .inl m_o)), (mw, .inl (cI, 61, .inl m_w))] 0 0) [(m, .inr (6, [.ref mt, .int m_tl, .ref md, .int m_dl, .ref mk, .ref ms, .int m_c, .ref mu, .ref mn, .ref mm, .int m_e, .ref mo, .int m_ol, .int m_fa, .int m_f, .ref mw, .int m_p, .int m_is])), (mt, .inl (cI, 6000, .inl m_t)), (md, .inl (cI, 12000, .inl m_d)), (mk, .inl (cI, 61, .inl m_k)), (ms, .inl (cI, 61, .inl m_s)), (mu, .inl (cI, 41, .inl m_u)), (mn, .inl (cJ, 41, .inr (.inl m_n))), (mm, .inl (cI, 41, .inl m_m)), (mo, .inl (cI, 14000, .inl m_o)), (mw, .inl (cI, 61, .inl m_w))] 0 0 113 [(0, .ref m), (2, .int a2), (4, .int v4), (5, .int v5)] [] := by
  intro fn
  induction fn with
  | zero =>
    intro v4 v5 m_fa m_f hf
    rw [p_X10_entryOf_113] at hf
    exact jt_n hf
  | succ fn ih =>
    intro v4 v5 m_fa m_f hf
    rw [p_X10_entryOf_113] at hf
    refine J_iload O (i := 5) (pc := 113) 3 rfl dX10_entryOf_113 ?_
    refine J_aload_n O (i := 0) (k0 := 0) (pc := 115) 0 rfl rfl dX10_entryOf_115 ?_
    refine J_get O (pc := 116) in_X10_entryOf_X10 0 rfl rfl 16 (by decide) mb_X10_entryOf_2 rfl dX10_entryOf_116 ?_
    refine J_icmp_ge O (tgt := 163) (pc := 119) dX10_entryOf_119 (by decide) (fun c119 => ?_) (fun c119 => ?_)
    · have hf := jt_t c119 hf
      refine J_iload O (i := 4) (pc := 163) 2 rfl dX10_entryOf_163 ?_
      refine J_if_ne O (tgt := 178) (pc := 165) dX10_entryOf_165 (by decide) (fun c165 => ?_) (fun c165 => ?_)
      · have hf := jt_f c165 hf
        have e9 := Option.some.inj hf
        subst e9
        exact J_vret O (pc := 178) dX10_entryOf_178
      · have hf := jt_t c165 hf
        refine J_aload_n O (i := 0) (k0 := 0) (pc := 168) 0 rfl rfl dX10_entryOf_168 ?_
        refine J_bipush O (v := 8) (pc := 169) (by decide) dX10_entryOf_169 ?_
        refine J_iload_n O (i := 2) (k0 := 2) (pc := 171) 1 rfl rfl dX10_entryOf_171 ?_
        refine J_bipush O (v := 8) (pc := 172) (by decide) dX10_entryOf_172 ?_
        refine J_iadd O (pc := 174) dX10_entryOf_174 ?_
        obtain ⟨z175, h175, hf⟩ := jt_b hf
        refine J_callVv O (pc := 175) (c_X10_stop l D cB cI cJ m mt md mk ms mu mn mm mo mw m_tl m_dl m_c m_e m_ol m_fa m_f m_p m_is m_t m_d m_k m_s m_u m_n m_m m_o m_w 8 (a2 + 8) h175) rfl 0 rfl rfl gX10_entryOf_X10_stop hdV_X10_stop ⟨(Nat.le_of_ble_eq_true rfl), (Nat.le_of_ble_eq_true rfl)⟩ rfl (st := []) rfl (Nat.le_of_ble_eq_true rfl) [0, 1, 2, 3, 4, 5, 6, 7, 8, 9] [] rfl rfl rfl rfl rfl (by decide) [(m, .inr (6, [.ref mt, .int m_tl, .ref md, .int m_dl, .ref mk, .ref ms, .int m_c, .ref mu, .ref mn, .ref mm, .int m_e, .ref mo, .int m_ol, .int z175.1, .int z175.2, .ref mw, .int m_p, .int m_is])), (mt, .inl (cI, 6000, .inl m_t)), (md, .inl (cI, 12000, .inl m_d)), (mk, .inl (cI, 61, .inl m_k)), (ms, .inl (cI, 61, .inl m_s)), (mu, .inl (cI, 41, .inl m_u)), (mn, .inl (cJ, 41, .inr (.inl m_n))), (mm, .inl (cI, 41, .inl m_m)), (mo, .inl (cI, 14000, .inl m_o)), (mw, .inl (cI, 61, .inl m_w))] [0, 1, 2, 3, 4, 5, 6, 7, 8, 9] rfl rfl rfl (0) (0) (Nat.le_of_ble_eq_true rfl) (Nat.le_of_ble_eq_true rfl) ⟨(Nat.le_of_ble_eq_true rfl), (Nat.le_of_ble_eq_true rfl)⟩ dX10_entryOf_175 ?_
        have e9 := Option.some.inj hf
        subst e9
        exact J_vret O (pc := 178) dX10_entryOf_178
    · have hf := jt_f c119 hf
      refine J_iload O (i := 4) (pc := 122) 2 rfl dX10_entryOf_122 ?_
      refine J_if_ne O (tgt := 150) (pc := 124) dX10_entryOf_124 (by decide) (fun c124 => ?_) (fun c124 => ?_)
      · have hf := jt_f c124 hf
        refine J_iconst O (v := 1) (pc := 150) (by decide) dX10_entryOf_150 ?_
        refine J_goto O (tgt := 155) (pc := 151) dX10_entryOf_151 (by decide) ?_
        refine J_istore O (i := 4) (pc := 155) [(4, .int 1), (0, .ref m), (2, .int a2), (5, .int v5)] (by decide) rfl dX10_entryOf_155 ?_
        refine J_iinc O (i := 5) (n := 1) (v := v5 + 1) (pc := 157) 3 rfl [(5, .int (v5 + 1)), (4, .int 1), (0, .ref m), (2, .int a2)] (by decide) (congrArg (_ + ·) (by decide)) rfl dX10_entryOf_157 ?_
        refine J_goto O (tgt := 113) (pc := 160) dX10_entryOf_160 (by decide) ?_
        refine J_sub [2, 3, 1, 0] (lv' := [(0, .ref m), (2, .int a2), (4, .int 1), (5, .int (v5 + 1))]) rfl ?_
        exact ih 1 (v5 + 1) m_fa m_f hf
      · have hf := jt_t c124 hf
        refine J_aload_n O (i := 0) (k0 := 0) (pc := 127) 0 rfl rfl dX10_entryOf_127 ?_
        refine J_get O (pc := 128) in_X10_entryOf_X10 0 rfl rfl 0 (by decide) mb_X10_entryOf_1 rfl dX10_entryOf_128 ?_
        refine J_iload_n O (i := 2) (k0 := 2) (pc := 131) 1 rfl rfl dX10_entryOf_131 ?_
        refine J_bipush O (v := 8) (pc := 132) (by decide) dX10_entryOf_132 ?_
        refine J_iadd O (pc := 134) dX10_entryOf_134 ?_
        obtain ⟨z135, h135, hf⟩ := jt_b hf
        refine J_callSl O (pc := 135) (c_X10_four l D cB cI cJ mt 6000 m_t (a2 + 8) h135) rfl gX10_entryOf_X10_four hdS_X10_four ⟨(Nat.le_of_ble_eq_true rfl), (Nat.le_of_ble_eq_true rfl)⟩ rfl (st := []) rfl (Nat.le_of_ble_eq_true rfl) [1] [0, 2, 3, 4, 5, 6, 7, 8, 9] rfl rfl rfl rfl rfl (by decide) [(m, .inr (6, [.ref mt, .int m_tl, .ref md, .int m_dl, .ref mk, .ref ms, .int m_c, .ref mu, .ref mn, .ref mm, .int m_e, .ref mo, .int m_ol, .int m_fa, .int m_f, .ref mw, .int m_p, .int m_is])), (mt, .inl (cI, 6000, .inl m_t)), (md, .inl (cI, 12000, .inl m_d)), (mk, .inl (cI, 61, .inl m_k)), (ms, .inl (cI, 61, .inl m_s)), (mu, .inl (cI, 41, .inl m_u)), (mn, .inl (cJ, 41, .inr (.inl m_n))), (mm, .inl (cI, 41, .inl m_m)), (mo, .inl (cI, 14000, .inl m_o)), (mw, .inl (cI, 61, .inl m_w))] [0, 9, 1, 2, 3, 4, 5, 6, 7, 8] rfl rfl rfl (0) (0) (Nat.le_of_ble_eq_true rfl) (Nat.le_of_ble_eq_true rfl) ⟨(Nat.le_of_ble_eq_true rfl), (Nat.le_of_ble_eq_true rfl)⟩ dX10_entryOf_135 ?_
        refine J_aload_n O (i := 0) (k0 := 0) (pc := 138) 0 rfl rfl dX10_entryOf_138 ?_
        refine J_get O (pc := 139) in_X10_entryOf_X10 0 rfl rfl 15 (by decide) mb_X10_entryOf_3 rfl dX10_entryOf_139 ?_
        refine J_iload O (i := 5) (pc := 142) 3 rfl dX10_entryOf_142 ?_
        obtain ⟨h144, hf⟩ := jt_g hf
        refine J_iald O (pc := 144) 9 1 rfl rfl h144 dX10_entryOf_144 ?_
        refine J_i2l O (pc := 145) dX10_entryOf_145 ?_
        refine J_lif_ne O (tgt := 154) (pc := 146) dX10_entryOf_146 dX10_entryOf_147 (by decide) (fun c146 => ?_) (fun c146 => ?_)
        · have hf := jt_f c146 hf
          refine J_iconst O (v := 0) (pc := 154) (by decide) dX10_entryOf_154 ?_
          refine J_istore O (i := 4) (pc := 155) [(4, .int 0), (0, .ref m), (2, .int a2), (5, .int v5)] (by decide) rfl dX10_entryOf_155 ?_
          refine J_iinc O (i := 5) (n := 1) (v := v5 + 1) (pc := 157) 3 rfl [(5, .int (v5 + 1)), (4, .int 0), (0, .ref m), (2, .int a2)] (by decide) (congrArg (_ + ·) (by decide)) rfl dX10_entryOf_157 ?_
          refine J_goto O (tgt := 113) (pc := 160) dX10_entryOf_160 (by decide) ?_
          refine J_sub [2, 3, 1, 0] (lv' := [(0, .ref m), (2, .int a2), (4, .int 0), (5, .int (v5 + 1))]) rfl ?_
          exact ih 0 (v5 + 1) m_fa m_f hf
        · have hf := jt_t c146 hf
          refine J_iconst O (v := 1) (pc := 150) (by decide) dX10_entryOf_150 ?_
          refine J_goto O (tgt := 155) (pc := 151) dX10_entryOf_151 (by decide) ?_
          refine J_istore O (i := 4) (pc := 155) [(4, .int 1), (0, .ref m), (2, .int a2), (5, .int v5)] (by decide) rfl dX10_entryOf_155 ?_
          refine J_iinc O (i := 5) (n := 1) (v := v5 + 1) (pc := 157) 3 rfl [(5, .int (v5 + 1)), (4, .int 1), (0, .ref m), (2, .int a2)] (by decide) (congrArg (_ + ·) (by decide)) rfl dX10_entryOf_157 ?_
          refine J_goto O (tgt := 113) (pc := 160) dX10_entryOf_160 (by decide) ?_
          refine J_sub [2, 3, 1, 0] (lv' := [(0, .ref m), (2, .int a2), (4, .int 1), (5, .int (v5 + 1))]) rfl ?_
          exact ih 1 (v5 + 1) m_fa m_f hf
set_option maxHeartbeats 4000000 in
set_option maxRecDepth 100000 in
theorem wk_X10_entryOf_40 {X : JC} {l : Launch} {D : va_G} {cB cI cJ : ClassId} (O : Jo X (l, D, cB, cI, cJ) cX10_entryOf 6 RX10 wsX10_entryOf rmX10_entryOf none) (m mt md mk ms mu mn mm mo mw : Nat) (m_tl : Int32) (m_dl : Int32) (m_c : Int32) (m_e : Int32) (m_ol : Int32) (m_p : Int32) (m_is : Int32) (m_t : Nat → Int32) (m_d : Nat → Int32) (m_k : Nat → Int32) (m_s : Nat → Int32) (m_u : Nat → Int32) (m_n : Nat → Int64) (m_m : Nat → Int32) (m_o : Nat → Int32) (m_w : Nat → Int32) (a1 : Int32) (a2 : Int32) (fu : Nat) {z : Int32 × Int32} : ∀ (fn : Nat) (v3 : Int32) (v4 : Int32) (m_fa : Int32) (m_f : Int32), p_X10_entryOf_40 fu m_p m_t m_w a1 a2 fn v3 v4 m_fa m_f = some z → J X 6 (JQv X [(m, .inr (6, [.ref mt, .int m_tl, .ref md, .int m_dl, .ref mk, .ref ms, .int m_c, .ref mu, .ref mn, .ref mm, .int m_e, .ref mo, .int m_ol, .int z.1, .int z.2, .ref mw, .int m_p, .int m_is])), (mt, .inl (cI, 6000, .inl m_t)), (md, .inl (cI, 12000, .inl m_d)), (mk, .inl (cI, 61, .inl m_k)), (ms, .inl (cI, 61, .inl m_s)), (mu, .inl (cI, 41, .inl m_u)), (mn, .inl (cJ, 41, .inr (.inl m_n))), (mm, .inl (cI, 41, .inl m_m)), (mo, .inl (cI, 14000, .inl m_o)), (mw, .inl (cI, 61, .inl m_w))] 0 0) [(m, .inr (6, [.ref mt, .int m_tl, .ref md, .int m_dl, .ref mk, .ref ms, .int m_c, .ref mu, .ref mn, .ref mm, .int m_e, .ref mo, .int m_ol, .int m_fa, .int m_f, .ref mw, .int m_p, .int m_is])), (mt, .inl (cI, 6000, .inl m_t)), (md, .inl (cI, 12000, .inl m_d)), (mk, .inl (cI, 61, .inl m_k)), (ms, .inl (cI, 61, .inl m_s)), (mu, .inl (cI, 41, .inl m_u)), (mn, .inl (cJ, 41, .inr (.inl m_n))), (mm, .inl (cI, 41, .inl m_m)), (mo, .inl (cI, 14000, .inl m_o)), (mw, .inl (cI, 61, .inl m_w))] 0 0 40 [(0, .ref m), (1, .int a1), (2, .int a2), (3, .int v3), (4, .int v4)] [] := by
  intro fn
  induction fn with
  | zero =>
    intro v3 v4 m_fa m_f hf
    rw [p_X10_entryOf_40] at hf
    exact jt_n hf
  | succ fn ih =>
    intro v3 v4 m_fa m_f hf
    rw [p_X10_entryOf_40] at hf
    refine J_iload O (i := 4) (pc := 40) 4 rfl dX10_entryOf_40 ?_
    refine J_iload_n O (i := 1) (k0 := 1) (pc := 42) 1 rfl rfl dX10_entryOf_42 ?_
    refine J_icmp_ge O (tgt := 107) (pc := 43) dX10_entryOf_43 (by decide) (fun c43 => ?_) (fun c43 => ?_)
    · have hf := jt_t c43 hf
      refine J_iconst O (v := 0) (pc := 107) (by decide) dX10_entryOf_107 ?_
      refine J_istore O (i := 4) (pc := 108) [(4, .int 0), (0, .ref m), (1, .int a1), (2, .int a2), (3, .int v3)] (by decide) rfl dX10_entryOf_108 ?_
      refine J_iconst O (v := 0) (pc := 110) (by decide) dX10_entryOf_110 ?_
      refine J_istore O (i := 5) (pc := 111) [(5, .int 0), (4, .int 0), (0, .ref m), (1, .int a1), (2, .int a2), (3, .int v3)] (by decide) rfl dX10_entryOf_111 ?_
      refine J_sub [2, 4, 1, 0] (lv' := [(0, .ref m), (2, .int a2), (4, .int 0), (5, .int 0)]) rfl ?_
      exact wk_X10_entryOf_113 O m mt md mk ms mu mn mm mo mw m_tl m_dl m_c m_e m_ol m_p m_is m_t m_d m_k m_s m_u m_n m_m m_o m_w a1 a2 fu fu 0 0 m_fa m_f hf
    · have hf := jt_f c43 hf
      refine J_aload_n O (i := 0) (k0 := 0) (pc := 46) 0 rfl rfl dX10_entryOf_46 ?_
      refine J_get O (pc := 47) in_X10_entryOf_X10 0 rfl rfl 0 (by decide) mb_X10_entryOf_1 rfl dX10_entryOf_47 ?_
      refine J_bipush O (v := 24) (pc := 50) (by decide) dX10_entryOf_50 ?_
      refine J_bipush O (v := 12) (pc := 52) (by decide) dX10_entryOf_52 ?_
      refine J_iload O (i := 4) (pc := 54) 4 rfl dX10_entryOf_54 ?_
      refine J_imul O (pc := 56) dX10_entryOf_56 ?_
      refine J_iadd O (pc := 57) dX10_entryOf_57 ?_
      obtain ⟨z58, h58, hf⟩ := jt_b hf
      refine J_callSi O (pc := 58) (c_X10_kindIn l D cB cI cJ mt 6000 m_t (24 + (12 * v4)) h58) rfl gX10_entryOf_X10_kindIn hdS_X10_kindIn ⟨(Nat.le_of_ble_eq_true rfl), (Nat.le_of_ble_eq_true rfl)⟩ rfl (st := []) rfl (Nat.le_of_ble_eq_true rfl) [1] [0, 2, 3, 4, 5, 6, 7, 8, 9] rfl rfl rfl rfl rfl (by decide) [(m, .inr (6, [.ref mt, .int m_tl, .ref md, .int m_dl, .ref mk, .ref ms, .int m_c, .ref mu, .ref mn, .ref mm, .int m_e, .ref mo, .int m_ol, .int m_fa, .int m_f, .ref mw, .int m_p, .int m_is])), (mt, .inl (cI, 6000, .inl m_t)), (md, .inl (cI, 12000, .inl m_d)), (mk, .inl (cI, 61, .inl m_k)), (ms, .inl (cI, 61, .inl m_s)), (mu, .inl (cI, 41, .inl m_u)), (mn, .inl (cJ, 41, .inr (.inl m_n))), (mm, .inl (cI, 41, .inl m_m)), (mo, .inl (cI, 14000, .inl m_o)), (mw, .inl (cI, 61, .inl m_w))] [0, 9, 1, 2, 3, 4, 5, 6, 7, 8] rfl rfl rfl (0) (0) (Nat.le_of_ble_eq_true rfl) (Nat.le_of_ble_eq_true rfl) ⟨(Nat.le_of_ble_eq_true rfl), (Nat.le_of_ble_eq_true rfl)⟩ dX10_entryOf_58 ?_
      refine J_iload_n O (i := 3) (k0 := 3) (pc := 61) 3 rfl rfl dX10_entryOf_61 ?_
      refine J_icmp_ne O (tgt := 101) (pc := 62) dX10_entryOf_62 (by decide) (fun c62 => ?_) (fun c62 => ?_)
      · have hf := jt_f c62 hf
        refine J_iinc O (i := 4) (n := 1) (v := v4 + 1) (pc := 101) 4 rfl [(4, .int (v4 + 1)), (0, .ref m), (1, .int a1), (2, .int a2), (3, .int v3)] (by decide) (congrArg (_ + ·) (by decide)) rfl dX10_entryOf_101 ?_
        refine J_goto O (tgt := 40) (pc := 104) dX10_entryOf_104 (by decide) ?_
        refine J_sub [1, 2, 3, 4, 0] (lv' := [(0, .ref m), (1, .int a1), (2, .int a2), (3, .int v3), (4, .int (v4 + 1))]) rfl ?_
        exact ih v3 (v4 + 1) m_fa m_f hf
      · have hf := jt_t c62 hf
        refine J_aload_n O (i := 0) (k0 := 0) (pc := 65) 0 rfl rfl dX10_entryOf_65 ?_
        refine J_get O (pc := 66) in_X10_entryOf_X10 0 rfl rfl 0 (by decide) mb_X10_entryOf_1 rfl dX10_entryOf_66 ?_
        refine J_bipush O (v := 28) (pc := 69) (by decide) dX10_entryOf_69 ?_
        refine J_bipush O (v := 12) (pc := 71) (by decide) dX10_entryOf_71 ?_
        refine J_iload O (i := 4) (pc := 73) 4 rfl dX10_entryOf_73 ?_
        refine J_imul O (pc := 75) dX10_entryOf_75 ?_
        refine J_iadd O (pc := 76) dX10_entryOf_76 ?_
        obtain ⟨z77, h77, hf⟩ := jt_b hf
        refine J_callSl O (pc := 77) (c_X10_four l D cB cI cJ mt 6000 m_t (28 + (12 * v4)) h77) rfl gX10_entryOf_X10_four hdS_X10_four ⟨(Nat.le_of_ble_eq_true rfl), (Nat.le_of_ble_eq_true rfl)⟩ rfl (st := []) rfl (Nat.le_of_ble_eq_true rfl) [1] [0, 2, 3, 4, 5, 6, 7, 8, 9] rfl rfl rfl rfl rfl (by decide) [(m, .inr (6, [.ref mt, .int m_tl, .ref md, .int m_dl, .ref mk, .ref ms, .int m_c, .ref mu, .ref mn, .ref mm, .int m_e, .ref mo, .int m_ol, .int m_fa, .int m_f, .ref mw, .int m_p, .int m_is])), (mt, .inl (cI, 6000, .inl m_t)), (md, .inl (cI, 12000, .inl m_d)), (mk, .inl (cI, 61, .inl m_k)), (ms, .inl (cI, 61, .inl m_s)), (mu, .inl (cI, 41, .inl m_u)), (mn, .inl (cJ, 41, .inr (.inl m_n))), (mm, .inl (cI, 41, .inl m_m)), (mo, .inl (cI, 14000, .inl m_o)), (mw, .inl (cI, 61, .inl m_w))] [0, 9, 1, 2, 3, 4, 5, 6, 7, 8] rfl rfl rfl (0) (0) (Nat.le_of_ble_eq_true rfl) (Nat.le_of_ble_eq_true rfl) ⟨(Nat.le_of_ble_eq_true rfl), (Nat.le_of_ble_eq_true rfl)⟩ dX10_entryOf_77 ?_
        refine J_aload_n O (i := 0) (k0 := 0) (pc := 80) 0 rfl rfl dX10_entryOf_80 ?_
        refine J_get O (pc := 81) in_X10_entryOf_X10 0 rfl rfl 0 (by decide) mb_X10_entryOf_1 rfl dX10_entryOf_81 ?_
        refine J_iload_n O (i := 2) (k0 := 2) (pc := 84) 2 rfl rfl dX10_entryOf_84 ?_
        refine J_iconst O (v := 4) (pc := 85) (by decide) dX10_entryOf_85 ?_
        refine J_iadd O (pc := 86) dX10_entryOf_86 ?_
        obtain ⟨z87, h87, hf⟩ := jt_b hf
        refine J_callSl O (pc := 87) (c_X10_four l D cB cI cJ mt 6000 m_t (a2 + 4) h87) rfl gX10_entryOf_X10_four hdS_X10_four ⟨(Nat.le_of_ble_eq_true rfl), (Nat.le_of_ble_eq_true rfl)⟩ rfl (st := [.long z77]) rfl (Nat.le_of_ble_eq_true rfl) [1] [0, 2, 3, 4, 5, 6, 7, 8, 9] rfl rfl rfl rfl rfl (by decide) [(m, .inr (6, [.ref mt, .int m_tl, .ref md, .int m_dl, .ref mk, .ref ms, .int m_c, .ref mu, .ref mn, .ref mm, .int m_e, .ref mo, .int m_ol, .int m_fa, .int m_f, .ref mw, .int m_p, .int m_is])), (mt, .inl (cI, 6000, .inl m_t)), (md, .inl (cI, 12000, .inl m_d)), (mk, .inl (cI, 61, .inl m_k)), (ms, .inl (cI, 61, .inl m_s)), (mu, .inl (cI, 41, .inl m_u)), (mn, .inl (cJ, 41, .inr (.inl m_n))), (mm, .inl (cI, 41, .inl m_m)), (mo, .inl (cI, 14000, .inl m_o)), (mw, .inl (cI, 61, .inl m_w))] [0, 9, 1, 2, 3, 4, 5, 6, 7, 8] rfl rfl rfl (0) (0) (Nat.le_of_ble_eq_true rfl) (Nat.le_of_ble_eq_true rfl) ⟨(Nat.le_of_ble_eq_true rfl), (Nat.le_of_ble_eq_true rfl)⟩ dX10_entryOf_87 ?_
        refine J_lif_ne O (tgt := 101) (pc := 90) dX10_entryOf_90 dX10_entryOf_91 (by decide) (fun c90 => ?_) (fun c90 => ?_)
        · have hf := jt_f c90 hf
          refine J_iinc O (i := 4) (n := 1) (v := v4 + 1) (pc := 101) 4 rfl [(4, .int (v4 + 1)), (0, .ref m), (1, .int a1), (2, .int a2), (3, .int v3)] (by decide) (congrArg (_ + ·) (by decide)) rfl dX10_entryOf_101 ?_
          refine J_goto O (tgt := 40) (pc := 104) dX10_entryOf_104 (by decide) ?_
          refine J_sub [1, 2, 3, 4, 0] (lv' := [(0, .ref m), (1, .int a1), (2, .int a2), (3, .int v3), (4, .int (v4 + 1))]) rfl ?_
          exact ih v3 (v4 + 1) m_fa m_f hf
        · have hf := jt_t c90 hf
          refine J_aload_n O (i := 0) (k0 := 0) (pc := 94) 0 rfl rfl dX10_entryOf_94 ?_
          refine J_bipush O (v := 9) (pc := 95) (by decide) dX10_entryOf_95 ?_
          refine J_iload_n O (i := 2) (k0 := 2) (pc := 97) 2 rfl rfl dX10_entryOf_97 ?_
          obtain ⟨z98, h98, hf⟩ := jt_b hf
          refine J_callVv O (pc := 98) (c_X10_stop l D cB cI cJ m mt md mk ms mu mn mm mo mw m_tl m_dl m_c m_e m_ol m_fa m_f m_p m_is m_t m_d m_k m_s m_u m_n m_m m_o m_w 9 a2 h98) rfl 0 rfl rfl gX10_entryOf_X10_stop hdV_X10_stop ⟨(Nat.le_of_ble_eq_true rfl), (Nat.le_of_ble_eq_true rfl)⟩ rfl (st := []) rfl (Nat.le_of_ble_eq_true rfl) [0, 1, 2, 3, 4, 5, 6, 7, 8, 9] [] rfl rfl rfl rfl rfl (by decide) [(m, .inr (6, [.ref mt, .int m_tl, .ref md, .int m_dl, .ref mk, .ref ms, .int m_c, .ref mu, .ref mn, .ref mm, .int m_e, .ref mo, .int m_ol, .int z98.1, .int z98.2, .ref mw, .int m_p, .int m_is])), (mt, .inl (cI, 6000, .inl m_t)), (md, .inl (cI, 12000, .inl m_d)), (mk, .inl (cI, 61, .inl m_k)), (ms, .inl (cI, 61, .inl m_s)), (mu, .inl (cI, 41, .inl m_u)), (mn, .inl (cJ, 41, .inr (.inl m_n))), (mm, .inl (cI, 41, .inl m_m)), (mo, .inl (cI, 14000, .inl m_o)), (mw, .inl (cI, 61, .inl m_w))] [0, 1, 2, 3, 4, 5, 6, 7, 8, 9] rfl rfl rfl (0) (0) (Nat.le_of_ble_eq_true rfl) (Nat.le_of_ble_eq_true rfl) ⟨(Nat.le_of_ble_eq_true rfl), (Nat.le_of_ble_eq_true rfl)⟩ dX10_entryOf_98 ?_
          refine J_iinc O (i := 4) (n := 1) (v := v4 + 1) (pc := 101) 4 rfl [(4, .int (v4 + 1)), (0, .ref m), (1, .int a1), (2, .int a2), (3, .int v3)] (by decide) (congrArg (_ + ·) (by decide)) rfl dX10_entryOf_101 ?_
          refine J_goto O (tgt := 40) (pc := 104) dX10_entryOf_104 (by decide) ?_
          refine J_sub [1, 2, 3, 4, 0] (lv' := [(0, .ref m), (1, .int a1), (2, .int a2), (3, .int v3), (4, .int (v4 + 1))]) rfl ?_
          exact ih v3 (v4 + 1) z98.1 z98.2 hf
set_option maxHeartbeats 4000000 in
set_option maxRecDepth 100000 in
theorem c_X10_entryOf (l : Launch) (D : va_G) (cB cI cJ : ClassId) (m mt md mk ms mu mn mm mo mw : Nat) (m_tl : Int32) (m_dl : Int32) (m_c : Int32) (m_e : Int32) (m_ol : Int32) (m_fa : Int32) (m_f : Int32) (m_p : Int32) (m_is : Int32) (m_t : Nat → Int32) (m_d : Nat → Int32) (m_k : Nat → Int32) (m_s : Nat → Int32) (m_u : Nat → Int32) (m_n : Nat → Int64) (m_m : Nat → Int32) (m_o : Nat → Int32) (m_w : Nat → Int32) (a1 : Int32) (a2 : Int32) (fu : Nat) {z : Int32 × Int32} (hf : p_X10_entryOf fu m_fa m_f m_p m_t m_w a1 a2 = some z) : Cv (l, D, cB, cI, cJ) yX10_entryOf wsX10_entryOf rmX10_entryOf [.ref m, .int a1, .int a2] [(m, .inr (6, [.ref mt, .int m_tl, .ref md, .int m_dl, .ref mk, .ref ms, .int m_c, .ref mu, .ref mn, .ref mm, .int m_e, .ref mo, .int m_ol, .int m_fa, .int m_f, .ref mw, .int m_p, .int m_is])), (mt, .inl (cI, 6000, .inl m_t)), (md, .inl (cI, 12000, .inl m_d)), (mk, .inl (cI, 61, .inl m_k)), (ms, .inl (cI, 61, .inl m_s)), (mu, .inl (cI, 41, .inl m_u)), (mn, .inl (cJ, 41, .inr (.inl m_n))), (mm, .inl (cI, 41, .inl m_m)), (mo, .inl (cI, 14000, .inl m_o)), (mw, .inl (cI, 61, .inl m_w))] [(m, .inr (6, [.ref mt, .int m_tl, .ref md, .int m_dl, .ref mk, .ref ms, .int m_c, .ref mu, .ref mn, .ref mm, .int m_e, .ref mo, .int m_ol, .int z.1, .int z.2, .ref mw, .int m_p, .int m_is])), (mt, .inl (cI, 6000, .inl m_t)), (md, .inl (cI, 12000, .inl m_d)), (mk, .inl (cI, 61, .inl m_k)), (ms, .inl (cI, 61, .inl m_s)), (mu, .inl (cI, 41, .inl m_u)), (mn, .inl (cJ, 41, .inr (.inl m_n))), (mm, .inl (cI, 41, .inl m_m)), (mo, .inl (cI, 14000, .inl m_o)), (mw, .inl (cI, 61, .inl m_w))] := by
  refine Cv_of (cc := cX10_entryOf) (nL := 6) (own := RX10) (ret := none) (by decide) rfl rfl (Nat.le_of_ble_eq_true rfl) (fun X O hnm0 => ?_)
  rw [p_X10_entryOf] at hf
  show J X 6 (JQv X [(m, .inr (6, [.ref mt, .int m_tl, .ref md, .int m_dl, .ref mk, .ref ms, .int m_c, .ref mu, .ref mn, .ref mm, .int m_e, .ref mo, .int m_ol, .int z.1, .int z.2, .ref mw, .int m_p, .int m_is])), (mt, .inl (cI, 6000, .inl m_t)), (md, .inl (cI, 12000, .inl m_d)), (mk, .inl (cI, 61, .inl m_k)), (ms, .inl (cI, 61, .inl m_s)), (mu, .inl (cI, 41, .inl m_u)), (mn, .inl (cJ, 41, .inr (.inl m_n))), (mm, .inl (cI, 41, .inl m_m)), (mo, .inl (cI, 14000, .inl m_o)), (mw, .inl (cI, 61, .inl m_w))] 0 0) [(m, .inr (6, [.ref mt, .int m_tl, .ref md, .int m_dl, .ref mk, .ref ms, .int m_c, .ref mu, .ref mn, .ref mm, .int m_e, .ref mo, .int m_ol, .int m_fa, .int m_f, .ref mw, .int m_p, .int m_is])), (mt, .inl (cI, 6000, .inl m_t)), (md, .inl (cI, 12000, .inl m_d)), (mk, .inl (cI, 61, .inl m_k)), (ms, .inl (cI, 61, .inl m_s)), (mu, .inl (cI, 41, .inl m_u)), (mn, .inl (cJ, 41, .inr (.inl m_n))), (mm, .inl (cI, 41, .inl m_m)), (mo, .inl (cI, 14000, .inl m_o)), (mw, .inl (cI, 61, .inl m_w))] 0 0 0 [(0, .ref m), (1, .int a1), (2, .int a2)] []
  refine J_iload_n O (i := 1) (k0 := 1) (pc := 0) 1 rfl rfl dX10_entryOf_0 ?_
  refine J_bipush O (v := 40) (pc := 1) (by decide) dX10_entryOf_1 ?_
  refine J_icmp_ne O (tgt := 14) (pc := 3) dX10_entryOf_3 (by decide) (fun c3 => ?_) (fun c3 => ?_)
  · have hf := jt_f c3 hf
    refine J_aload_n O (i := 0) (k0 := 0) (pc := 14) 0 rfl rfl dX10_entryOf_14 ?_
    refine J_get O (pc := 15) in_X10_entryOf_X10 0 rfl rfl 0 (by decide) mb_X10_entryOf_1 rfl dX10_entryOf_15 ?_
    refine J_iload_n O (i := 2) (k0 := 2) (pc := 18) 2 rfl rfl dX10_entryOf_18 ?_
    obtain ⟨z19, h19, hf⟩ := jt_b hf
    refine J_callSi O (pc := 19) (c_X10_kindIn l D cB cI cJ mt 6000 m_t a2 h19) rfl gX10_entryOf_X10_kindIn hdS_X10_kindIn ⟨(Nat.le_of_ble_eq_true rfl), (Nat.le_of_ble_eq_true rfl)⟩ rfl (st := []) rfl (Nat.le_of_ble_eq_true rfl) [1] [0, 2, 3, 4, 5, 6, 7, 8, 9] rfl rfl rfl rfl rfl (by decide) [(m, .inr (6, [.ref mt, .int m_tl, .ref md, .int m_dl, .ref mk, .ref ms, .int m_c, .ref mu, .ref mn, .ref mm, .int m_e, .ref mo, .int m_ol, .int m_fa, .int m_f, .ref mw, .int m_p, .int m_is])), (mt, .inl (cI, 6000, .inl m_t)), (md, .inl (cI, 12000, .inl m_d)), (mk, .inl (cI, 61, .inl m_k)), (ms, .inl (cI, 61, .inl m_s)), (mu, .inl (cI, 41, .inl m_u)), (mn, .inl (cJ, 41, .inr (.inl m_n))), (mm, .inl (cI, 41, .inl m_m)), (mo, .inl (cI, 14000, .inl m_o)), (mw, .inl (cI, 61, .inl m_w))] [0, 9, 1, 2, 3, 4, 5, 6, 7, 8] rfl rfl rfl (0) (0) (Nat.le_of_ble_eq_true rfl) (Nat.le_of_ble_eq_true rfl) ⟨(Nat.le_of_ble_eq_true rfl), (Nat.le_of_ble_eq_true rfl)⟩ dX10_entryOf_19 ?_
    refine J_istore_n O (i := 3) (k0 := 3) (pc := 22) rfl [(3, .int z19), (0, .ref m), (1, .int a1), (2, .int a2)] (by decide) rfl dX10_entryOf_22 ?_
    refine J_iload_n O (i := 3) (k0 := 3) (pc := 23) 0 rfl rfl dX10_entryOf_23 ?_
    obtain ⟨z24, h24, hf⟩ := jt_b hf
    refine J_callSi O (pc := 24) (c_X10_isUse l D cB cI cJ z19 h24) rfl gX10_entryOf_X10_isUse hdS_X10_isUse ⟨(Nat.le_of_ble_eq_true rfl), (Nat.le_of_ble_eq_true rfl)⟩ rfl (st := []) rfl (Nat.le_of_ble_eq_true rfl) [] [0, 1, 2, 3, 4, 5, 6, 7, 8, 9] rfl rfl rfl rfl rfl (by decide) [(m, .inr (6, [.ref mt, .int m_tl, .ref md, .int m_dl, .ref mk, .ref ms, .int m_c, .ref mu, .ref mn, .ref mm, .int m_e, .ref mo, .int m_ol, .int m_fa, .int m_f, .ref mw, .int m_p, .int m_is])), (mt, .inl (cI, 6000, .inl m_t)), (md, .inl (cI, 12000, .inl m_d)), (mk, .inl (cI, 61, .inl m_k)), (ms, .inl (cI, 61, .inl m_s)), (mu, .inl (cI, 41, .inl m_u)), (mn, .inl (cJ, 41, .inr (.inl m_n))), (mm, .inl (cI, 41, .inl m_m)), (mo, .inl (cI, 14000, .inl m_o)), (mw, .inl (cI, 61, .inl m_w))] [0, 1, 2, 3, 4, 5, 6, 7, 8, 9] rfl rfl rfl (0) (0) (Nat.le_of_ble_eq_true rfl) (Nat.le_of_ble_eq_true rfl) ⟨(Nat.le_of_ble_eq_true rfl), (Nat.le_of_ble_eq_true rfl)⟩ dX10_entryOf_24 ?_
    refine J_zne O (tgt := 37) (pc := 27) dX10_entryOf_27 (by decide) (fun c27 => ?_) (fun c27 => ?_)
    · have hf := jt_t c27 hf
      refine J_iconst O (v := 0) (pc := 37) (by decide) dX10_entryOf_37 ?_
      refine J_istore O (i := 4) (pc := 38) [(4, .int 0), (3, .int z19), (0, .ref m), (1, .int a1), (2, .int a2)] (by decide) rfl dX10_entryOf_38 ?_
      refine J_sub [2, 3, 4, 1, 0] (lv' := [(0, .ref m), (1, .int a1), (2, .int a2), (3, .int z19), (4, .int 0)]) rfl ?_
      exact wk_X10_entryOf_40 O m mt md mk ms mu mn mm mo mw m_tl m_dl m_c m_e m_ol m_p m_is m_t m_d m_k m_s m_u m_n m_m m_o m_w a1 a2 fu fu z19 0 m_fa m_f hf
    · have hf := jt_f c27 hf
      refine J_aload_n O (i := 0) (k0 := 0) (pc := 30) 1 rfl rfl dX10_entryOf_30 ?_
      refine J_bipush O (v := 7) (pc := 31) (by decide) dX10_entryOf_31 ?_
      refine J_iload_n O (i := 2) (k0 := 2) (pc := 33) 3 rfl rfl dX10_entryOf_33 ?_
      obtain ⟨z34, h34, hf⟩ := jt_b hf
      refine J_callVv O (pc := 34) (c_X10_stop l D cB cI cJ m mt md mk ms mu mn mm mo mw m_tl m_dl m_c m_e m_ol m_fa m_f m_p m_is m_t m_d m_k m_s m_u m_n m_m m_o m_w 7 a2 h34) rfl 0 rfl rfl gX10_entryOf_X10_stop hdV_X10_stop ⟨(Nat.le_of_ble_eq_true rfl), (Nat.le_of_ble_eq_true rfl)⟩ rfl (st := []) rfl (Nat.le_of_ble_eq_true rfl) [0, 1, 2, 3, 4, 5, 6, 7, 8, 9] [] rfl rfl rfl rfl rfl (by decide) [(m, .inr (6, [.ref mt, .int m_tl, .ref md, .int m_dl, .ref mk, .ref ms, .int m_c, .ref mu, .ref mn, .ref mm, .int m_e, .ref mo, .int m_ol, .int z34.1, .int z34.2, .ref mw, .int m_p, .int m_is])), (mt, .inl (cI, 6000, .inl m_t)), (md, .inl (cI, 12000, .inl m_d)), (mk, .inl (cI, 61, .inl m_k)), (ms, .inl (cI, 61, .inl m_s)), (mu, .inl (cI, 41, .inl m_u)), (mn, .inl (cJ, 41, .inr (.inl m_n))), (mm, .inl (cI, 41, .inl m_m)), (mo, .inl (cI, 14000, .inl m_o)), (mw, .inl (cI, 61, .inl m_w))] [0, 1, 2, 3, 4, 5, 6, 7, 8, 9] rfl rfl rfl (0) (0) (Nat.le_of_ble_eq_true rfl) (Nat.le_of_ble_eq_true rfl) ⟨(Nat.le_of_ble_eq_true rfl), (Nat.le_of_ble_eq_true rfl)⟩ dX10_entryOf_34 ?_
      refine J_iconst O (v := 0) (pc := 37) (by decide) dX10_entryOf_37 ?_
      refine J_istore O (i := 4) (pc := 38) [(4, .int 0), (3, .int z19), (0, .ref m), (1, .int a1), (2, .int a2)] (by decide) rfl dX10_entryOf_38 ?_
      refine J_sub [2, 3, 4, 1, 0] (lv' := [(0, .ref m), (1, .int a1), (2, .int a2), (3, .int z19), (4, .int 0)]) rfl ?_
      exact wk_X10_entryOf_40 O m mt md mk ms mu mn mm mo mw m_tl m_dl m_c m_e m_ol m_p m_is m_t m_d m_k m_s m_u m_n m_m m_o m_w a1 a2 fu fu z19 0 z34.1 z34.2 hf
  · have hf := jt_t c3 hf
    refine J_aload_n O (i := 0) (k0 := 0) (pc := 6) 0 rfl rfl dX10_entryOf_6 ?_
    refine J_bipush O (v := 10) (pc := 7) (by decide) dX10_entryOf_7 ?_
    refine J_iload_n O (i := 2) (k0 := 2) (pc := 9) 2 rfl rfl dX10_entryOf_9 ?_
    obtain ⟨z10, h10, hf⟩ := jt_b hf
    refine J_callVv O (pc := 10) (c_X10_stop l D cB cI cJ m mt md mk ms mu mn mm mo mw m_tl m_dl m_c m_e m_ol m_fa m_f m_p m_is m_t m_d m_k m_s m_u m_n m_m m_o m_w 10 a2 h10) rfl 0 rfl rfl gX10_entryOf_X10_stop hdV_X10_stop ⟨(Nat.le_of_ble_eq_true rfl), (Nat.le_of_ble_eq_true rfl)⟩ rfl (st := []) rfl (Nat.le_of_ble_eq_true rfl) [0, 1, 2, 3, 4, 5, 6, 7, 8, 9] [] rfl rfl rfl rfl rfl (by decide) [(m, .inr (6, [.ref mt, .int m_tl, .ref md, .int m_dl, .ref mk, .ref ms, .int m_c, .ref mu, .ref mn, .ref mm, .int m_e, .ref mo, .int m_ol, .int z10.1, .int z10.2, .ref mw, .int m_p, .int m_is])), (mt, .inl (cI, 6000, .inl m_t)), (md, .inl (cI, 12000, .inl m_d)), (mk, .inl (cI, 61, .inl m_k)), (ms, .inl (cI, 61, .inl m_s)), (mu, .inl (cI, 41, .inl m_u)), (mn, .inl (cJ, 41, .inr (.inl m_n))), (mm, .inl (cI, 41, .inl m_m)), (mo, .inl (cI, 14000, .inl m_o)), (mw, .inl (cI, 61, .inl m_w))] [0, 1, 2, 3, 4, 5, 6, 7, 8, 9] rfl rfl rfl (0) (0) (Nat.le_of_ble_eq_true rfl) (Nat.le_of_ble_eq_true rfl) ⟨(Nat.le_of_ble_eq_true rfl), (Nat.le_of_ble_eq_true rfl)⟩ dX10_entryOf_10 ?_
    have e9 := Option.some.inj hf
    subst e9
    exact J_vret O (pc := 13) dX10_entryOf_13
