theorem in_X10_goOver_X10 : ∀ w ∈ u_ws RX10 TX10 18, w ∈ wsX10_goOver := fun _ h => List.mem_cons_of_mem _ (List.mem_append_right _ h)
theorem mb_X10_goOver_1 : Cond.fieldLink RX10 58 (TX10 1).1 (TX10 1).2.1 (TX10 1).2.2.1 ∈ wsX10_goOver := by decide +kernel
theorem mb_X10_goOver_2 : Cond.fieldLink RX10 7 (TX10 0).1 (TX10 0).2.1 (TX10 0).2.2.1 ∈ wsX10_goOver := by decide +kernel
theorem mb_X10_goOver_3 : Cond.constant RX10 74 1179603533 ∈ wsX10_goOver := by decide +kernel
theorem mb_X10_goOver_4 : Cond.constant RX10 79 1229345363 ∈ wsX10_goOver := by decide +kernel
theorem mb_X10_goOver_5 : Cond.fieldLink RX10 80 (TX10 16).1 (TX10 16).2.1 (TX10 16).2.2.1 ∈ wsX10_goOver := by decide +kernel
theorem mb_X10_goOver_6 : Cond.fieldLink RX10 67 (TX10 14).1 (TX10 14).2.1 (TX10 14).2.2.1 ∈ wsX10_goOver := by decide +kernel
theorem hdV_X10_entryOf : yX10_entryOf.cls = RX10 ∧ yX10_entryOf.cls ≠ "java/lang/invoke/MethodHandle" ∧ yX10_entryOf.cls ≠ "java/lang/invoke/VarHandle" ∧ (parseMethodDescriptor yX10_entryOf.desc).map (fun d => d.parameters.length) = some 2 := by decide +kernel
theorem mb_X10_goOver_7 : Cond.fieldLink RX10 87 (TX10 17).1 (TX10 17).2.1 (TX10 17).2.2.1 ∈ wsX10_goOver := by decide +kernel
theorem mb_X10_goOver_8 : Cond.constantLong RX10 90 4 ∈ wsX10_goOver := by decide +kernel
theorem mb_X10_goOver_9 : Cond.constantLong RX10 92 12 ∈ wsX10_goOver := by decide +kernel
theorem hdV_X10_piece : yX10_piece.cls = RX10 ∧ yX10_piece.cls ≠ "java/lang/invoke/MethodHandle" ∧ yX10_piece.cls ≠ "java/lang/invoke/VarHandle" ∧ (parseMethodDescriptor yX10_piece.desc).map (fun d => d.parameters.length) = some 1 := by decide +kernel
abbrev rmX10_goOver : Room := { frames := 3, cells := 0, slots := 0, locals := 71 }
set_option maxHeartbeats 4000000 in
set_option maxRecDepth 100000 in
theorem wk_X10_goOver_208 {X : JC} {l : Launch} {D : va_G} {cB cI cJ : ClassId} (O : Jo X (l, D, cB, cI, cJ) cX10_goOver 4 RX10 wsX10_goOver rmX10_goOver none) (m mt md mk ms mu mn mm mo mw : Nat) (m_tl : Int32) (m_dl : Int32) (m_c : Int32) (m_e : Int32) (m_ol : Int32) (m_t : Nat → Int32) (m_d : Nat → Int32) (m_k : Nat → Int32) (m_s : Nat → Int32) (m_u : Nat → Int32) (m_n : Nat → Int64) (m_m : Nat → Int32) (m_o : Nat → Int32) (fu : Nat) {z : Int32 × Int32 × Int32 × Int32 × (Nat → Int32)} : ∀ (fn : Nat) (v2 : Int32) (v3 : Int32) (m_fa : Int32) (m_f : Int32) (m_p : Int32) (m_is : Int32) (m_w : Nat → Int32), p_X10_goOver_208 fu m_tl m_t fn v2 v3 m_fa m_f m_p m_is m_w = some z → J X 4 (JQv X [(m, .inr (6, [.ref mt, .int m_tl, .ref md, .int m_dl, .ref mk, .ref ms, .int m_c, .ref mu, .ref mn, .ref mm, .int m_e, .ref mo, .int m_ol, .int z.1, .int z.2.1, .ref mw, .int z.2.2.1, .int z.2.2.2.1])), (mt, .inl (cI, 6000, .inl m_t)), (md, .inl (cI, 12000, .inl m_d)), (mk, .inl (cI, 61, .inl m_k)), (ms, .inl (cI, 61, .inl m_s)), (mu, .inl (cI, 41, .inl m_u)), (mn, .inl (cJ, 41, .inr (.inl m_n))), (mm, .inl (cI, 41, .inl m_m)), (mo, .inl (cI, 14000, .inl m_o)), (mw, .inl (cI, 61, .inl z.2.2.2.2))] 0 0) [(m, .inr (6, [.ref mt, .int m_tl, .ref md, .int m_dl, .ref mk, .ref ms, .int m_c, .ref mu, .ref mn, .ref mm, .int m_e, .ref mo, .int m_ol, .int m_fa, .int m_f, .ref mw, .int m_p, .int m_is])), (mt, .inl (cI, 6000, .inl m_t)), (md, .inl (cI, 12000, .inl m_d)), (mk, .inl (cI, 61, .inl m_k)), (ms, .inl (cI, 61, .inl m_s)), (mu, .inl (cI, 41, .inl m_u)), (mn, .inl (cJ, 41, .inr (.inl m_n))), (mm, .inl (cI, 41, .inl m_m)), (mo, .inl (cI, 14000, .inl m_o)), (mw, .inl (cI, 61, .inl m_w))] 0 0 208 [(0, .ref m), (2, .int v2), (3, .int v3)] [] := by
  intro fn
  induction fn with
  | zero =>
    intro v2 v3 m_fa m_f m_p m_is m_w hf
    rw [p_X10_goOver_208] at hf
    exact jt_n hf
  | succ fn ih =>
    intro v2 v3 m_fa m_f m_p m_is m_w hf
    rw [p_X10_goOver_208] at hf
    refine J_iload_n O (i := 3) (k0 := 3) (pc := 208) 2 rfl rfl dX10_goOver_208 ?_
    refine J_iload_n O (i := 2) (k0 := 2) (pc := 209) 1 rfl rfl dX10_goOver_209 ?_
    refine J_icmp_ge O (tgt := 238) (pc := 210) dX10_goOver_210 (by decide) (fun c210 => ?_) (fun c210 => ?_)
    · have hf := jt_t c210 hf
      have e9 := Option.some.inj hf
      subst e9
      exact J_vret O (pc := 238) dX10_goOver_238
    · have hf := jt_f c210 hf
      refine J_aload_n O (i := 0) (k0 := 0) (pc := 213) 0 rfl rfl dX10_goOver_213 ?_
      refine J_get O (pc := 214) in_X10_goOver_X10 0 rfl rfl 14 (by decide) mb_X10_goOver_6 rfl dX10_goOver_214 ?_
      refine J_if_ne O (tgt := 238) (pc := 217) dX10_goOver_217 (by decide) (fun c217 => ?_) (fun c217 => ?_)
      · have hf := jt_f c217 hf
        have e9 := Option.some.inj hf
        subst e9
        exact J_vret O (pc := 238) dX10_goOver_238
      · have hf := jt_t c217 hf
        refine J_aload_n O (i := 0) (k0 := 0) (pc := 220) 0 rfl rfl dX10_goOver_220 ?_
        refine J_iload_n O (i := 3) (k0 := 3) (pc := 221) 2 rfl rfl dX10_goOver_221 ?_
        refine J_bipush O (v := 24) (pc := 222) (by decide) dX10_goOver_222 ?_
        refine J_bipush O (v := 12) (pc := 224) (by decide) dX10_goOver_224 ?_
        refine J_iload_n O (i := 3) (k0 := 3) (pc := 226) 2 rfl rfl dX10_goOver_226 ?_
        refine J_imul O (pc := 227) dX10_goOver_227 ?_
        refine J_iadd O (pc := 228) dX10_goOver_228 ?_
        obtain ⟨z229, h229, hf⟩ := jt_b hf
        refine J_callVv O (pc := 229) (c_X10_entryOf l D cB cI cJ m mt md mk ms mu mn mm mo mw m_tl m_dl m_c m_e m_ol m_fa m_f m_p m_is m_t m_d m_k m_s m_u m_n m_m m_o m_w v3 (24 + (12 * v3)) fu h229) rfl 0 rfl rfl gX10_goOver_X10_entryOf hdV_X10_entryOf ⟨(Nat.le_of_ble_eq_true rfl), (Nat.le_of_ble_eq_true rfl)⟩ rfl (st := []) rfl (Nat.le_of_ble_eq_true rfl) [0, 1, 2, 3, 4, 5, 6, 7, 8, 9] [] rfl rfl rfl rfl rfl (by decide) [(m, .inr (6, [.ref mt, .int m_tl, .ref md, .int m_dl, .ref mk, .ref ms, .int m_c, .ref mu, .ref mn, .ref mm, .int m_e, .ref mo, .int m_ol, .int z229.1, .int z229.2, .ref mw, .int m_p, .int m_is])), (mt, .inl (cI, 6000, .inl m_t)), (md, .inl (cI, 12000, .inl m_d)), (mk, .inl (cI, 61, .inl m_k)), (ms, .inl (cI, 61, .inl m_s)), (mu, .inl (cI, 41, .inl m_u)), (mn, .inl (cJ, 41, .inr (.inl m_n))), (mm, .inl (cI, 41, .inl m_m)), (mo, .inl (cI, 14000, .inl m_o)), (mw, .inl (cI, 61, .inl m_w))] [0, 1, 2, 3, 4, 5, 6, 7, 8, 9] rfl rfl rfl (0) (0) (Nat.le_of_ble_eq_true rfl) (Nat.le_of_ble_eq_true rfl) ⟨(Nat.le_of_ble_eq_true rfl), (Nat.le_of_ble_eq_true rfl)⟩ dX10_goOver_229 ?_
        refine J_iinc O (i := 3) (n := 1) (v := v3 + 1) (pc := 232) 2 rfl [(3, .int (v3 + 1)), (0, .ref m), (2, .int v2)] (by decide) (congrArg (_ + ·) (by decide)) rfl dX10_goOver_232 ?_
        refine J_goto O (tgt := 208) (pc := 235) dX10_goOver_235 (by decide) ?_
        refine J_sub [1, 2, 0] (lv' := [(0, .ref m), (2, .int v2), (3, .int (v3 + 1))]) rfl ?_
        exact ih v2 (v3 + 1) z229.1 z229.2 m_p m_is m_w hf
set_option maxHeartbeats 4000000 in
set_option maxRecDepth 100000 in
theorem wk_X10_goOver_185 {X : JC} {l : Launch} {D : va_G} {cB cI cJ : ClassId} (O : Jo X (l, D, cB, cI, cJ) cX10_goOver 4 RX10 wsX10_goOver rmX10_goOver none) (m mt md mk ms mu mn mm mo mw : Nat) (m_tl : Int32) (m_dl : Int32) (m_c : Int32) (m_e : Int32) (m_ol : Int32) (m_t : Nat → Int32) (m_d : Nat → Int32) (m_k : Nat → Int32) (m_s : Nat → Int32) (m_u : Nat → Int32) (m_n : Nat → Int64) (m_m : Nat → Int32) (m_o : Nat → Int32) (fu : Nat) {z : Int32 × Int32 × Int32 × Int32 × (Nat → Int32)} (m_fa : Int32) (m_f : Int32) (m_p : Int32) (m_is : Int32) (m_w : Nat → Int32) (hf : p_X10_goOver_185 fu m_tl m_t m_fa m_f m_p m_is m_w = some z) : J X 4 (JQv X [(m, .inr (6, [.ref mt, .int m_tl, .ref md, .int m_dl, .ref mk, .ref ms, .int m_c, .ref mu, .ref mn, .ref mm, .int m_e, .ref mo, .int m_ol, .int z.1, .int z.2.1, .ref mw, .int z.2.2.1, .int z.2.2.2.1])), (mt, .inl (cI, 6000, .inl m_t)), (md, .inl (cI, 12000, .inl m_d)), (mk, .inl (cI, 61, .inl m_k)), (ms, .inl (cI, 61, .inl m_s)), (mu, .inl (cI, 41, .inl m_u)), (mn, .inl (cJ, 41, .inr (.inl m_n))), (mm, .inl (cI, 41, .inl m_m)), (mo, .inl (cI, 14000, .inl m_o)), (mw, .inl (cI, 61, .inl z.2.2.2.2))] 0 0) [(m, .inr (6, [.ref mt, .int m_tl, .ref md, .int m_dl, .ref mk, .ref ms, .int m_c, .ref mu, .ref mn, .ref mm, .int m_e, .ref mo, .int m_ol, .int m_fa, .int m_f, .ref mw, .int m_p, .int m_is])), (mt, .inl (cI, 6000, .inl m_t)), (md, .inl (cI, 12000, .inl m_d)), (mk, .inl (cI, 61, .inl m_k)), (ms, .inl (cI, 61, .inl m_s)), (mu, .inl (cI, 41, .inl m_u)), (mn, .inl (cJ, 41, .inr (.inl m_n))), (mm, .inl (cI, 41, .inl m_m)), (mo, .inl (cI, 14000, .inl m_o)), (mw, .inl (cI, 61, .inl m_w))] 0 0 185 [(0, .ref m)] [] := by
  rw [p_X10_goOver_185] at hf
  refine J_aload_n O (i := 0) (k0 := 0) (pc := 185) 0 rfl rfl dX10_goOver_185 ?_
  refine J_get O (pc := 186) in_X10_goOver_X10 0 rfl rfl 14 (by decide) mb_X10_goOver_6 rfl dX10_goOver_186 ?_
  refine J_if_ne O (tgt := 204) (pc := 189) dX10_goOver_189 (by decide) (fun c189 => ?_) (fun c189 => ?_)
  · have hf := jt_f c189 hf
    refine J_iconst O (v := 0) (pc := 204) (by decide) dX10_goOver_204 ?_
    refine J_istore_n O (i := 2) (k0 := 2) (pc := 205) rfl [(2, .int 0), (0, .ref m)] (by decide) rfl dX10_goOver_205 ?_
    refine J_iconst O (v := 0) (pc := 206) (by decide) dX10_goOver_206 ?_
    refine J_istore_n O (i := 3) (k0 := 3) (pc := 207) rfl [(3, .int 0), (2, .int 0), (0, .ref m)] (by decide) rfl dX10_goOver_207 ?_
    refine J_sub [2, 1, 0] (lv' := [(0, .ref m), (2, .int 0), (3, .int 0)]) rfl ?_
    exact wk_X10_goOver_208 O m mt md mk ms mu mn mm mo mw m_tl m_dl m_c m_e m_ol m_t m_d m_k m_s m_u m_n m_m m_o fu fu 0 0 m_fa m_f m_p m_is m_w hf
  · have hf := jt_t c189 hf
    refine J_aload_n O (i := 0) (k0 := 0) (pc := 192) 0 rfl rfl dX10_goOver_192 ?_
    refine J_get O (pc := 193) in_X10_goOver_X10 0 rfl rfl 17 (by decide) mb_X10_goOver_7 rfl dX10_goOver_193 ?_
    refine J_iconst O (v := 4) (pc := 196) (by decide) dX10_goOver_196 ?_
    refine J_isub O (pc := 197) dX10_goOver_197 ?_
    refine J_bipush O (v := 12) (pc := 198) (by decide) dX10_goOver_198 ?_
    refine J_idiv O (pc := 200) (by decide) dX10_goOver_200 ?_
    refine J_goto O (tgt := 205) (pc := 201) dX10_goOver_201 (by decide) ?_
    refine J_istore_n O (i := 2) (k0 := 2) (pc := 205) rfl [(2, .int ((m_is - 4) / 12)), (0, .ref m)] (by decide) rfl dX10_goOver_205 ?_
    refine J_iconst O (v := 0) (pc := 206) (by decide) dX10_goOver_206 ?_
    refine J_istore_n O (i := 3) (k0 := 3) (pc := 207) rfl [(3, .int 0), (2, .int ((m_is - 4) / 12)), (0, .ref m)] (by decide) rfl dX10_goOver_207 ?_
    refine J_sub [2, 1, 0] (lv' := [(0, .ref m), (2, .int ((m_is - 4) / 12)), (3, .int 0)]) rfl ?_
    exact wk_X10_goOver_208 O m mt md mk ms mu mn mm mo mw m_tl m_dl m_c m_e m_ol m_t m_d m_k m_s m_u m_n m_m m_o fu fu ((m_is - 4) / 12) 0 m_fa m_f m_p m_is m_w hf
set_option maxHeartbeats 4000000 in
set_option maxRecDepth 100000 in
theorem wk_X10_goOver_126 {X : JC} {l : Launch} {D : va_G} {cB cI cJ : ClassId} (O : Jo X (l, D, cB, cI, cJ) cX10_goOver 4 RX10 wsX10_goOver rmX10_goOver none) (m mt md mk ms mu mn mm mo mw : Nat) (m_tl : Int32) (m_dl : Int32) (m_c : Int32) (m_e : Int32) (m_ol : Int32) (m_t : Nat → Int32) (m_d : Nat → Int32) (m_k : Nat → Int32) (m_s : Nat → Int32) (m_u : Nat → Int32) (m_n : Nat → Int64) (m_m : Nat → Int32) (m_o : Nat → Int32) (fu : Nat) {z : Int32 × Int32 × Int32 × Int32 × (Nat → Int32)} : ∀ (fn : Nat) (v2 : Int32) (m_fa : Int32) (m_f : Int32) (m_p : Int32) (m_is : Int32) (m_w : Nat → Int32), p_X10_goOver_126 fu m_tl m_t fn v2 m_fa m_f m_p m_is m_w = some z → J X 4 (JQv X [(m, .inr (6, [.ref mt, .int m_tl, .ref md, .int m_dl, .ref mk, .ref ms, .int m_c, .ref mu, .ref mn, .ref mm, .int m_e, .ref mo, .int m_ol, .int z.1, .int z.2.1, .ref mw, .int z.2.2.1, .int z.2.2.2.1])), (mt, .inl (cI, 6000, .inl m_t)), (md, .inl (cI, 12000, .inl m_d)), (mk, .inl (cI, 61, .inl m_k)), (ms, .inl (cI, 61, .inl m_s)), (mu, .inl (cI, 41, .inl m_u)), (mn, .inl (cJ, 41, .inr (.inl m_n))), (mm, .inl (cI, 41, .inl m_m)), (mo, .inl (cI, 14000, .inl m_o)), (mw, .inl (cI, 61, .inl z.2.2.2.2))] 0 0) [(m, .inr (6, [.ref mt, .int m_tl, .ref md, .int m_dl, .ref mk, .ref ms, .int m_c, .ref mu, .ref mn, .ref mm, .int m_e, .ref mo, .int m_ol, .int m_fa, .int m_f, .ref mw, .int m_p, .int m_is])), (mt, .inl (cI, 6000, .inl m_t)), (md, .inl (cI, 12000, .inl m_d)), (mk, .inl (cI, 61, .inl m_k)), (ms, .inl (cI, 61, .inl m_s)), (mu, .inl (cI, 41, .inl m_u)), (mn, .inl (cJ, 41, .inr (.inl m_n))), (mm, .inl (cI, 41, .inl m_m)), (mo, .inl (cI, 14000, .inl m_o)), (mw, .inl (cI, 61, .inl m_w))] 0 0 126 [(0, .ref m), (2, .int v2)] [] := by
  intro fn
  induction fn with
  | zero =>
    intro v2 m_fa m_f m_p m_is m_w hf
    rw [p_X10_goOver_126] at hf
    exact jt_n hf
  | succ fn ih =>
    intro v2 m_fa m_f m_p m_is m_w hf
    rw [p_X10_goOver_126] at hf
    refine J_aload_n O (i := 0) (k0 := 0) (pc := 126) 0 rfl rfl dX10_goOver_126 ?_
    refine J_get O (pc := 127) in_X10_goOver_X10 0 rfl rfl 14 (by decide) mb_X10_goOver_6 rfl dX10_goOver_127 ?_
    refine J_if_ne O (tgt := 185) (pc := 130) dX10_goOver_130 (by decide) (fun c130 => ?_) (fun c130 => ?_)
    · have hf := jt_f c130 hf
      refine J_sub [0] (lv' := [(0, .ref m)]) rfl ?_
      exact wk_X10_goOver_185 O m mt md mk ms mu mn mm mo mw m_tl m_dl m_c m_e m_ol m_t m_d m_k m_s m_u m_n m_m m_o fu m_fa m_f m_p m_is m_w hf
    · have hf := jt_t c130 hf
      refine J_iload_n O (i := 2) (k0 := 2) (pc := 133) 1 rfl rfl dX10_goOver_133 ?_
      refine J_if_ne O (tgt := 185) (pc := 134) dX10_goOver_134 (by decide) (fun c134 => ?_) (fun c134 => ?_)
      · have hf := jt_f c134 hf
        refine J_sub [0] (lv' := [(0, .ref m)]) rfl ?_
        exact wk_X10_goOver_185 O m mt md mk ms mu mn mm mo mw m_tl m_dl m_c m_e m_ol m_t m_d m_k m_s m_u m_n m_m m_o fu m_fa m_f m_p m_is m_w hf
      · have hf := jt_t c134 hf
        refine J_aload_n O (i := 0) (k0 := 0) (pc := 137) 0 rfl rfl dX10_goOver_137 ?_
        refine J_get O (pc := 138) in_X10_goOver_X10 0 rfl rfl 17 (by decide) mb_X10_goOver_7 rfl dX10_goOver_138 ?_
        refine J_iconst O (v := 4) (pc := 141) (by decide) dX10_goOver_141 ?_
        refine J_icmp_lt O (tgt := 171) (pc := 142) dX10_goOver_142 (by decide) (fun c142 => ?_) (fun c142 => ?_)
        · have hf := jt_t c142 hf
          refine J_aload_n O (i := 0) (k0 := 0) (pc := 171) 0 rfl rfl dX10_goOver_171 ?_
          refine J_bipush O (v := 6) (pc := 172) (by decide) dX10_goOver_172 ?_
          refine J_bipush O (v := 16) (pc := 174) (by decide) dX10_goOver_174 ?_
          obtain ⟨z176, h176, hf⟩ := jt_b hf
          refine J_callVv O (pc := 176) (c_X10_stop l D cB cI cJ m mt md mk ms mu mn mm mo mw m_tl m_dl m_c m_e m_ol m_fa m_f m_p m_is m_t m_d m_k m_s m_u m_n m_m m_o m_w 6 16 h176) rfl 0 rfl rfl gX10_goOver_X10_stop hdV_X10_stop ⟨(Nat.le_of_ble_eq_true rfl), (Nat.le_of_ble_eq_true rfl)⟩ rfl (st := []) rfl (Nat.le_of_ble_eq_true rfl) [0, 1, 2, 3, 4, 5, 6, 7, 8, 9] [] rfl rfl rfl rfl rfl (by decide) [(m, .inr (6, [.ref mt, .int m_tl, .ref md, .int m_dl, .ref mk, .ref ms, .int m_c, .ref mu, .ref mn, .ref mm, .int m_e, .ref mo, .int m_ol, .int z176.1, .int z176.2, .ref mw, .int m_p, .int m_is])), (mt, .inl (cI, 6000, .inl m_t)), (md, .inl (cI, 12000, .inl m_d)), (mk, .inl (cI, 61, .inl m_k)), (ms, .inl (cI, 61, .inl m_s)), (mu, .inl (cI, 41, .inl m_u)), (mn, .inl (cJ, 41, .inr (.inl m_n))), (mm, .inl (cI, 41, .inl m_m)), (mo, .inl (cI, 14000, .inl m_o)), (mw, .inl (cI, 61, .inl m_w))] [0, 1, 2, 3, 4, 5, 6, 7, 8, 9] rfl rfl rfl (0) (0) (Nat.le_of_ble_eq_true rfl) (Nat.le_of_ble_eq_true rfl) ⟨(Nat.le_of_ble_eq_true rfl), (Nat.le_of_ble_eq_true rfl)⟩ dX10_goOver_176 ?_
          refine J_iinc O (i := 2) (n := 1) (v := v2 + 1) (pc := 179) 1 rfl [(2, .int (v2 + 1)), (0, .ref m)] (by decide) (congrArg (_ + ·) (by decide)) rfl dX10_goOver_179 ?_
          refine J_goto O (tgt := 126) (pc := 182) dX10_goOver_182 (by decide) ?_
          refine J_sub [1, 0] (lv' := [(0, .ref m), (2, .int (v2 + 1))]) rfl ?_
          exact ih (v2 + 1) z176.1 z176.2 m_p m_is m_w hf
        · have hf := jt_f c142 hf
          refine J_aload_n O (i := 0) (k0 := 0) (pc := 145) 0 rfl rfl dX10_goOver_145 ?_
          refine J_get O (pc := 146) in_X10_goOver_X10 0 rfl rfl 17 (by decide) mb_X10_goOver_7 rfl dX10_goOver_146 ?_
          refine J_i2l O (pc := 149) dX10_goOver_149 ?_
          refine J_ldc2 O (pc := 150) mb_X10_goOver_8 dX10_goOver_150 ?_
          refine J_ldc2 O (pc := 153) mb_X10_goOver_9 dX10_goOver_153 ?_
          refine J_aload_n O (i := 0) (k0 := 0) (pc := 156) 0 rfl rfl dX10_goOver_156 ?_
          refine J_get O (pc := 157) in_X10_goOver_X10 0 rfl rfl 0 (by decide) mb_X10_goOver_2 rfl dX10_goOver_157 ?_
          refine J_bipush O (v := 20) (pc := 160) (by decide) dX10_goOver_160 ?_
          obtain ⟨z162, h162, hf⟩ := jt_b hf
          refine J_callSl O (pc := 162) (c_X10_four l D cB cI cJ mt 6000 m_t 20 h162) rfl gX10_goOver_X10_four hdS_X10_four ⟨(Nat.le_of_ble_eq_true rfl), (Nat.le_of_ble_eq_true rfl)⟩ rfl (st := [.long 12, .long 4, .long (Int32.toInt64 m_is)]) rfl (Nat.le_of_ble_eq_true rfl) [1] [0, 2, 3, 4, 5, 6, 7, 8, 9] rfl rfl rfl rfl rfl (by decide) [(m, .inr (6, [.ref mt, .int m_tl, .ref md, .int m_dl, .ref mk, .ref ms, .int m_c, .ref mu, .ref mn, .ref mm, .int m_e, .ref mo, .int m_ol, .int m_fa, .int m_f, .ref mw, .int m_p, .int m_is])), (mt, .inl (cI, 6000, .inl m_t)), (md, .inl (cI, 12000, .inl m_d)), (mk, .inl (cI, 61, .inl m_k)), (ms, .inl (cI, 61, .inl m_s)), (mu, .inl (cI, 41, .inl m_u)), (mn, .inl (cJ, 41, .inr (.inl m_n))), (mm, .inl (cI, 41, .inl m_m)), (mo, .inl (cI, 14000, .inl m_o)), (mw, .inl (cI, 61, .inl m_w))] [0, 9, 1, 2, 3, 4, 5, 6, 7, 8] rfl rfl rfl (0) (0) (Nat.le_of_ble_eq_true rfl) (Nat.le_of_ble_eq_true rfl) ⟨(Nat.le_of_ble_eq_true rfl), (Nat.le_of_ble_eq_true rfl)⟩ dX10_goOver_162 ?_
          refine J_lmul O (pc := 165) dX10_goOver_165 ?_
          refine J_ladd O (pc := 166) dX10_goOver_166 ?_
          refine J_lif_eq O (tgt := 179) (pc := 167) dX10_goOver_167 dX10_goOver_168 (by decide) (fun c167 => ?_) (fun c167 => ?_)
          · have hf := jt_t c167 hf
            refine J_iinc O (i := 2) (n := 1) (v := v2 + 1) (pc := 179) 1 rfl [(2, .int (v2 + 1)), (0, .ref m)] (by decide) (congrArg (_ + ·) (by decide)) rfl dX10_goOver_179 ?_
            refine J_goto O (tgt := 126) (pc := 182) dX10_goOver_182 (by decide) ?_
            refine J_sub [1, 0] (lv' := [(0, .ref m), (2, .int (v2 + 1))]) rfl ?_
            exact ih (v2 + 1) m_fa m_f m_p m_is m_w hf
          · have hf := jt_f c167 hf
            refine J_aload_n O (i := 0) (k0 := 0) (pc := 171) 0 rfl rfl dX10_goOver_171 ?_
            refine J_bipush O (v := 6) (pc := 172) (by decide) dX10_goOver_172 ?_
            refine J_bipush O (v := 16) (pc := 174) (by decide) dX10_goOver_174 ?_
            obtain ⟨z176, h176, hf⟩ := jt_b hf
            refine J_callVv O (pc := 176) (c_X10_stop l D cB cI cJ m mt md mk ms mu mn mm mo mw m_tl m_dl m_c m_e m_ol m_fa m_f m_p m_is m_t m_d m_k m_s m_u m_n m_m m_o m_w 6 16 h176) rfl 0 rfl rfl gX10_goOver_X10_stop hdV_X10_stop ⟨(Nat.le_of_ble_eq_true rfl), (Nat.le_of_ble_eq_true rfl)⟩ rfl (st := []) rfl (Nat.le_of_ble_eq_true rfl) [0, 1, 2, 3, 4, 5, 6, 7, 8, 9] [] rfl rfl rfl rfl rfl (by decide) [(m, .inr (6, [.ref mt, .int m_tl, .ref md, .int m_dl, .ref mk, .ref ms, .int m_c, .ref mu, .ref mn, .ref mm, .int m_e, .ref mo, .int m_ol, .int z176.1, .int z176.2, .ref mw, .int m_p, .int m_is])), (mt, .inl (cI, 6000, .inl m_t)), (md, .inl (cI, 12000, .inl m_d)), (mk, .inl (cI, 61, .inl m_k)), (ms, .inl (cI, 61, .inl m_s)), (mu, .inl (cI, 41, .inl m_u)), (mn, .inl (cJ, 41, .inr (.inl m_n))), (mm, .inl (cI, 41, .inl m_m)), (mo, .inl (cI, 14000, .inl m_o)), (mw, .inl (cI, 61, .inl m_w))] [0, 1, 2, 3, 4, 5, 6, 7, 8, 9] rfl rfl rfl (0) (0) (Nat.le_of_ble_eq_true rfl) (Nat.le_of_ble_eq_true rfl) ⟨(Nat.le_of_ble_eq_true rfl), (Nat.le_of_ble_eq_true rfl)⟩ dX10_goOver_176 ?_
            refine J_iinc O (i := 2) (n := 1) (v := v2 + 1) (pc := 179) 1 rfl [(2, .int (v2 + 1)), (0, .ref m)] (by decide) (congrArg (_ + ·) (by decide)) rfl dX10_goOver_179 ?_
            refine J_goto O (tgt := 126) (pc := 182) dX10_goOver_182 (by decide) ?_
            refine J_sub [1, 0] (lv' := [(0, .ref m), (2, .int (v2 + 1))]) rfl ?_
            exact ih (v2 + 1) z176.1 z176.2 m_p m_is m_w hf
set_option maxHeartbeats 4000000 in
set_option maxRecDepth 100000 in
theorem wk_X10_goOver_93 {X : JC} {l : Launch} {D : va_G} {cB cI cJ : ClassId} (O : Jo X (l, D, cB, cI, cJ) cX10_goOver 4 RX10 wsX10_goOver rmX10_goOver none) (m mt md mk ms mu mn mm mo mw : Nat) (m_tl : Int32) (m_dl : Int32) (m_c : Int32) (m_e : Int32) (m_ol : Int32) (m_t : Nat → Int32) (m_d : Nat → Int32) (m_k : Nat → Int32) (m_s : Nat → Int32) (m_u : Nat → Int32) (m_n : Nat → Int64) (m_m : Nat → Int32) (m_o : Nat → Int32) (fu : Nat) {z : Int32 × Int32 × Int32 × Int32 × (Nat → Int32)} : ∀ (fn : Nat) (v1 : Int32) (m_fa : Int32) (m_f : Int32) (m_p : Int32) (m_is : Int32) (m_w : Nat → Int32), p_X10_goOver_93 fu m_tl m_t fn v1 m_fa m_f m_p m_is m_w = some z → J X 4 (JQv X [(m, .inr (6, [.ref mt, .int m_tl, .ref md, .int m_dl, .ref mk, .ref ms, .int m_c, .ref mu, .ref mn, .ref mm, .int m_e, .ref mo, .int m_ol, .int z.1, .int z.2.1, .ref mw, .int z.2.2.1, .int z.2.2.2.1])), (mt, .inl (cI, 6000, .inl m_t)), (md, .inl (cI, 12000, .inl m_d)), (mk, .inl (cI, 61, .inl m_k)), (ms, .inl (cI, 61, .inl m_s)), (mu, .inl (cI, 41, .inl m_u)), (mn, .inl (cJ, 41, .inr (.inl m_n))), (mm, .inl (cI, 41, .inl m_m)), (mo, .inl (cI, 14000, .inl m_o)), (mw, .inl (cI, 61, .inl z.2.2.2.2))] 0 0) [(m, .inr (6, [.ref mt, .int m_tl, .ref md, .int m_dl, .ref mk, .ref ms, .int m_c, .ref mu, .ref mn, .ref mm, .int m_e, .ref mo, .int m_ol, .int m_fa, .int m_f, .ref mw, .int m_p, .int m_is])), (mt, .inl (cI, 6000, .inl m_t)), (md, .inl (cI, 12000, .inl m_d)), (mk, .inl (cI, 61, .inl m_k)), (ms, .inl (cI, 61, .inl m_s)), (mu, .inl (cI, 41, .inl m_u)), (mn, .inl (cJ, 41, .inr (.inl m_n))), (mm, .inl (cI, 41, .inl m_m)), (mo, .inl (cI, 14000, .inl m_o)), (mw, .inl (cI, 61, .inl m_w))] 0 0 93 [(0, .ref m), (1, .int v1)] [] := by
  intro fn
  induction fn with
  | zero =>
    intro v1 m_fa m_f m_p m_is m_w hf
    rw [p_X10_goOver_93] at hf
    exact jt_n hf
  | succ fn ih =>
    intro v1 m_fa m_f m_p m_is m_w hf
    rw [p_X10_goOver_93] at hf
    refine J_aload_n O (i := 0) (k0 := 0) (pc := 93) 0 rfl rfl dX10_goOver_93 ?_
    refine J_get O (pc := 94) in_X10_goOver_X10 0 rfl rfl 14 (by decide) mb_X10_goOver_6 rfl dX10_goOver_94 ?_
    refine J_if_ne O (tgt := 124) (pc := 97) dX10_goOver_97 (by decide) (fun c97 => ?_) (fun c97 => ?_)
    · have hf := jt_f c97 hf
      refine J_iconst O (v := 0) (pc := 124) (by decide) dX10_goOver_124 ?_
      refine J_istore_n O (i := 2) (k0 := 2) (pc := 125) rfl [(2, .int 0), (0, .ref m), (1, .int v1)] (by decide) rfl dX10_goOver_125 ?_
      refine J_sub [1, 0] (lv' := [(0, .ref m), (2, .int 0)]) rfl ?_
      exact wk_X10_goOver_126 O m mt md mk ms mu mn mm mo mw m_tl m_dl m_c m_e m_ol m_t m_d m_k m_s m_u m_n m_m m_o fu fu 0 m_fa m_f m_p m_is m_w hf
    · have hf := jt_t c97 hf
      refine J_iload_n O (i := 1) (k0 := 1) (pc := 100) 1 rfl rfl dX10_goOver_100 ?_
      refine J_aload_n O (i := 0) (k0 := 0) (pc := 101) 0 rfl rfl dX10_goOver_101 ?_
      refine J_get O (pc := 102) in_X10_goOver_X10 0 rfl rfl 1 (by decide) mb_X10_goOver_1 rfl dX10_goOver_102 ?_
      refine J_icmp_lt O (tgt := 115) (pc := 105) dX10_goOver_105 (by decide) (fun c105 => ?_) (fun c105 => ?_)
      · have hf := jt_t c105 hf
        refine J_aload_n O (i := 0) (k0 := 0) (pc := 115) 0 rfl rfl dX10_goOver_115 ?_
        refine J_iload_n O (i := 1) (k0 := 1) (pc := 116) 1 rfl rfl dX10_goOver_116 ?_
        obtain ⟨z117, h117, hf⟩ := jt_b hf
        refine J_callVi O (pc := 117) (c_X10_piece l D cB cI cJ m mt md mk ms mu mn mm mo mw m_tl m_dl m_c m_e m_ol m_fa m_f m_p m_is m_t m_d m_k m_s m_u m_n m_m m_o m_w v1 h117) rfl 0 rfl rfl gX10_goOver_X10_piece hdV_X10_piece ⟨(Nat.le_of_ble_eq_true rfl), (Nat.le_of_ble_eq_true rfl)⟩ rfl (st := []) rfl (Nat.le_of_ble_eq_true rfl) [0, 1, 2, 3, 4, 5, 6, 7, 8, 9] [] rfl rfl rfl rfl rfl (by decide) [(m, .inr (6, [.ref mt, .int m_tl, .ref md, .int m_dl, .ref mk, .ref ms, .int m_c, .ref mu, .ref mn, .ref mm, .int m_e, .ref mo, .int m_ol, .int z117.2.1, .int z117.2.2.1, .ref mw, .int z117.2.2.2.1, .int z117.2.2.2.2.1])), (mt, .inl (cI, 6000, .inl m_t)), (md, .inl (cI, 12000, .inl m_d)), (mk, .inl (cI, 61, .inl m_k)), (ms, .inl (cI, 61, .inl m_s)), (mu, .inl (cI, 41, .inl m_u)), (mn, .inl (cJ, 41, .inr (.inl m_n))), (mm, .inl (cI, 41, .inl m_m)), (mo, .inl (cI, 14000, .inl m_o)), (mw, .inl (cI, 61, .inl z117.2.2.2.2.2))] [0, 1, 2, 3, 4, 5, 6, 7, 8, 9] rfl rfl rfl (0) (0) (Nat.le_of_ble_eq_true rfl) (Nat.le_of_ble_eq_true rfl) ⟨(Nat.le_of_ble_eq_true rfl), (Nat.le_of_ble_eq_true rfl)⟩ dX10_goOver_117 ?_
        refine J_istore_n O (i := 1) (k0 := 1) (pc := 120) rfl [(1, .int z117.1), (0, .ref m)] (by decide) rfl dX10_goOver_120 ?_
        refine J_goto O (tgt := 93) (pc := 121) dX10_goOver_121 (by decide) ?_
        refine J_sub [1, 0] (lv' := [(0, .ref m), (1, .int z117.1)]) rfl ?_
        exact ih z117.1 z117.2.1 z117.2.2.1 z117.2.2.2.1 z117.2.2.2.2.1 z117.2.2.2.2.2 hf
      · have hf := jt_f c105 hf
        refine J_aload_n O (i := 0) (k0 := 0) (pc := 108) 0 rfl rfl dX10_goOver_108 ?_
        refine J_get O (pc := 109) in_X10_goOver_X10 0 rfl rfl 16 (by decide) mb_X10_goOver_5 rfl dX10_goOver_109 ?_
        refine J_if_ge O (tgt := 124) (pc := 112) dX10_goOver_112 (by decide) (fun c112 => ?_) (fun c112 => ?_)
        · have hf := jt_t c112 hf
          refine J_iconst O (v := 0) (pc := 124) (by decide) dX10_goOver_124 ?_
          refine J_istore_n O (i := 2) (k0 := 2) (pc := 125) rfl [(2, .int 0), (0, .ref m), (1, .int v1)] (by decide) rfl dX10_goOver_125 ?_
          refine J_sub [1, 0] (lv' := [(0, .ref m), (2, .int 0)]) rfl ?_
          exact wk_X10_goOver_126 O m mt md mk ms mu mn mm mo mw m_tl m_dl m_c m_e m_ol m_t m_d m_k m_s m_u m_n m_m m_o fu fu 0 m_fa m_f m_p m_is m_w hf
        · have hf := jt_f c112 hf
          refine J_aload_n O (i := 0) (k0 := 0) (pc := 115) 0 rfl rfl dX10_goOver_115 ?_
          refine J_iload_n O (i := 1) (k0 := 1) (pc := 116) 1 rfl rfl dX10_goOver_116 ?_
          obtain ⟨z117, h117, hf⟩ := jt_b hf
          refine J_callVi O (pc := 117) (c_X10_piece l D cB cI cJ m mt md mk ms mu mn mm mo mw m_tl m_dl m_c m_e m_ol m_fa m_f m_p m_is m_t m_d m_k m_s m_u m_n m_m m_o m_w v1 h117) rfl 0 rfl rfl gX10_goOver_X10_piece hdV_X10_piece ⟨(Nat.le_of_ble_eq_true rfl), (Nat.le_of_ble_eq_true rfl)⟩ rfl (st := []) rfl (Nat.le_of_ble_eq_true rfl) [0, 1, 2, 3, 4, 5, 6, 7, 8, 9] [] rfl rfl rfl rfl rfl (by decide) [(m, .inr (6, [.ref mt, .int m_tl, .ref md, .int m_dl, .ref mk, .ref ms, .int m_c, .ref mu, .ref mn, .ref mm, .int m_e, .ref mo, .int m_ol, .int z117.2.1, .int z117.2.2.1, .ref mw, .int z117.2.2.2.1, .int z117.2.2.2.2.1])), (mt, .inl (cI, 6000, .inl m_t)), (md, .inl (cI, 12000, .inl m_d)), (mk, .inl (cI, 61, .inl m_k)), (ms, .inl (cI, 61, .inl m_s)), (mu, .inl (cI, 41, .inl m_u)), (mn, .inl (cJ, 41, .inr (.inl m_n))), (mm, .inl (cI, 41, .inl m_m)), (mo, .inl (cI, 14000, .inl m_o)), (mw, .inl (cI, 61, .inl z117.2.2.2.2.2))] [0, 1, 2, 3, 4, 5, 6, 7, 8, 9] rfl rfl rfl (0) (0) (Nat.le_of_ble_eq_true rfl) (Nat.le_of_ble_eq_true rfl) ⟨(Nat.le_of_ble_eq_true rfl), (Nat.le_of_ble_eq_true rfl)⟩ dX10_goOver_117 ?_
          refine J_istore_n O (i := 1) (k0 := 1) (pc := 120) rfl [(1, .int z117.1), (0, .ref m)] (by decide) rfl dX10_goOver_120 ?_
          refine J_goto O (tgt := 93) (pc := 121) dX10_goOver_121 (by decide) ?_
          refine J_sub [1, 0] (lv' := [(0, .ref m), (1, .int z117.1)]) rfl ?_
          exact ih z117.1 z117.2.1 z117.2.2.1 z117.2.2.2.1 z117.2.2.2.2.1 z117.2.2.2.2.2 hf
set_option maxHeartbeats 4000000 in
set_option maxRecDepth 100000 in
theorem wk_X10_goOver_64 {X : JC} {l : Launch} {D : va_G} {cB cI cJ : ClassId} (O : Jo X (l, D, cB, cI, cJ) cX10_goOver 4 RX10 wsX10_goOver rmX10_goOver none) (m mt md mk ms mu mn mm mo mw : Nat) (m_tl : Int32) (m_dl : Int32) (m_c : Int32) (m_e : Int32) (m_ol : Int32) (m_t : Nat → Int32) (m_d : Nat → Int32) (m_k : Nat → Int32) (m_s : Nat → Int32) (m_u : Nat → Int32) (m_n : Nat → Int64) (m_m : Nat → Int32) (m_o : Nat → Int32) (fu : Nat) {z : Int32 × Int32 × Int32 × Int32 × (Nat → Int32)} (m_fa : Int32) (m_f : Int32) (m_p : Int32) (m_is : Int32) (m_w : Nat → Int32) (hf : p_X10_goOver_64 fu m_tl m_t m_fa m_f m_p m_is m_w = some z) : J X 4 (JQv X [(m, .inr (6, [.ref mt, .int m_tl, .ref md, .int m_dl, .ref mk, .ref ms, .int m_c, .ref mu, .ref mn, .ref mm, .int m_e, .ref mo, .int m_ol, .int z.1, .int z.2.1, .ref mw, .int z.2.2.1, .int z.2.2.2.1])), (mt, .inl (cI, 6000, .inl m_t)), (md, .inl (cI, 12000, .inl m_d)), (mk, .inl (cI, 61, .inl m_k)), (ms, .inl (cI, 61, .inl m_s)), (mu, .inl (cI, 41, .inl m_u)), (mn, .inl (cJ, 41, .inr (.inl m_n))), (mm, .inl (cI, 41, .inl m_m)), (mo, .inl (cI, 14000, .inl m_o)), (mw, .inl (cI, 61, .inl z.2.2.2.2))] 0 0) [(m, .inr (6, [.ref mt, .int m_tl, .ref md, .int m_dl, .ref mk, .ref ms, .int m_c, .ref mu, .ref mn, .ref mm, .int m_e, .ref mo, .int m_ol, .int m_fa, .int m_f, .ref mw, .int m_p, .int m_is])), (mt, .inl (cI, 6000, .inl m_t)), (md, .inl (cI, 12000, .inl m_d)), (mk, .inl (cI, 61, .inl m_k)), (ms, .inl (cI, 61, .inl m_s)), (mu, .inl (cI, 41, .inl m_u)), (mn, .inl (cJ, 41, .inr (.inl m_n))), (mm, .inl (cI, 41, .inl m_m)), (mo, .inl (cI, 14000, .inl m_o)), (mw, .inl (cI, 61, .inl m_w))] 0 0 64 [(0, .ref m)] [] := by
  rw [p_X10_goOver_64] at hf
  refine J_aload_n O (i := 0) (k0 := 0) (pc := 64) 0 rfl rfl dX10_goOver_64 ?_
  refine J_get O (pc := 65) in_X10_goOver_X10 0 rfl rfl 0 (by decide) mb_X10_goOver_2 rfl dX10_goOver_65 ?_
  refine J_bipush O (v := 8) (pc := 68) (by decide) dX10_goOver_68 ?_
  obtain ⟨z70, h70, hf⟩ := jt_b hf
  refine J_callSi O (pc := 70) (c_X10_kindIn l D cB cI cJ mt 6000 m_t 8 h70) rfl gX10_goOver_X10_kindIn hdS_X10_kindIn ⟨(Nat.le_of_ble_eq_true rfl), (Nat.le_of_ble_eq_true rfl)⟩ rfl (st := []) rfl (Nat.le_of_ble_eq_true rfl) [1] [0, 2, 3, 4, 5, 6, 7, 8, 9] rfl rfl rfl rfl rfl (by decide) [(m, .inr (6, [.ref mt, .int m_tl, .ref md, .int m_dl, .ref mk, .ref ms, .int m_c, .ref mu, .ref mn, .ref mm, .int m_e, .ref mo, .int m_ol, .int m_fa, .int m_f, .ref mw, .int m_p, .int m_is])), (mt, .inl (cI, 6000, .inl m_t)), (md, .inl (cI, 12000, .inl m_d)), (mk, .inl (cI, 61, .inl m_k)), (ms, .inl (cI, 61, .inl m_s)), (mu, .inl (cI, 41, .inl m_u)), (mn, .inl (cJ, 41, .inr (.inl m_n))), (mm, .inl (cI, 41, .inl m_m)), (mo, .inl (cI, 14000, .inl m_o)), (mw, .inl (cI, 61, .inl m_w))] [0, 9, 1, 2, 3, 4, 5, 6, 7, 8] rfl rfl rfl (0) (0) (Nat.le_of_ble_eq_true rfl) (Nat.le_of_ble_eq_true rfl) ⟨(Nat.le_of_ble_eq_true rfl), (Nat.le_of_ble_eq_true rfl)⟩ dX10_goOver_70 ?_
  refine J_ldc O (pc := 73) mb_X10_goOver_4 dX10_goOver_73 ?_
  refine J_icmp_eq O (tgt := 85) (pc := 75) dX10_goOver_75 (by decide) (fun c75 => ?_) (fun c75 => ?_)
  · have hf := jt_t c75 hf
    refine J_bipush O (v := 12) (pc := 85) (by decide) dX10_goOver_85 ?_
    refine J_istore_n O (i := 1) (k0 := 1) (pc := 87) rfl [(1, .int 12), (0, .ref m)] (by decide) rfl dX10_goOver_87 ?_
    refine J_aload_n O (i := 0) (k0 := 0) (pc := 88) 1 rfl rfl dX10_goOver_88 ?_
    refine J_iconst O (v := (-1)) (pc := 89) (by decide) dX10_goOver_89 ?_
    refine J_put O (pc := 90) in_X10_goOver_X10 tyX10 tyX10_ok nmX10 0 rfl rfl 16 (by decide) mb_X10_goOver_5 rfl rfl rfl (Nat.le_of_ble_eq_true rfl) [(m, .inr (6, [.ref mt, .int m_tl, .ref md, .int m_dl, .ref mk, .ref ms, .int m_c, .ref mu, .ref mn, .ref mm, .int m_e, .ref mo, .int m_ol, .int m_fa, .int m_f, .ref mw, .int (-1), .int m_is])), (mt, .inl (cI, 6000, .inl m_t)), (md, .inl (cI, 12000, .inl m_d)), (mk, .inl (cI, 61, .inl m_k)), (ms, .inl (cI, 61, .inl m_s)), (mu, .inl (cI, 41, .inl m_u)), (mn, .inl (cJ, 41, .inr (.inl m_n))), (mm, .inl (cI, 41, .inl m_m)), (mo, .inl (cI, 14000, .inl m_o)), (mw, .inl (cI, 61, .inl m_w))] rfl dX10_goOver_90 ?_
    refine J_sub [1, 0] (lv' := [(0, .ref m), (1, .int 12)]) rfl ?_
    exact wk_X10_goOver_93 O m mt md mk ms mu mn mm mo mw m_tl m_dl m_c m_e m_ol m_t m_d m_k m_s m_u m_n m_m m_o fu fu 12 m_fa m_f (-1) m_is m_w hf
  · have hf := jt_f c75 hf
    refine J_aload_n O (i := 0) (k0 := 0) (pc := 78) 0 rfl rfl dX10_goOver_78 ?_
    refine J_iconst O (v := 2) (pc := 79) (by decide) dX10_goOver_79 ?_
    refine J_bipush O (v := 8) (pc := 80) (by decide) dX10_goOver_80 ?_
    obtain ⟨z82, h82, hf⟩ := jt_b hf
    refine J_callVv O (pc := 82) (c_X10_stop l D cB cI cJ m mt md mk ms mu mn mm mo mw m_tl m_dl m_c m_e m_ol m_fa m_f m_p m_is m_t m_d m_k m_s m_u m_n m_m m_o m_w 2 8 h82) rfl 0 rfl rfl gX10_goOver_X10_stop hdV_X10_stop ⟨(Nat.le_of_ble_eq_true rfl), (Nat.le_of_ble_eq_true rfl)⟩ rfl (st := []) rfl (Nat.le_of_ble_eq_true rfl) [0, 1, 2, 3, 4, 5, 6, 7, 8, 9] [] rfl rfl rfl rfl rfl (by decide) [(m, .inr (6, [.ref mt, .int m_tl, .ref md, .int m_dl, .ref mk, .ref ms, .int m_c, .ref mu, .ref mn, .ref mm, .int m_e, .ref mo, .int m_ol, .int z82.1, .int z82.2, .ref mw, .int m_p, .int m_is])), (mt, .inl (cI, 6000, .inl m_t)), (md, .inl (cI, 12000, .inl m_d)), (mk, .inl (cI, 61, .inl m_k)), (ms, .inl (cI, 61, .inl m_s)), (mu, .inl (cI, 41, .inl m_u)), (mn, .inl (cJ, 41, .inr (.inl m_n))), (mm, .inl (cI, 41, .inl m_m)), (mo, .inl (cI, 14000, .inl m_o)), (mw, .inl (cI, 61, .inl m_w))] [0, 1, 2, 3, 4, 5, 6, 7, 8, 9] rfl rfl rfl (0) (0) (Nat.le_of_ble_eq_true rfl) (Nat.le_of_ble_eq_true rfl) ⟨(Nat.le_of_ble_eq_true rfl), (Nat.le_of_ble_eq_true rfl)⟩ dX10_goOver_82 ?_
    refine J_bipush O (v := 12) (pc := 85) (by decide) dX10_goOver_85 ?_
    refine J_istore_n O (i := 1) (k0 := 1) (pc := 87) rfl [(1, .int 12), (0, .ref m)] (by decide) rfl dX10_goOver_87 ?_
    refine J_aload_n O (i := 0) (k0 := 0) (pc := 88) 1 rfl rfl dX10_goOver_88 ?_
    refine J_iconst O (v := (-1)) (pc := 89) (by decide) dX10_goOver_89 ?_
    refine J_put O (pc := 90) in_X10_goOver_X10 tyX10 tyX10_ok nmX10 0 rfl rfl 16 (by decide) mb_X10_goOver_5 rfl rfl rfl (Nat.le_of_ble_eq_true rfl) [(m, .inr (6, [.ref mt, .int m_tl, .ref md, .int m_dl, .ref mk, .ref ms, .int m_c, .ref mu, .ref mn, .ref mm, .int m_e, .ref mo, .int m_ol, .int z82.1, .int z82.2, .ref mw, .int (-1), .int m_is])), (mt, .inl (cI, 6000, .inl m_t)), (md, .inl (cI, 12000, .inl m_d)), (mk, .inl (cI, 61, .inl m_k)), (ms, .inl (cI, 61, .inl m_s)), (mu, .inl (cI, 41, .inl m_u)), (mn, .inl (cJ, 41, .inr (.inl m_n))), (mm, .inl (cI, 41, .inl m_m)), (mo, .inl (cI, 14000, .inl m_o)), (mw, .inl (cI, 61, .inl m_w))] rfl dX10_goOver_90 ?_
    refine J_sub [1, 0] (lv' := [(0, .ref m), (1, .int 12)]) rfl ?_
    exact wk_X10_goOver_93 O m mt md mk ms mu mn mm mo mw m_tl m_dl m_c m_e m_ol m_t m_d m_k m_s m_u m_n m_m m_o fu fu 12 z82.1 z82.2 (-1) m_is m_w hf
set_option maxHeartbeats 4000000 in
set_option maxRecDepth 100000 in
theorem wk_X10_goOver_38 {X : JC} {l : Launch} {D : va_G} {cB cI cJ : ClassId} (O : Jo X (l, D, cB, cI, cJ) cX10_goOver 4 RX10 wsX10_goOver rmX10_goOver none) (m mt md mk ms mu mn mm mo mw : Nat) (m_tl : Int32) (m_dl : Int32) (m_c : Int32) (m_e : Int32) (m_ol : Int32) (m_t : Nat → Int32) (m_d : Nat → Int32) (m_k : Nat → Int32) (m_s : Nat → Int32) (m_u : Nat → Int32) (m_n : Nat → Int64) (m_m : Nat → Int32) (m_o : Nat → Int32) (fu : Nat) {z : Int32 × Int32 × Int32 × Int32 × (Nat → Int32)} (m_fa : Int32) (m_f : Int32) (m_p : Int32) (m_is : Int32) (m_w : Nat → Int32) (hf : p_X10_goOver_38 fu m_tl m_t m_fa m_f m_p m_is m_w = some z) : J X 4 (JQv X [(m, .inr (6, [.ref mt, .int m_tl, .ref md, .int m_dl, .ref mk, .ref ms, .int m_c, .ref mu, .ref mn, .ref mm, .int m_e, .ref mo, .int m_ol, .int z.1, .int z.2.1, .ref mw, .int z.2.2.1, .int z.2.2.2.1])), (mt, .inl (cI, 6000, .inl m_t)), (md, .inl (cI, 12000, .inl m_d)), (mk, .inl (cI, 61, .inl m_k)), (ms, .inl (cI, 61, .inl m_s)), (mu, .inl (cI, 41, .inl m_u)), (mn, .inl (cJ, 41, .inr (.inl m_n))), (mm, .inl (cI, 41, .inl m_m)), (mo, .inl (cI, 14000, .inl m_o)), (mw, .inl (cI, 61, .inl z.2.2.2.2))] 0 0) [(m, .inr (6, [.ref mt, .int m_tl, .ref md, .int m_dl, .ref mk, .ref ms, .int m_c, .ref mu, .ref mn, .ref mm, .int m_e, .ref mo, .int m_ol, .int m_fa, .int m_f, .ref mw, .int m_p, .int m_is])), (mt, .inl (cI, 6000, .inl m_t)), (md, .inl (cI, 12000, .inl m_d)), (mk, .inl (cI, 61, .inl m_k)), (ms, .inl (cI, 61, .inl m_s)), (mu, .inl (cI, 41, .inl m_u)), (mn, .inl (cJ, 41, .inr (.inl m_n))), (mm, .inl (cI, 41, .inl m_m)), (mo, .inl (cI, 14000, .inl m_o)), (mw, .inl (cI, 61, .inl m_w))] 0 0 38 [(0, .ref m)] [] := by
  rw [p_X10_goOver_38] at hf
  refine J_aload_n O (i := 0) (k0 := 0) (pc := 38) 0 rfl rfl dX10_goOver_38 ?_
  refine J_get O (pc := 39) in_X10_goOver_X10 0 rfl rfl 0 (by decide) mb_X10_goOver_2 rfl dX10_goOver_39 ?_
  refine J_iconst O (v := 4) (pc := 42) (by decide) dX10_goOver_42 ?_
  obtain ⟨z43, h43, hf⟩ := jt_b hf
  refine J_callSl O (pc := 43) (c_X10_four l D cB cI cJ mt 6000 m_t 4 h43) rfl gX10_goOver_X10_four hdS_X10_four ⟨(Nat.le_of_ble_eq_true rfl), (Nat.le_of_ble_eq_true rfl)⟩ rfl (st := []) rfl (Nat.le_of_ble_eq_true rfl) [1] [0, 2, 3, 4, 5, 6, 7, 8, 9] rfl rfl rfl rfl rfl (by decide) [(m, .inr (6, [.ref mt, .int m_tl, .ref md, .int m_dl, .ref mk, .ref ms, .int m_c, .ref mu, .ref mn, .ref mm, .int m_e, .ref mo, .int m_ol, .int m_fa, .int m_f, .ref mw, .int m_p, .int m_is])), (mt, .inl (cI, 6000, .inl m_t)), (md, .inl (cI, 12000, .inl m_d)), (mk, .inl (cI, 61, .inl m_k)), (ms, .inl (cI, 61, .inl m_s)), (mu, .inl (cI, 41, .inl m_u)), (mn, .inl (cJ, 41, .inr (.inl m_n))), (mm, .inl (cI, 41, .inl m_m)), (mo, .inl (cI, 14000, .inl m_o)), (mw, .inl (cI, 61, .inl m_w))] [0, 9, 1, 2, 3, 4, 5, 6, 7, 8] rfl rfl rfl (0) (0) (Nat.le_of_ble_eq_true rfl) (Nat.le_of_ble_eq_true rfl) ⟨(Nat.le_of_ble_eq_true rfl), (Nat.le_of_ble_eq_true rfl)⟩ dX10_goOver_43 ?_
  refine J_aload_n O (i := 0) (k0 := 0) (pc := 46) 0 rfl rfl dX10_goOver_46 ?_
  refine J_get O (pc := 47) in_X10_goOver_X10 0 rfl rfl 1 (by decide) mb_X10_goOver_1 rfl dX10_goOver_47 ?_
  refine J_bipush O (v := 8) (pc := 50) (by decide) dX10_goOver_50 ?_
  refine J_isub O (pc := 52) dX10_goOver_52 ?_
  refine J_i2l O (pc := 53) dX10_goOver_53 ?_
  refine J_lif_eq O (tgt := 64) (pc := 54) dX10_goOver_54 dX10_goOver_55 (by decide) (fun c54 => ?_) (fun c54 => ?_)
  · have hf := jt_t c54 hf
    refine J_sub [0] (lv' := [(0, .ref m)]) rfl ?_
    exact wk_X10_goOver_64 O m mt md mk ms mu mn mm mo mw m_tl m_dl m_c m_e m_ol m_t m_d m_k m_s m_u m_n m_m m_o fu m_fa m_f m_p m_is m_w hf
  · have hf := jt_f c54 hf
    refine J_aload_n O (i := 0) (k0 := 0) (pc := 58) 0 rfl rfl dX10_goOver_58 ?_
    refine J_iconst O (v := 3) (pc := 59) (by decide) dX10_goOver_59 ?_
    refine J_iconst O (v := 4) (pc := 60) (by decide) dX10_goOver_60 ?_
    obtain ⟨z61, h61, hf⟩ := jt_b hf
    refine J_callVv O (pc := 61) (c_X10_stop l D cB cI cJ m mt md mk ms mu mn mm mo mw m_tl m_dl m_c m_e m_ol m_fa m_f m_p m_is m_t m_d m_k m_s m_u m_n m_m m_o m_w 3 4 h61) rfl 0 rfl rfl gX10_goOver_X10_stop hdV_X10_stop ⟨(Nat.le_of_ble_eq_true rfl), (Nat.le_of_ble_eq_true rfl)⟩ rfl (st := []) rfl (Nat.le_of_ble_eq_true rfl) [0, 1, 2, 3, 4, 5, 6, 7, 8, 9] [] rfl rfl rfl rfl rfl (by decide) [(m, .inr (6, [.ref mt, .int m_tl, .ref md, .int m_dl, .ref mk, .ref ms, .int m_c, .ref mu, .ref mn, .ref mm, .int m_e, .ref mo, .int m_ol, .int z61.1, .int z61.2, .ref mw, .int m_p, .int m_is])), (mt, .inl (cI, 6000, .inl m_t)), (md, .inl (cI, 12000, .inl m_d)), (mk, .inl (cI, 61, .inl m_k)), (ms, .inl (cI, 61, .inl m_s)), (mu, .inl (cI, 41, .inl m_u)), (mn, .inl (cJ, 41, .inr (.inl m_n))), (mm, .inl (cI, 41, .inl m_m)), (mo, .inl (cI, 14000, .inl m_o)), (mw, .inl (cI, 61, .inl m_w))] [0, 1, 2, 3, 4, 5, 6, 7, 8, 9] rfl rfl rfl (0) (0) (Nat.le_of_ble_eq_true rfl) (Nat.le_of_ble_eq_true rfl) ⟨(Nat.le_of_ble_eq_true rfl), (Nat.le_of_ble_eq_true rfl)⟩ dX10_goOver_61 ?_
    refine J_sub [0] (lv' := [(0, .ref m)]) rfl ?_
    exact wk_X10_goOver_64 O m mt md mk ms mu mn mm mo mw m_tl m_dl m_c m_e m_ol m_t m_d m_k m_s m_u m_n m_m m_o fu z61.1 z61.2 m_p m_is m_w hf
set_option maxHeartbeats 4000000 in
set_option maxRecDepth 100000 in
theorem c_X10_goOver (l : Launch) (D : va_G) (cB cI cJ : ClassId) (m mt md mk ms mu mn mm mo mw : Nat) (m_tl : Int32) (m_dl : Int32) (m_c : Int32) (m_e : Int32) (m_ol : Int32) (m_fa : Int32) (m_f : Int32) (m_p : Int32) (m_is : Int32) (m_t : Nat → Int32) (m_d : Nat → Int32) (m_k : Nat → Int32) (m_s : Nat → Int32) (m_u : Nat → Int32) (m_n : Nat → Int64) (m_m : Nat → Int32) (m_o : Nat → Int32) (m_w : Nat → Int32) (fu : Nat) {z : Int32 × Int32 × Int32 × Int32 × (Nat → Int32)} (hf : p_X10_goOver fu m_tl m_fa m_f m_p m_is m_t m_w = some z) : Cv (l, D, cB, cI, cJ) yX10_goOver wsX10_goOver rmX10_goOver [.ref m] [(m, .inr (6, [.ref mt, .int m_tl, .ref md, .int m_dl, .ref mk, .ref ms, .int m_c, .ref mu, .ref mn, .ref mm, .int m_e, .ref mo, .int m_ol, .int m_fa, .int m_f, .ref mw, .int m_p, .int m_is])), (mt, .inl (cI, 6000, .inl m_t)), (md, .inl (cI, 12000, .inl m_d)), (mk, .inl (cI, 61, .inl m_k)), (ms, .inl (cI, 61, .inl m_s)), (mu, .inl (cI, 41, .inl m_u)), (mn, .inl (cJ, 41, .inr (.inl m_n))), (mm, .inl (cI, 41, .inl m_m)), (mo, .inl (cI, 14000, .inl m_o)), (mw, .inl (cI, 61, .inl m_w))] [(m, .inr (6, [.ref mt, .int m_tl, .ref md, .int m_dl, .ref mk, .ref ms, .int m_c, .ref mu, .ref mn, .ref mm, .int m_e, .ref mo, .int m_ol, .int z.1, .int z.2.1, .ref mw, .int z.2.2.1, .int z.2.2.2.1])), (mt, .inl (cI, 6000, .inl m_t)), (md, .inl (cI, 12000, .inl m_d)), (mk, .inl (cI, 61, .inl m_k)), (ms, .inl (cI, 61, .inl m_s)), (mu, .inl (cI, 41, .inl m_u)), (mn, .inl (cJ, 41, .inr (.inl m_n))), (mm, .inl (cI, 41, .inl m_m)), (mo, .inl (cI, 14000, .inl m_o)), (mw, .inl (cI, 61, .inl z.2.2.2.2))] := by
  refine Cv_of (cc := cX10_goOver) (nL := 4) (own := RX10) (ret := none) (by decide) rfl rfl (Nat.le_of_ble_eq_true rfl) (fun X O hnm0 => ?_)
  rw [p_X10_goOver] at hf
  show J X 4 (JQv X [(m, .inr (6, [.ref mt, .int m_tl, .ref md, .int m_dl, .ref mk, .ref ms, .int m_c, .ref mu, .ref mn, .ref mm, .int m_e, .ref mo, .int m_ol, .int z.1, .int z.2.1, .ref mw, .int z.2.2.1, .int z.2.2.2.1])), (mt, .inl (cI, 6000, .inl m_t)), (md, .inl (cI, 12000, .inl m_d)), (mk, .inl (cI, 61, .inl m_k)), (ms, .inl (cI, 61, .inl m_s)), (mu, .inl (cI, 41, .inl m_u)), (mn, .inl (cJ, 41, .inr (.inl m_n))), (mm, .inl (cI, 41, .inl m_m)), (mo, .inl (cI, 14000, .inl m_o)), (mw, .inl (cI, 61, .inl z.2.2.2.2))] 0 0) [(m, .inr (6, [.ref mt, .int m_tl, .ref md, .int m_dl, .ref mk, .ref ms, .int m_c, .ref mu, .ref mn, .ref mm, .int m_e, .ref mo, .int m_ol, .int m_fa, .int m_f, .ref mw, .int m_p, .int m_is])), (mt, .inl (cI, 6000, .inl m_t)), (md, .inl (cI, 12000, .inl m_d)), (mk, .inl (cI, 61, .inl m_k)), (ms, .inl (cI, 61, .inl m_s)), (mu, .inl (cI, 41, .inl m_u)), (mn, .inl (cJ, 41, .inr (.inl m_n))), (mm, .inl (cI, 41, .inl m_m)), (mo, .inl (cI, 14000, .inl m_o)), (mw, .inl (cI, 61, .inl m_w))] 0 0 0 [(0, .ref m)] []
  refine J_aload_n O (i := 0) (k0 := 0) (pc := 0) 0 rfl rfl dX10_goOver_0 ?_
  refine J_get O (pc := 1) in_X10_goOver_X10 0 rfl rfl 1 (by decide) mb_X10_goOver_1 rfl dX10_goOver_1 ?_
  refine J_bipush O (v := 12) (pc := 4) (by decide) dX10_goOver_4 ?_
  refine J_icmp_ge O (tgt := 19) (pc := 6) dX10_goOver_6 (by decide) (fun c6 => ?_) (fun c6 => ?_)
  · have hf := jt_t c6 hf
    refine J_aload_n O (i := 0) (k0 := 0) (pc := 19) 0 rfl rfl dX10_goOver_19 ?_
    refine J_get O (pc := 20) in_X10_goOver_X10 0 rfl rfl 0 (by decide) mb_X10_goOver_2 rfl dX10_goOver_20 ?_
    refine J_iconst O (v := 0) (pc := 23) (by decide) dX10_goOver_23 ?_
    obtain ⟨z24, h24, hf⟩ := jt_b hf
    refine J_callSi O (pc := 24) (c_X10_kindIn l D cB cI cJ mt 6000 m_t 0 h24) rfl gX10_goOver_X10_kindIn hdS_X10_kindIn ⟨(Nat.le_of_ble_eq_true rfl), (Nat.le_of_ble_eq_true rfl)⟩ rfl (st := []) rfl (Nat.le_of_ble_eq_true rfl) [1] [0, 2, 3, 4, 5, 6, 7, 8, 9] rfl rfl rfl rfl rfl (by decide) [(m, .inr (6, [.ref mt, .int m_tl, .ref md, .int m_dl, .ref mk, .ref ms, .int m_c, .ref mu, .ref mn, .ref mm, .int m_e, .ref mo, .int m_ol, .int m_fa, .int m_f, .ref mw, .int m_p, .int m_is])), (mt, .inl (cI, 6000, .inl m_t)), (md, .inl (cI, 12000, .inl m_d)), (mk, .inl (cI, 61, .inl m_k)), (ms, .inl (cI, 61, .inl m_s)), (mu, .inl (cI, 41, .inl m_u)), (mn, .inl (cJ, 41, .inr (.inl m_n))), (mm, .inl (cI, 41, .inl m_m)), (mo, .inl (cI, 14000, .inl m_o)), (mw, .inl (cI, 61, .inl m_w))] [0, 9, 1, 2, 3, 4, 5, 6, 7, 8] rfl rfl rfl (0) (0) (Nat.le_of_ble_eq_true rfl) (Nat.le_of_ble_eq_true rfl) ⟨(Nat.le_of_ble_eq_true rfl), (Nat.le_of_ble_eq_true rfl)⟩ dX10_goOver_24 ?_
    refine J_ldc O (pc := 27) mb_X10_goOver_3 dX10_goOver_27 ?_
    refine J_icmp_eq O (tgt := 38) (pc := 29) dX10_goOver_29 (by decide) (fun c29 => ?_) (fun c29 => ?_)
    · have hf := jt_t c29 hf
      refine J_sub [0] (lv' := [(0, .ref m)]) rfl ?_
      exact wk_X10_goOver_38 O m mt md mk ms mu mn mm mo mw m_tl m_dl m_c m_e m_ol m_t m_d m_k m_s m_u m_n m_m m_o fu m_fa m_f m_p m_is m_w hf
    · have hf := jt_f c29 hf
      refine J_aload_n O (i := 0) (k0 := 0) (pc := 32) 0 rfl rfl dX10_goOver_32 ?_
      refine J_iconst O (v := 2) (pc := 33) (by decide) dX10_goOver_33 ?_
      refine J_iconst O (v := 0) (pc := 34) (by decide) dX10_goOver_34 ?_
      obtain ⟨z35, h35, hf⟩ := jt_b hf
      refine J_callVv O (pc := 35) (c_X10_stop l D cB cI cJ m mt md mk ms mu mn mm mo mw m_tl m_dl m_c m_e m_ol m_fa m_f m_p m_is m_t m_d m_k m_s m_u m_n m_m m_o m_w 2 0 h35) rfl 0 rfl rfl gX10_goOver_X10_stop hdV_X10_stop ⟨(Nat.le_of_ble_eq_true rfl), (Nat.le_of_ble_eq_true rfl)⟩ rfl (st := []) rfl (Nat.le_of_ble_eq_true rfl) [0, 1, 2, 3, 4, 5, 6, 7, 8, 9] [] rfl rfl rfl rfl rfl (by decide) [(m, .inr (6, [.ref mt, .int m_tl, .ref md, .int m_dl, .ref mk, .ref ms, .int m_c, .ref mu, .ref mn, .ref mm, .int m_e, .ref mo, .int m_ol, .int z35.1, .int z35.2, .ref mw, .int m_p, .int m_is])), (mt, .inl (cI, 6000, .inl m_t)), (md, .inl (cI, 12000, .inl m_d)), (mk, .inl (cI, 61, .inl m_k)), (ms, .inl (cI, 61, .inl m_s)), (mu, .inl (cI, 41, .inl m_u)), (mn, .inl (cJ, 41, .inr (.inl m_n))), (mm, .inl (cI, 41, .inl m_m)), (mo, .inl (cI, 14000, .inl m_o)), (mw, .inl (cI, 61, .inl m_w))] [0, 1, 2, 3, 4, 5, 6, 7, 8, 9] rfl rfl rfl (0) (0) (Nat.le_of_ble_eq_true rfl) (Nat.le_of_ble_eq_true rfl) ⟨(Nat.le_of_ble_eq_true rfl), (Nat.le_of_ble_eq_true rfl)⟩ dX10_goOver_35 ?_
      refine J_sub [0] (lv' := [(0, .ref m)]) rfl ?_
      exact wk_X10_goOver_38 O m mt md mk ms mu mn mm mo mw m_tl m_dl m_c m_e m_ol m_t m_d m_k m_s m_u m_n m_m m_o fu z35.1 z35.2 m_p m_is m_w hf
  · have hf := jt_f c6 hf
    refine J_aload_n O (i := 0) (k0 := 0) (pc := 9) 0 rfl rfl dX10_goOver_9 ?_
    refine J_iconst O (v := 1) (pc := 10) (by decide) dX10_goOver_10 ?_
    refine J_aload_n O (i := 0) (k0 := 0) (pc := 11) 0 rfl rfl dX10_goOver_11 ?_
    refine J_get O (pc := 12) in_X10_goOver_X10 0 rfl rfl 1 (by decide) mb_X10_goOver_1 rfl dX10_goOver_12 ?_
    obtain ⟨z15, h15, hf⟩ := jt_b hf
    refine J_callVv O (pc := 15) (c_X10_stop l D cB cI cJ m mt md mk ms mu mn mm mo mw m_tl m_dl m_c m_e m_ol m_fa m_f m_p m_is m_t m_d m_k m_s m_u m_n m_m m_o m_w 1 m_tl h15) rfl 0 rfl rfl gX10_goOver_X10_stop hdV_X10_stop ⟨(Nat.le_of_ble_eq_true rfl), (Nat.le_of_ble_eq_true rfl)⟩ rfl (st := []) rfl (Nat.le_of_ble_eq_true rfl) [0, 1, 2, 3, 4, 5, 6, 7, 8, 9] [] rfl rfl rfl rfl rfl (by decide) [(m, .inr (6, [.ref mt, .int m_tl, .ref md, .int m_dl, .ref mk, .ref ms, .int m_c, .ref mu, .ref mn, .ref mm, .int m_e, .ref mo, .int m_ol, .int z15.1, .int z15.2, .ref mw, .int m_p, .int m_is])), (mt, .inl (cI, 6000, .inl m_t)), (md, .inl (cI, 12000, .inl m_d)), (mk, .inl (cI, 61, .inl m_k)), (ms, .inl (cI, 61, .inl m_s)), (mu, .inl (cI, 41, .inl m_u)), (mn, .inl (cJ, 41, .inr (.inl m_n))), (mm, .inl (cI, 41, .inl m_m)), (mo, .inl (cI, 14000, .inl m_o)), (mw, .inl (cI, 61, .inl m_w))] [0, 1, 2, 3, 4, 5, 6, 7, 8, 9] rfl rfl rfl (0) (0) (Nat.le_of_ble_eq_true rfl) (Nat.le_of_ble_eq_true rfl) ⟨(Nat.le_of_ble_eq_true rfl), (Nat.le_of_ble_eq_true rfl)⟩ dX10_goOver_15 ?_
    have e9 := Option.some.inj hf
    subst e9
    exact J_vret O (pc := 18) dX10_goOver_18
