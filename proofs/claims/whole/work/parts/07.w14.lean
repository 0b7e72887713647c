theorem in_X10_take_X10 : ∀ w ∈ u_ws RX10 TX10 18, w ∈ wsX10_take := fun _ h => List.mem_cons_of_mem _ (List.mem_append_right _ h)
theorem mb_X10_take_1 : Cond.fieldLink RX10 80 (TX10 16).1 (TX10 16).2.1 (TX10 16).2.2.1 ∈ wsX10_take := by decide +kernel
theorem mb_X10_take_2 : Cond.fieldLink RX10 113 (TX10 6).1 (TX10 6).2.1 (TX10 6).2.2.1 ∈ wsX10_take := by decide +kernel
theorem mb_X10_take_3 : Cond.fieldLink RX10 116 (TX10 3).1 (TX10 3).2.1 (TX10 3).2.2.1 ∈ wsX10_take := by decide +kernel
theorem mb_X10_take_4 : Cond.fieldLink RX10 87 (TX10 17).1 (TX10 17).2.1 (TX10 17).2.2.1 ∈ wsX10_take := by decide +kernel
theorem mb_X10_take_5 : Cond.fieldLink RX10 119 (TX10 10).1 (TX10 10).2.1 (TX10 10).2.2.1 ∈ wsX10_take := by decide +kernel
theorem mb_X10_take_6 : Cond.fieldLink RX10 22 (TX10 7).1 (TX10 7).2.1 (TX10 7).2.2.1 ∈ wsX10_take := by decide +kernel
theorem mb_X10_take_7 : Cond.fieldLink RX10 7 (TX10 0).1 (TX10 0).2.1 (TX10 0).2.2.1 ∈ wsX10_take := by decide +kernel
theorem mb_X10_take_8 : Cond.fieldLink RX10 25 (TX10 8).1 (TX10 8).2.1 (TX10 8).2.2.1 ∈ wsX10_take := by decide +kernel
theorem mb_X10_take_9 : Cond.fieldLink RX10 29 (TX10 9).1 (TX10 9).2.1 (TX10 9).2.2.1 ∈ wsX10_take := by decide +kernel
theorem mb_X10_take_10 : Cond.fieldLink RX10 39 (TX10 15).1 (TX10 15).2.1 (TX10 15).2.2.1 ∈ wsX10_take := by decide +kernel
theorem mb_X10_take_11 : Cond.fieldLink RX10 16 (TX10 4).1 (TX10 4).2.1 (TX10 4).2.2.1 ∈ wsX10_take := by decide +kernel
theorem mb_X10_take_12 : Cond.fieldLink RX10 19 (TX10 5).1 (TX10 5).2.1 (TX10 5).2.2.1 ∈ wsX10_take := by decide +kernel
theorem mb_X10_take_13 : Cond.fieldLink RX10 13 (TX10 2).1 (TX10 2).2.1 (TX10 2).2.2.1 ∈ wsX10_take := by decide +kernel
abbrev rmX10_take : Room := { frames := 2, cells := 0, slots := 0, locals := 42 }
set_option maxHeartbeats 4000000 in
set_option maxRecDepth 100000 in
theorem wk_X10_take_186 {X : JC} {l : Launch} {D : va_G} {cB cI cJ : ClassId} (O : Jo X (l, D, cB, cI, cJ) cX10_take 4 RX10 wsX10_take rmX10_take none) (m mt md mk ms mu mn mm mo mw : Nat) (m_tl : Int32) (m_ol : Int32) (m_fa : Int32) (m_f : Int32) (m_p : Int32) (m_is : Int32) (m_t : Nat → Int32) (m_o : Nat → Int32) (m_w : Nat → Int32) (fu : Nat) {z : Int32 × Int32 × Int32 × (Nat → Int32) × (Nat → Int32) × (Nat → Int32) × (Nat → Int32) × (Nat → Int64) × (Nat → Int32)} (k138 : Int32 → Int32 → Int32 → Int32 → (Nat → Int32) → (Nat → Int32) → (Nat → Int32) → (Nat → Int32) → (Nat → Int64) → (Nat → Int32) → Option (Int32 × Int32 × Int32 × (Nat → Int32) × (Nat → Int32) × (Nat → Int32) × (Nat → Int32) × (Nat → Int64) × (Nat → Int32))) (hk138 : ∀ (v1 : Int32) (m_dl : Int32) (m_c : Int32) (m_e : Int32) (m_d : Nat → Int32) (m_k : Nat → Int32) (m_s : Nat → Int32) (m_u : Nat → Int32) (m_n : Nat → Int64) (m_m : Nat → Int32), k138 v1 m_dl m_c m_e m_d m_k m_s m_u m_n m_m = some z → J X 4 (JQv X [(m, .inr (6, [.ref mt, .int m_tl, .ref md, .int z.1, .ref mk, .ref ms, .int z.2.1, .ref mu, .ref mn, .ref mm, .int z.2.2.1, .ref mo, .int m_ol, .int m_fa, .int m_f, .ref mw, .int m_p, .int m_is])), (mt, .inl (cI, 6000, .inl m_t)), (md, .inl (cI, 12000, .inl z.2.2.2.1)), (mk, .inl (cI, 61, .inl z.2.2.2.2.1)), (ms, .inl (cI, 61, .inl z.2.2.2.2.2.1)), (mu, .inl (cI, 41, .inl z.2.2.2.2.2.2.1)), (mn, .inl (cJ, 41, .inr (.inl z.2.2.2.2.2.2.2.1))), (mm, .inl (cI, 41, .inl z.2.2.2.2.2.2.2.2)), (mo, .inl (cI, 14000, .inl m_o)), (mw, .inl (cI, 61, .inl m_w))] 0 0) [(m, .inr (6, [.ref mt, .int m_tl, .ref md, .int m_dl, .ref mk, .ref ms, .int m_c, .ref mu, .ref mn, .ref mm, .int m_e, .ref mo, .int m_ol, .int m_fa, .int m_f, .ref mw, .int m_p, .int m_is])), (mt, .inl (cI, 6000, .inl m_t)), (md, .inl (cI, 12000, .inl m_d)), (mk, .inl (cI, 61, .inl m_k)), (ms, .inl (cI, 61, .inl m_s)), (mu, .inl (cI, 41, .inl m_u)), (mn, .inl (cJ, 41, .inr (.inl m_n))), (mm, .inl (cI, 41, .inl m_m)), (mo, .inl (cI, 14000, .inl m_o)), (mw, .inl (cI, 61, .inl m_w))] 0 0 138 [(0, .ref m), (1, .int v1)] []) : ∀ (fn : Nat) (v1 : Int32) (v2 : Int32) (v3 : Int32) (m_dl : Int32) (m_c : Int32) (m_e : Int32) (m_d : Nat → Int32) (m_k : Nat → Int32) (m_s : Nat → Int32) (m_u : Nat → Int32) (m_n : Nat → Int64) (m_m : Nat → Int32), p_X10_take_186 fu m_p m_is m_t m_w k138 fn v1 v2 v3 m_dl m_c m_e m_d m_k m_s m_u m_n m_m = some z → J X 4 (JQv X [(m, .inr (6, [.ref mt, .int m_tl, .ref md, .int z.1, .ref mk, .ref ms, .int z.2.1, .ref mu, .ref mn, .ref mm, .int z.2.2.1, .ref mo, .int m_ol, .int m_fa, .int m_f, .ref mw, .int m_p, .int m_is])), (mt, .inl (cI, 6000, .inl m_t)), (md, .inl (cI, 12000, .inl z.2.2.2.1)), (mk, .inl (cI, 61, .inl z.2.2.2.2.1)), (ms, .inl (cI, 61, .inl z.2.2.2.2.2.1)), (mu, .inl (cI, 41, .inl z.2.2.2.2.2.2.1)), (mn, .inl (cJ, 41, .inr (.inl z.2.2.2.2.2.2.2.1))), (mm, .inl (cI, 41, .inl z.2.2.2.2.2.2.2.2)), (mo, .inl (cI, 14000, .inl m_o)), (mw, .inl (cI, 61, .inl m_w))] 0 0) [(m, .inr (6, [.ref mt, .int m_tl, .ref md, .int m_dl, .ref mk, .ref ms, .int m_c, .ref mu, .ref mn, .ref mm, .int m_e, .ref mo, .int m_ol, .int m_fa, .int m_f, .ref mw, .int m_p, .int m_is])), (mt, .inl (cI, 6000, .inl m_t)), (md, .inl (cI, 12000, .inl m_d)), (mk, .inl (cI, 61, .inl m_k)), (ms, .inl (cI, 61, .inl m_s)), (mu, .inl (cI, 41, .inl m_u)), (mn, .inl (cJ, 41, .inr (.inl m_n))), (mm, .inl (cI, 41, .inl m_m)), (mo, .inl (cI, 14000, .inl m_o)), (mw, .inl (cI, 61, .inl m_w))] 0 0 186 [(0, .ref m), (1, .int v1), (2, .int v2), (3, .int v3)] [] := by
  intro fn
  induction fn with
  | zero =>
    intro v1 v2 v3 m_dl m_c m_e m_d m_k m_s m_u m_n m_m hf
    rw [p_X10_take_186] at hf
    exact jt_n hf
  | succ fn ih =>
    intro v1 v2 v3 m_dl m_c m_e m_d m_k m_s m_u m_n m_m hf
    rw [p_X10_take_186] at hf
    refine J_iload_n O (i := 3) (k0 := 3) (pc := 186) 3 rfl rfl dX10_take_186 ?_
    refine J_aload_n O (i := 0) (k0 := 0) (pc := 187) 0 rfl rfl dX10_take_187 ?_
    refine J_get O (pc := 188) in_X10_take_X10 0 rfl rfl 6 (by decide) mb_X10_take_2 rfl dX10_take_188 ?_
    refine J_icmp_ge O (tgt := 238) (pc := 191) dX10_take_191 (by decide) (fun c191 => ?_) (fun c191 => ?_)
    · have hf := jt_t c191 hf
      refine J_iinc O (i := 1) (n := 1) (v := v1 + 1) (pc := 238) 1 rfl [(1, .int (v1 + 1)), (0, .ref m), (2, .int v2), (3, .int v3)] (by decide) (congrArg (_ + ·) (by decide)) rfl dX10_take_238 ?_
      refine J_goto O (tgt := 138) (pc := 241) dX10_take_241 (by decide) ?_
      refine J_sub [1, 0] (lv' := [(0, .ref m), (1, .int (v1 + 1))]) rfl ?_
      exact hk138 (v1 + 1) m_dl m_c m_e m_d m_k m_s m_u m_n m_m hf
    · have hf := jt_f c191 hf
      refine J_aload_n O (i := 0) (k0 := 0) (pc := 194) 0 rfl rfl dX10_take_194 ?_
      refine J_get O (pc := 195) in_X10_take_X10 0 rfl rfl 9 (by decide) mb_X10_take_9 rfl dX10_take_195 ?_
      refine J_iload_n O (i := 1) (k0 := 1) (pc := 198) 1 rfl rfl dX10_take_198 ?_
      refine J_aload_n O (i := 0) (k0 := 0) (pc := 199) 0 rfl rfl dX10_take_199 ?_
      refine J_get O (pc := 200) in_X10_take_X10 0 rfl rfl 15 (by decide) mb_X10_take_10 rfl dX10_take_200 ?_
      refine J_iload_n O (i := 3) (k0 := 3) (pc := 203) 3 rfl rfl dX10_take_203 ?_
      obtain ⟨h204, hf⟩ := jt_g hf
      refine J_iald O (pc := 204) 9 1 rfl rfl h204 dX10_take_204 ?_
      refine J_i2l O (pc := 205) dX10_take_205 ?_
      refine J_aload_n O (i := 0) (k0 := 0) (pc := 206) 0 rfl rfl dX10_take_206 ?_
      refine J_get O (pc := 207) in_X10_take_X10 0 rfl rfl 0 (by decide) mb_X10_take_7 rfl dX10_take_207 ?_
      refine J_iload_n O (i := 2) (k0 := 2) (pc := 210) 2 rfl rfl dX10_take_210 ?_
      refine J_bipush O (v := 8) (pc := 211) (by decide) dX10_take_211 ?_
      refine J_iadd O (pc := 213) dX10_take_213 ?_
      obtain ⟨z214, h214, hf⟩ := jt_b hf
      refine J_callSl O (pc := 214) (c_X10_four l D cB cI cJ mt 6000 m_t (v2 + 8) h214) rfl gX10_take_X10_four hdS_X10_four ⟨(Nat.le_of_ble_eq_true rfl), (Nat.le_of_ble_eq_true rfl)⟩ rfl (st := [.long (Int32.toInt64 (m_w (Int32.toNatClampNeg v3))), .int v1, .ref mm]) rfl (Nat.le_of_ble_eq_true rfl) [1] [0, 2, 3, 4, 5, 6, 7, 8, 9] rfl rfl rfl rfl rfl (by decide) [(m, .inr (6, [.ref mt, .int m_tl, .ref md, .int m_dl, .ref mk, .ref ms, .int m_c, .ref mu, .ref mn, .ref mm, .int m_e, .ref mo, .int m_ol, .int m_fa, .int m_f, .ref mw, .int m_p, .int m_is])), (mt, .inl (cI, 6000, .inl m_t)), (md, .inl (cI, 12000, .inl m_d)), (mk, .inl (cI, 61, .inl m_k)), (ms, .inl (cI, 61, .inl m_s)), (mu, .inl (cI, 41, .inl m_u)), (mn, .inl (cJ, 41, .inr (.inl m_n))), (mm, .inl (cI, 41, .inl m_m)), (mo, .inl (cI, 14000, .inl m_o)), (mw, .inl (cI, 61, .inl m_w))] [0, 9, 1, 2, 3, 4, 5, 6, 7, 8] rfl rfl rfl (0) (0) (Nat.le_of_ble_eq_true rfl) (Nat.le_of_ble_eq_true rfl) ⟨(Nat.le_of_ble_eq_true rfl), (Nat.le_of_ble_eq_true rfl)⟩ dX10_take_214 ?_
      refine J_lif_ne O (tgt := 225) (pc := 217) dX10_take_217 dX10_take_218 (by decide) (fun c217 => ?_) (fun c217 => ?_)
      · have hf := jt_f c217 hf
        refine J_aload_n O (i := 0) (k0 := 0) (pc := 225) 0 rfl rfl dX10_take_225 ?_
        refine J_get O (pc := 226) in_X10_take_X10 0 rfl rfl 9 (by decide) mb_X10_take_9 rfl dX10_take_226 ?_
        refine J_iload_n O (i := 1) (k0 := 1) (pc := 229) 1 rfl rfl dX10_take_229 ?_
        obtain ⟨h230, hf⟩ := jt_g hf
        refine J_iald O (pc := 230) 7 1 rfl rfl h230 dX10_take_230 ?_
        obtain ⟨h231, hf⟩ := jt_g hf
        refine J_iast O (pc := 231) 7 1 rfl rfl h231 [(m, .inr (6, [.ref mt, .int m_tl, .ref md, .int m_dl, .ref mk, .ref ms, .int m_c, .ref mu, .ref mn, .ref mm, .int m_e, .ref mo, .int m_ol, .int m_fa, .int m_f, .ref mw, .int m_p, .int m_is])), (mt, .inl (cI, 6000, .inl m_t)), (md, .inl (cI, 12000, .inl m_d)), (mk, .inl (cI, 61, .inl m_k)), (ms, .inl (cI, 61, .inl m_s)), (mu, .inl (cI, 41, .inl m_u)), (mn, .inl (cJ, 41, .inr (.inl m_n))), (mm, .inl (cI, 41, .inl (upd m_m (Int32.toNatClampNeg v1) (m_m (Int32.toNatClampNeg v1))))), (mo, .inl (cI, 14000, .inl m_o)), (mw, .inl (cI, 61, .inl m_w))] rfl dX10_take_231 ?_
        refine J_iinc O (i := 3) (n := 1) (v := v3 + 1) (pc := 232) 3 rfl [(3, .int (v3 + 1)), (0, .ref m), (1, .int v1), (2, .int v2)] (by decide) (congrArg (_ + ·) (by decide)) rfl dX10_take_232 ?_
        refine J_goto O (tgt := 186) (pc := 235) dX10_take_235 (by decide) ?_
        refine J_sub [1, 2, 3, 0] (lv' := [(0, .ref m), (1, .int v1), (2, .int v2), (3, .int (v3 + 1))]) rfl ?_
        exact ih v1 v2 (v3 + 1) m_dl m_c m_e m_d m_k m_s m_u m_n (upd m_m (Int32.toNatClampNeg v1) (m_m (Int32.toNatClampNeg v1))) hf
      · have hf := jt_t c217 hf
        refine J_iload_n O (i := 3) (k0 := 3) (pc := 221) 3 rfl rfl dX10_take_221 ?_
        refine J_goto O (tgt := 231) (pc := 222) dX10_take_222 (by decide) ?_
        obtain ⟨h231, hf⟩ := jt_g hf
        refine J_iast O (pc := 231) 7 1 rfl rfl h231 [(m, .inr (6, [.ref mt, .int m_tl, .ref md, .int m_dl, .ref mk, .ref ms, .int m_c, .ref mu, .ref mn, .ref mm, .int m_e, .ref mo, .int m_ol, .int m_fa, .int m_f, .ref mw, .int m_p, .int m_is])), (mt, .inl (cI, 6000, .inl m_t)), (md, .inl (cI, 12000, .inl m_d)), (mk, .inl (cI, 61, .inl m_k)), (ms, .inl (cI, 61, .inl m_s)), (mu, .inl (cI, 41, .inl m_u)), (mn, .inl (cJ, 41, .inr (.inl m_n))), (mm, .inl (cI, 41, .inl (upd m_m (Int32.toNatClampNeg v1) v3))), (mo, .inl (cI, 14000, .inl m_o)), (mw, .inl (cI, 61, .inl m_w))] rfl dX10_take_231 ?_
        refine J_iinc O (i := 3) (n := 1) (v := v3 + 1) (pc := 232) 3 rfl [(3, .int (v3 + 1)), (0, .ref m), (1, .int v1), (2, .int v2)] (by decide) (congrArg (_ + ·) (by decide)) rfl dX10_take_232 ?_
        refine J_goto O (tgt := 186) (pc := 235) dX10_take_235 (by decide) ?_
        refine J_sub [1, 2, 3, 0] (lv' := [(0, .ref m), (1, .int v1), (2, .int v2), (3, .int (v3 + 1))]) rfl ?_
        exact ih v1 v2 (v3 + 1) m_dl m_c m_e m_d m_k m_s m_u m_n (upd m_m (Int32.toNatClampNeg v1) v3) hf
set_option maxHeartbeats 4000000 in
set_option maxRecDepth 100000 in
theorem wk_X10_take_138 {X : JC} {l : Launch} {D : va_G} {cB cI cJ : ClassId} (O : Jo X (l, D, cB, cI, cJ) cX10_take 4 RX10 wsX10_take rmX10_take none) (m mt md mk ms mu mn mm mo mw : Nat) (m_tl : Int32) (m_ol : Int32) (m_fa : Int32) (m_f : Int32) (m_p : Int32) (m_is : Int32) (m_t : Nat → Int32) (m_o : Nat → Int32) (m_w : Nat → Int32) (fu : Nat) {z : Int32 × Int32 × Int32 × (Nat → Int32) × (Nat → Int32) × (Nat → Int32) × (Nat → Int32) × (Nat → Int64) × (Nat → Int32)} : ∀ (fn : Nat) (v1 : Int32) (m_dl : Int32) (m_c : Int32) (m_e : Int32) (m_d : Nat → Int32) (m_k : Nat → Int32) (m_s : Nat → Int32) (m_u : Nat → Int32) (m_n : Nat → Int64) (m_m : Nat → Int32), p_X10_take_138 fu m_p m_is m_t m_w fn v1 m_dl m_c m_e m_d m_k m_s m_u m_n m_m = some z → J X 4 (JQv X [(m, .inr (6, [.ref mt, .int m_tl, .ref md, .int z.1, .ref mk, .ref ms, .int z.2.1, .ref mu, .ref mn, .ref mm, .int z.2.2.1, .ref mo, .int m_ol, .int m_fa, .int m_f, .ref mw, .int m_p, .int m_is])), (mt, .inl (cI, 6000, .inl m_t)), (md, .inl (cI, 12000, .inl z.2.2.2.1)), (mk, .inl (cI, 61, .inl z.2.2.2.2.1)), (ms, .inl (cI, 61, .inl z.2.2.2.2.2.1)), (mu, .inl (cI, 41, .inl z.2.2.2.2.2.2.1)), (mn, .inl (cJ, 41, .inr (.inl z.2.2.2.2.2.2.2.1))), (mm, .inl (cI, 41, .inl z.2.2.2.2.2.2.2.2)), (mo, .inl (cI, 14000, .inl m_o)), (mw, .inl (cI, 61, .inl m_w))] 0 0) [(m, .inr (6, [.ref mt, .int m_tl, .ref md, .int m_dl, .ref mk, .ref ms, .int m_c, .ref mu, .ref mn, .ref mm, .int m_e, .ref mo, .int m_ol, .int m_fa, .int m_f, .ref mw, .int m_p, .int m_is])), (mt, .inl (cI, 6000, .inl m_t)), (md, .inl (cI, 12000, .inl m_d)), (mk, .inl (cI, 61, .inl m_k)), (ms, .inl (cI, 61, .inl m_s)), (mu, .inl (cI, 41, .inl m_u)), (mn, .inl (cJ, 41, .inr (.inl m_n))), (mm, .inl (cI, 41, .inl m_m)), (mo, .inl (cI, 14000, .inl m_o)), (mw, .inl (cI, 61, .inl m_w))] 0 0 138 [(0, .ref m), (1, .int v1)] [] := by
  intro fn
  induction fn with
  | zero =>
    intro v1 m_dl m_c m_e m_d m_k m_s m_u m_n m_m hf
    rw [p_X10_take_138] at hf
    exact jt_n hf
  | succ fn ih =>
    intro v1 m_dl m_c m_e m_d m_k m_s m_u m_n m_m hf
    rw [p_X10_take_138] at hf
    refine J_iload_n O (i := 1) (k0 := 1) (pc := 138) 1 rfl rfl dX10_take_138 ?_
    refine J_aload_n O (i := 0) (k0 := 0) (pc := 139) 0 rfl rfl dX10_take_139 ?_
    refine J_get O (pc := 140) in_X10_take_X10 0 rfl rfl 10 (by decide) mb_X10_take_5 rfl dX10_take_140 ?_
    refine J_icmp_ge O (tgt := 244) (pc := 143) dX10_take_143 (by decide) (fun c143 => ?_) (fun c143 => ?_)
    · have hf := jt_t c143 hf
      have e9 := Option.some.inj hf
      subst e9
      exact J_vret O (pc := 244) dX10_take_244
    · have hf := jt_f c143 hf
      refine J_bipush O (v := 24) (pc := 146) (by decide) dX10_take_146 ?_
      refine J_bipush O (v := 12) (pc := 148) (by decide) dX10_take_148 ?_
      refine J_iload_n O (i := 1) (k0 := 1) (pc := 150) 1 rfl rfl dX10_take_150 ?_
      refine J_imul O (pc := 151) dX10_take_151 ?_
      refine J_iadd O (pc := 152) dX10_take_152 ?_
      refine J_istore_n O (i := 2) (k0 := 2) (pc := 153) rfl [(2, .int (24 + (12 * v1))), (0, .ref m), (1, .int v1)] (by decide) rfl dX10_take_153 ?_
      refine J_aload_n O (i := 0) (k0 := 0) (pc := 154) 1 rfl rfl dX10_take_154 ?_
      refine J_get O (pc := 155) in_X10_take_X10 0 rfl rfl 7 (by decide) mb_X10_take_6 rfl dX10_take_155 ?_
      refine J_iload_n O (i := 1) (k0 := 1) (pc := 158) 2 rfl rfl dX10_take_158 ?_
      refine J_aload_n O (i := 0) (k0 := 0) (pc := 159) 1 rfl rfl dX10_take_159 ?_
      refine J_get O (pc := 160) in_X10_take_X10 0 rfl rfl 0 (by decide) mb_X10_take_7 rfl dX10_take_160 ?_
      refine J_iload_n O (i := 2) (k0 := 2) (pc := 163) 0 rfl rfl dX10_take_163 ?_
      obtain ⟨z164, h164, hf⟩ := jt_b hf
      refine J_callSi O (pc := 164) (c_X10_kindIn l D cB cI cJ mt 6000 m_t (24 + (12 * v1)) h164) rfl gX10_take_X10_kindIn hdS_X10_kindIn ⟨(Nat.le_of_ble_eq_true rfl), (Nat.le_of_ble_eq_true rfl)⟩ rfl (st := [.int v1, .ref mu]) rfl (Nat.le_of_ble_eq_true rfl) [1] [0, 2, 3, 4, 5, 6, 7, 8, 9] rfl rfl rfl rfl rfl (by decide) [(m, .inr (6, [.ref mt, .int m_tl, .ref md, .int m_dl, .ref mk, .ref ms, .int m_c, .ref mu, .ref mn, .ref mm, .int m_e, .ref mo, .int m_ol, .int m_fa, .int m_f, .ref mw, .int m_p, .int m_is])), (mt, .inl (cI, 6000, .inl m_t)), (md, .inl (cI, 12000, .inl m_d)), (mk, .inl (cI, 61, .inl m_k)), (ms, .inl (cI, 61, .inl m_s)), (mu, .inl (cI, 41, .inl m_u)), (mn, .inl (cJ, 41, .inr (.inl m_n))), (mm, .inl (cI, 41, .inl m_m)), (mo, .inl (cI, 14000, .inl m_o)), (mw, .inl (cI, 61, .inl m_w))] [0, 9, 1, 2, 3, 4, 5, 6, 7, 8] rfl rfl rfl (0) (0) (Nat.le_of_ble_eq_true rfl) (Nat.le_of_ble_eq_true rfl) ⟨(Nat.le_of_ble_eq_true rfl), (Nat.le_of_ble_eq_true rfl)⟩ dX10_take_164 ?_
      obtain ⟨h167, hf⟩ := jt_g hf
      refine J_iast O (pc := 167) 5 1 rfl rfl h167 [(m, .inr (6, [.ref mt, .int m_tl, .ref md, .int m_dl, .ref mk, .ref ms, .int m_c, .ref mu, .ref mn, .ref mm, .int m_e, .ref mo, .int m_ol, .int m_fa, .int m_f, .ref mw, .int m_p, .int m_is])), (mt, .inl (cI, 6000, .inl m_t)), (md, .inl (cI, 12000, .inl m_d)), (mk, .inl (cI, 61, .inl m_k)), (ms, .inl (cI, 61, .inl m_s)), (mu, .inl (cI, 41, .inl (upd m_u (Int32.toNatClampNeg v1) z164))), (mn, .inl (cJ, 41, .inr (.inl m_n))), (mm, .inl (cI, 41, .inl m_m)), (mo, .inl (cI, 14000, .inl m_o)), (mw, .inl (cI, 61, .inl m_w))] rfl dX10_take_167 ?_
      refine J_aload_n O (i := 0) (k0 := 0) (pc := 168) 1 rfl rfl dX10_take_168 ?_
      refine J_get O (pc := 169) in_X10_take_X10 0 rfl rfl 8 (by decide) mb_X10_take_8 rfl dX10_take_169 ?_
      refine J_iload_n O (i := 1) (k0 := 1) (pc := 172) 2 rfl rfl dX10_take_172 ?_
      refine J_aload_n O (i := 0) (k0 := 0) (pc := 173) 1 rfl rfl dX10_take_173 ?_
      refine J_get O (pc := 174) in_X10_take_X10 0 rfl rfl 0 (by decide) mb_X10_take_7 rfl dX10_take_174 ?_
      refine J_iload_n O (i := 2) (k0 := 2) (pc := 177) 0 rfl rfl dX10_take_177 ?_
      refine J_iconst O (v := 4) (pc := 178) (by decide) dX10_take_178 ?_
      refine J_iadd O (pc := 179) dX10_take_179 ?_
      obtain ⟨z180, h180, hf⟩ := jt_b hf
      refine J_callSl O (pc := 180) (c_X10_four l D cB cI cJ mt 6000 m_t ((24 + (12 * v1)) + 4) h180) rfl gX10_take_X10_four hdS_X10_four ⟨(Nat.le_of_ble_eq_true rfl), (Nat.le_of_ble_eq_true rfl)⟩ rfl (st := [.int v1, .ref mn]) rfl (Nat.le_of_ble_eq_true rfl) [1] [0, 2, 3, 4, 5, 6, 7, 8, 9] rfl rfl rfl rfl rfl (by decide) [(m, .inr (6, [.ref mt, .int m_tl, .ref md, .int m_dl, .ref mk, .ref ms, .int m_c, .ref mu, .ref mn, .ref mm, .int m_e, .ref mo, .int m_ol, .int m_fa, .int m_f, .ref mw, .int m_p, .int m_is])), (mt, .inl (cI, 6000, .inl m_t)), (md, .inl (cI, 12000, .inl m_d)), (mk, .inl (cI, 61, .inl m_k)), (ms, .inl (cI, 61, .inl m_s)), (mu, .inl (cI, 41, .inl (upd m_u (Int32.toNatClampNeg v1) z164))), (mn, .inl (cJ, 41, .inr (.inl m_n))), (mm, .inl (cI, 41, .inl m_m)), (mo, .inl (cI, 14000, .inl m_o)), (mw, .inl (cI, 61, .inl m_w))] [0, 9, 1, 2, 3, 4, 5, 6, 7, 8] rfl rfl rfl (0) (0) (Nat.le_of_ble_eq_true rfl) (Nat.le_of_ble_eq_true rfl) ⟨(Nat.le_of_ble_eq_true rfl), (Nat.le_of_ble_eq_true rfl)⟩ dX10_take_180 ?_
      obtain ⟨h183, hf⟩ := jt_g hf
      refine J_last O (pc := 183) 6 2 rfl rfl h183 [(m, .inr (6, [.ref mt, .int m_tl, .ref md, .int m_dl, .ref mk, .ref ms, .int m_c, .ref mu, .ref mn, .ref mm, .int m_e, .ref mo, .int m_ol, .int m_fa, .int m_f, .ref mw, .int m_p, .int m_is])), (mt, .inl (cI, 6000, .inl m_t)), (md, .inl (cI, 12000, .inl m_d)), (mk, .inl (cI, 61, .inl m_k)), (ms, .inl (cI, 61, .inl m_s)), (mu, .inl (cI, 41, .inl (upd m_u (Int32.toNatClampNeg v1) z164))), (mn, .inl (cJ, 41, .inr (.inl (vp_updL m_n (Int32.toNatClampNeg v1) z180)))), (mm, .inl (cI, 41, .inl m_m)), (mo, .inl (cI, 14000, .inl m_o)), (mw, .inl (cI, 61, .inl m_w))] rfl dX10_take_183 ?_
      refine J_iconst O (v := 0) (pc := 184) (by decide) dX10_take_184 ?_
      refine J_istore_n O (i := 3) (k0 := 3) (pc := 185) rfl [(3, .int 0), (2, .int (24 + (12 * v1))), (0, .ref m), (1, .int v1)] (by decide) rfl dX10_take_185 ?_
      refine J_sub [2, 3, 1, 0] (lv' := [(0, .ref m), (1, .int v1), (2, .int (24 + (12 * v1))), (3, .int 0)]) rfl ?_
      exact wk_X10_take_186 O m mt md mk ms mu mn mm mo mw m_tl m_ol m_fa m_f m_p m_is m_t m_o m_w fu _ ih fu v1 (24 + (12 * v1)) 0 m_dl m_c m_e m_d m_k m_s (upd m_u (Int32.toNatClampNeg v1) z164) (vp_updL m_n (Int32.toNatClampNeg v1) z180) m_m hf
set_option maxHeartbeats 4000000 in
set_option maxRecDepth 100000 in
theorem wk_X10_take_66 {X : JC} {l : Launch} {D : va_G} {cB cI cJ : ClassId} (O : Jo X (l, D, cB, cI, cJ) cX10_take 4 RX10 wsX10_take rmX10_take none) (m mt md mk ms mu mn mm mo mw : Nat) (m_tl : Int32) (m_ol : Int32) (m_fa : Int32) (m_f : Int32) (m_p : Int32) (m_is : Int32) (m_t : Nat → Int32) (m_o : Nat → Int32) (m_w : Nat → Int32) (fu : Nat) {z : Int32 × Int32 × Int32 × (Nat → Int32) × (Nat → Int32) × (Nat → Int32) × (Nat → Int32) × (Nat → Int64) × (Nat → Int32)} (k15 : Int32 → Int32 → Int32 → Int32 → (Nat → Int32) → (Nat → Int32) → (Nat → Int32) → (Nat → Int32) → (Nat → Int64) → (Nat → Int32) → Option (Int32 × Int32 × Int32 × (Nat → Int32) × (Nat → Int32) × (Nat → Int32) × (Nat → Int32) × (Nat → Int64) × (Nat → Int32))) (hk15 : ∀ (v1 : Int32) (m_dl : Int32) (m_c : Int32) (m_e : Int32) (m_d : Nat → Int32) (m_k : Nat → Int32) (m_s : Nat → Int32) (m_u : Nat → Int32) (m_n : Nat → Int64) (m_m : Nat → Int32), k15 v1 m_dl m_c m_e m_d m_k m_s m_u m_n m_m = some z → J X 4 (JQv X [(m, .inr (6, [.ref mt, .int m_tl, .ref md, .int z.1, .ref mk, .ref ms, .int z.2.1, .ref mu, .ref mn, .ref mm, .int z.2.2.1, .ref mo, .int m_ol, .int m_fa, .int m_f, .ref mw, .int m_p, .int m_is])), (mt, .inl (cI, 6000, .inl m_t)), (md, .inl (cI, 12000, .inl z.2.2.2.1)), (mk, .inl (cI, 61, .inl z.2.2.2.2.1)), (ms, .inl (cI, 61, .inl z.2.2.2.2.2.1)), (mu, .inl (cI, 41, .inl z.2.2.2.2.2.2.1)), (mn, .inl (cJ, 41, .inr (.inl z.2.2.2.2.2.2.2.1))), (mm, .inl (cI, 41, .inl z.2.2.2.2.2.2.2.2)), (mo, .inl (cI, 14000, .inl m_o)), (mw, .inl (cI, 61, .inl m_w))] 0 0) [(m, .inr (6, [.ref mt, .int m_tl, .ref md, .int m_dl, .ref mk, .ref ms, .int m_c, .ref mu, .ref mn, .ref mm, .int m_e, .ref mo, .int m_ol, .int m_fa, .int m_f, .ref mw, .int m_p, .int m_is])), (mt, .inl (cI, 6000, .inl m_t)), (md, .inl (cI, 12000, .inl m_d)), (mk, .inl (cI, 61, .inl m_k)), (ms, .inl (cI, 61, .inl m_s)), (mu, .inl (cI, 41, .inl m_u)), (mn, .inl (cJ, 41, .inr (.inl m_n))), (mm, .inl (cI, 41, .inl m_m)), (mo, .inl (cI, 14000, .inl m_o)), (mw, .inl (cI, 61, .inl m_w))] 0 0 15 [(0, .ref m), (1, .int v1)] []) : ∀ (fn : Nat) (v1 : Int32) (v2 : Int32) (m_dl : Int32) (m_c : Int32) (m_e : Int32) (m_d : Nat → Int32) (m_k : Nat → Int32) (m_s : Nat → Int32) (m_u : Nat → Int32) (m_n : Nat → Int64) (m_m : Nat → Int32), p_X10_take_66 fu m_p m_is m_t m_w k15 fn v1 v2 m_dl m_c m_e m_d m_k m_s m_u m_n m_m = some z → J X 4 (JQv X [(m, .inr (6, [.ref mt, .int m_tl, .ref md, .int z.1, .ref mk, .ref ms, .int z.2.1, .ref mu, .ref mn, .ref mm, .int z.2.2.1, .ref mo, .int m_ol, .int m_fa, .int m_f, .ref mw, .int m_p, .int m_is])), (mt, .inl (cI, 6000, .inl m_t)), (md, .inl (cI, 12000, .inl z.2.2.2.1)), (mk, .inl (cI, 61, .inl z.2.2.2.2.1)), (ms, .inl (cI, 61, .inl z.2.2.2.2.2.1)), (mu, .inl (cI, 41, .inl z.2.2.2.2.2.2.1)), (mn, .inl (cJ, 41, .inr (.inl z.2.2.2.2.2.2.2.1))), (mm, .inl (cI, 41, .inl z.2.2.2.2.2.2.2.2)), (mo, .inl (cI, 14000, .inl m_o)), (mw, .inl (cI, 61, .inl m_w))] 0 0) [(m, .inr (6, [.ref mt, .int m_tl, .ref md, .int m_dl, .ref mk, .ref ms, .int m_c, .ref mu, .ref mn, .ref mm, .int m_e, .ref mo, .int m_ol, .int m_fa, .int m_f, .ref mw, .int m_p, .int m_is])), (mt, .inl (cI, 6000, .inl m_t)), (md, .inl (cI, 12000, .inl m_d)), (mk, .inl (cI, 61, .inl m_k)), (ms, .inl (cI, 61, .inl m_s)), (mu, .inl (cI, 41, .inl m_u)), (mn, .inl (cJ, 41, .inr (.inl m_n))), (mm, .inl (cI, 41, .inl m_m)), (mo, .inl (cI, 14000, .inl m_o)), (mw, .inl (cI, 61, .inl m_w))] 0 0 66 [(0, .ref m), (1, .int v1), (2, .int v2)] [] := by
  intro fn
  induction fn with
  | zero =>
    intro v1 v2 m_dl m_c m_e m_d m_k m_s m_u m_n m_m hf
    rw [p_X10_take_66] at hf
    exact jt_n hf
  | succ fn ih =>
    intro v1 v2 m_dl m_c m_e m_d m_k m_s m_u m_n m_m hf
    rw [p_X10_take_66] at hf
    refine J_iload_n O (i := 2) (k0 := 2) (pc := 66) 2 rfl rfl dX10_take_66 ?_
    refine J_aload_n O (i := 0) (k0 := 0) (pc := 67) 0 rfl rfl dX10_take_67 ?_
    refine J_get O (pc := 68) in_X10_take_X10 0 rfl rfl 5 (by decide) mb_X10_take_12 rfl dX10_take_68 ?_
    refine J_iload_n O (i := 1) (k0 := 1) (pc := 71) 1 rfl rfl dX10_take_71 ?_
    obtain ⟨h72, hf⟩ := jt_g hf
    refine J_iald O (pc := 72) 4 1 rfl rfl h72 dX10_take_72 ?_
    refine J_icmp_ge O (tgt := 117) (pc := 73) dX10_take_73 (by decide) (fun c73 => ?_) (fun c73 => ?_)
    · have hf := jt_t c73 hf
      refine J_iinc O (i := 1) (n := 1) (v := v1 + 1) (pc := 117) 1 rfl [(1, .int (v1 + 1)), (0, .ref m), (2, .int v2)] (by decide) (congrArg (_ + ·) (by decide)) rfl dX10_take_117 ?_
      refine J_goto O (tgt := 15) (pc := 120) dX10_take_120 (by decide) ?_
      refine J_sub [1, 0] (lv' := [(0, .ref m), (1, .int (v1 + 1))]) rfl ?_
      exact hk15 (v1 + 1) m_dl m_c m_e m_d m_k m_s m_u m_n m_m hf
    · have hf := jt_f c73 hf
      refine J_aload_n O (i := 0) (k0 := 0) (pc := 76) 0 rfl rfl dX10_take_76 ?_
      refine J_get O (pc := 77) in_X10_take_X10 0 rfl rfl 2 (by decide) mb_X10_take_13 rfl dX10_take_77 ?_
      refine J_aload_n O (i := 0) (k0 := 0) (pc := 80) 0 rfl rfl dX10_take_80 ?_
      refine J_get O (pc := 81) in_X10_take_X10 0 rfl rfl 3 (by decide) mb_X10_take_3 rfl dX10_take_81 ?_
      refine J_aload_n O (i := 0) (k0 := 0) (pc := 84) 0 rfl rfl dX10_take_84 ?_
      refine J_get O (pc := 85) in_X10_take_X10 0 rfl rfl 0 (by decide) mb_X10_take_7 rfl dX10_take_85 ?_
      refine J_aload_n O (i := 0) (k0 := 0) (pc := 88) 0 rfl rfl dX10_take_88 ?_
      refine J_get O (pc := 89) in_X10_take_X10 0 rfl rfl 15 (by decide) mb_X10_take_10 rfl dX10_take_89 ?_
      refine J_iload_n O (i := 1) (k0 := 1) (pc := 92) 1 rfl rfl dX10_take_92 ?_
      obtain ⟨h93, hf⟩ := jt_g hf
      refine J_iald O (pc := 93) 9 1 rfl rfl h93 dX10_take_93 ?_
      refine J_bipush O (v := 8) (pc := 94) (by decide) dX10_take_94 ?_
      refine J_iadd O (pc := 96) dX10_take_96 ?_
      refine J_iload_n O (i := 2) (k0 := 2) (pc := 97) 2 rfl rfl dX10_take_97 ?_
      refine J_iadd O (pc := 98) dX10_take_98 ?_
      obtain ⟨h99, hf⟩ := jt_g hf
      refine J_iald O (pc := 99) 1 1 rfl rfl h99 dX10_take_99 ?_
      obtain ⟨h100, hf⟩ := jt_g hf
      refine J_iast O (pc := 100) 2 1 rfl rfl h100 [(m, .inr (6, [.ref mt, .int m_tl, .ref md, .int m_dl, .ref mk, .ref ms, .int m_c, .ref mu, .ref mn, .ref mm, .int m_e, .ref mo, .int m_ol, .int m_fa, .int m_f, .ref mw, .int m_p, .int m_is])), (mt, .inl (cI, 6000, .inl m_t)), (md, .inl (cI, 12000, .inl (upd m_d (Int32.toNatClampNeg m_dl) (m_t (Int32.toNatClampNeg (((m_w (Int32.toNatClampNeg v1)) + 8) + v2)))))), (mk, .inl (cI, 61, .inl m_k)), (ms, .inl (cI, 61, .inl m_s)), (mu, .inl (cI, 41, .inl m_u)), (mn, .inl (cJ, 41, .inr (.inl m_n))), (mm, .inl (cI, 41, .inl m_m)), (mo, .inl (cI, 14000, .inl m_o)), (mw, .inl (cI, 61, .inl m_w))] rfl dX10_take_100 ?_
      refine J_aload_n O (i := 0) (k0 := 0) (pc := 101) 0 rfl rfl dX10_take_101 ?_
      refine J_dup O (pc := 102) rfl dX10_take_102 ?_
      refine J_get O (pc := 103) in_X10_take_X10 0 rfl rfl 3 (by decide) mb_X10_take_3 rfl dX10_take_103 ?_
      refine J_iconst O (v := 1) (pc := 106) (by decide) dX10_take_106 ?_
      refine J_iadd O (pc := 107) dX10_take_107 ?_
      refine J_put O (pc := 108) in_X10_take_X10 tyX10 tyX10_ok nmX10 0 rfl rfl 3 (by decide) mb_X10_take_3 rfl rfl rfl (Nat.le_of_ble_eq_true rfl) [(m, .inr (6, [.ref mt, .int m_tl, .ref md, .int (m_dl + 1), .ref mk, .ref ms, .int m_c, .ref mu, .ref mn, .ref mm, .int m_e, .ref mo, .int m_ol, .int m_fa, .int m_f, .ref mw, .int m_p, .int m_is])), (mt, .inl (cI, 6000, .inl m_t)), (md, .inl (cI, 12000, .inl (upd m_d (Int32.toNatClampNeg m_dl) (m_t (Int32.toNatClampNeg (((m_w (Int32.toNatClampNeg v1)) + 8) + v2)))))), (mk, .inl (cI, 61, .inl m_k)), (ms, .inl (cI, 61, .inl m_s)), (mu, .inl (cI, 41, .inl m_u)), (mn, .inl (cJ, 41, .inr (.inl m_n))), (mm, .inl (cI, 41, .inl m_m)), (mo, .inl (cI, 14000, .inl m_o)), (mw, .inl (cI, 61, .inl m_w))] rfl dX10_take_108 ?_
      refine J_iinc O (i := 2) (n := 1) (v := v2 + 1) (pc := 111) 2 rfl [(2, .int (v2 + 1)), (0, .ref m), (1, .int v1)] (by decide) (congrArg (_ + ·) (by decide)) rfl dX10_take_111 ?_
      refine J_goto O (tgt := 66) (pc := 114) dX10_take_114 (by decide) ?_
      refine J_sub [1, 2, 0] (lv' := [(0, .ref m), (1, .int v1), (2, .int (v2 + 1))]) rfl ?_
      exact ih v1 (v2 + 1) (m_dl + 1) m_c m_e (upd m_d (Int32.toNatClampNeg m_dl) (m_t (Int32.toNatClampNeg (((m_w (Int32.toNatClampNeg v1)) + 8) + v2)))) m_k m_s m_u m_n m_m hf
set_option maxHeartbeats 4000000 in
set_option maxRecDepth 100000 in
theorem wk_X10_take_15 {X : JC} {l : Launch} {D : va_G} {cB cI cJ : ClassId} (O : Jo X (l, D, cB, cI, cJ) cX10_take 4 RX10 wsX10_take rmX10_take none) (m mt md mk ms mu mn mm mo mw : Nat) (m_tl : Int32) (m_ol : Int32) (m_fa : Int32) (m_f : Int32) (m_p : Int32) (m_is : Int32) (m_t : Nat → Int32) (m_o : Nat → Int32) (m_w : Nat → Int32) (fu : Nat) {z : Int32 × Int32 × Int32 × (Nat → Int32) × (Nat → Int32) × (Nat → Int32) × (Nat → Int32) × (Nat → Int64) × (Nat → Int32)} : ∀ (fn : Nat) (v1 : Int32) (m_dl : Int32) (m_c : Int32) (m_e : Int32) (m_d : Nat → Int32) (m_k : Nat → Int32) (m_s : Nat → Int32) (m_u : Nat → Int32) (m_n : Nat → Int64) (m_m : Nat → Int32), p_X10_take_15 fu m_p m_is m_t m_w fn v1 m_dl m_c m_e m_d m_k m_s m_u m_n m_m = some z → J X 4 (JQv X [(m, .inr (6, [.ref mt, .int m_tl, .ref md, .int z.1, .ref mk, .ref ms, .int z.2.1, .ref mu, .ref mn, .ref mm, .int z.2.2.1, .ref mo, .int m_ol, .int m_fa, .int m_f, .ref mw, .int m_p, .int m_is])), (mt, .inl (cI, 6000, .inl m_t)), (md, .inl (cI, 12000, .inl z.2.2.2.1)), (mk, .inl (cI, 61, .inl z.2.2.2.2.1)), (ms, .inl (cI, 61, .inl z.2.2.2.2.2.1)), (mu, .inl (cI, 41, .inl z.2.2.2.2.2.2.1)), (mn, .inl (cJ, 41, .inr (.inl z.2.2.2.2.2.2.2.1))), (mm, .inl (cI, 41, .inl z.2.2.2.2.2.2.2.2)), (mo, .inl (cI, 14000, .inl m_o)), (mw, .inl (cI, 61, .inl m_w))] 0 0) [(m, .inr (6, [.ref mt, .int m_tl, .ref md, .int m_dl, .ref mk, .ref ms, .int m_c, .ref mu, .ref mn, .ref mm, .int m_e, .ref mo, .int m_ol, .int m_fa, .int m_f, .ref mw, .int m_p, .int m_is])), (mt, .inl (cI, 6000, .inl m_t)), (md, .inl (cI, 12000, .inl m_d)), (mk, .inl (cI, 61, .inl m_k)), (ms, .inl (cI, 61, .inl m_s)), (mu, .inl (cI, 41, .inl m_u)), (mn, .inl (cJ, 41, .inr (.inl m_n))), (mm, .inl (cI, 41, .inl m_m)), (mo, .inl (cI, 14000, .inl m_o)), (mw, .inl (cI, 61, .inl m_w))] 0 0 15 [(0, .ref m), (1, .int v1)] [] := by
  intro fn
  induction fn with
  | zero =>
    intro v1 m_dl m_c m_e m_d m_k m_s m_u m_n m_m hf
    rw [p_X10_take_15] at hf
    exact jt_n hf
  | succ fn ih =>
    intro v1 m_dl m_c m_e m_d m_k m_s m_u m_n m_m hf
    rw [p_X10_take_15] at hf
    refine J_iload_n O (i := 1) (k0 := 1) (pc := 15) 1 rfl rfl dX10_take_15 ?_
    refine J_aload_n O (i := 0) (k0 := 0) (pc := 16) 0 rfl rfl dX10_take_16 ?_
    refine J_get O (pc := 17) in_X10_take_X10 0 rfl rfl 6 (by decide) mb_X10_take_2 rfl dX10_take_17 ?_
    refine J_icmp_ge O (tgt := 123) (pc := 20) dX10_take_20 (by decide) (fun c20 => ?_) (fun c20 => ?_)
    · have hf := jt_t c20 hf
      refine J_aload_n O (i := 0) (k0 := 0) (pc := 123) 0 rfl rfl dX10_take_123 ?_
      refine J_aload_n O (i := 0) (k0 := 0) (pc := 124) 0 rfl rfl dX10_take_124 ?_
      refine J_get O (pc := 125) in_X10_take_X10 0 rfl rfl 17 (by decide) mb_X10_take_4 rfl dX10_take_125 ?_
      refine J_iconst O (v := 4) (pc := 128) (by decide) dX10_take_128 ?_
      refine J_isub O (pc := 129) dX10_take_129 ?_
      refine J_bipush O (v := 12) (pc := 130) (by decide) dX10_take_130 ?_
      refine J_idiv O (pc := 132) (by decide) dX10_take_132 ?_
      refine J_put O (pc := 133) in_X10_take_X10 tyX10 tyX10_ok nmX10 0 rfl rfl 10 (by decide) mb_X10_take_5 rfl rfl rfl (Nat.le_of_ble_eq_true rfl) [(m, .inr (6, [.ref mt, .int m_tl, .ref md, .int m_dl, .ref mk, .ref ms, .int m_c, .ref mu, .ref mn, .ref mm, .int ((m_is - 4) / 12), .ref mo, .int m_ol, .int m_fa, .int m_f, .ref mw, .int m_p, .int m_is])), (mt, .inl (cI, 6000, .inl m_t)), (md, .inl (cI, 12000, .inl m_d)), (mk, .inl (cI, 61, .inl m_k)), (ms, .inl (cI, 61, .inl m_s)), (mu, .inl (cI, 41, .inl m_u)), (mn, .inl (cJ, 41, .inr (.inl m_n))), (mm, .inl (cI, 41, .inl m_m)), (mo, .inl (cI, 14000, .inl m_o)), (mw, .inl (cI, 61, .inl m_w))] rfl dX10_take_133 ?_
      refine J_iconst O (v := 0) (pc := 136) (by decide) dX10_take_136 ?_
      refine J_istore_n O (i := 1) (k0 := 1) (pc := 137) rfl [(1, .int 0), (0, .ref m)] (by decide) rfl dX10_take_137 ?_
      refine J_sub [1, 0] (lv' := [(0, .ref m), (1, .int 0)]) rfl ?_
      exact wk_X10_take_138 O m mt md mk ms mu mn mm mo mw m_tl m_ol m_fa m_f m_p m_is m_t m_o m_w fu fu 0 m_dl m_c ((m_is - 4) / 12) m_d m_k m_s m_u m_n m_m hf
    · have hf := jt_f c20 hf
      refine J_aload_n O (i := 0) (k0 := 0) (pc := 23) 0 rfl rfl dX10_take_23 ?_
      refine J_get O (pc := 24) in_X10_take_X10 0 rfl rfl 4 (by decide) mb_X10_take_11 rfl dX10_take_24 ?_
      refine J_iload_n O (i := 1) (k0 := 1) (pc := 27) 1 rfl rfl dX10_take_27 ?_
      refine J_aload_n O (i := 0) (k0 := 0) (pc := 28) 0 rfl rfl dX10_take_28 ?_
      refine J_get O (pc := 29) in_X10_take_X10 0 rfl rfl 0 (by decide) mb_X10_take_7 rfl dX10_take_29 ?_
      refine J_aload_n O (i := 0) (k0 := 0) (pc := 32) 0 rfl rfl dX10_take_32 ?_
      refine J_get O (pc := 33) in_X10_take_X10 0 rfl rfl 15 (by decide) mb_X10_take_10 rfl dX10_take_33 ?_
      refine J_iload_n O (i := 1) (k0 := 1) (pc := 36) 1 rfl rfl dX10_take_36 ?_
      obtain ⟨h37, hf⟩ := jt_g hf
      refine J_iald O (pc := 37) 9 1 rfl rfl h37 dX10_take_37 ?_
      obtain ⟨z38, h38, hf⟩ := jt_b hf
      refine J_callSi O (pc := 38) (c_X10_kindIn l D cB cI cJ mt 6000 m_t (m_w (Int32.toNatClampNeg v1)) h38) rfl gX10_take_X10_kindIn hdS_X10_kindIn ⟨(Nat.le_of_ble_eq_true rfl), (Nat.le_of_ble_eq_true rfl)⟩ rfl (st := [.int v1, .ref mk]) rfl (Nat.le_of_ble_eq_true rfl) [1] [0, 2, 3, 4, 5, 6, 7, 8, 9] rfl rfl rfl rfl rfl (by decide) [(m, .inr (6, [.ref mt, .int m_tl, .ref md, .int m_dl, .ref mk, .ref ms, .int m_c, .ref mu, .ref mn, .ref mm, .int m_e, .ref mo, .int m_ol, .int m_fa, .int m_f, .ref mw, .int m_p, .int m_is])), (mt, .inl (cI, 6000, .inl m_t)), (md, .inl (cI, 12000, .inl m_d)), (mk, .inl (cI, 61, .inl m_k)), (ms, .inl (cI, 61, .inl m_s)), (mu, .inl (cI, 41, .inl m_u)), (mn, .inl (cJ, 41, .inr (.inl m_n))), (mm, .inl (cI, 41, .inl m_m)), (mo, .inl (cI, 14000, .inl m_o)), (mw, .inl (cI, 61, .inl m_w))] [0, 9, 1, 2, 3, 4, 5, 6, 7, 8] rfl rfl rfl (0) (0) (Nat.le_of_ble_eq_true rfl) (Nat.le_of_ble_eq_true rfl) ⟨(Nat.le_of_ble_eq_true rfl), (Nat.le_of_ble_eq_true rfl)⟩ dX10_take_38 ?_
      obtain ⟨h41, hf⟩ := jt_g hf
      refine J_iast O (pc := 41) 3 1 rfl rfl h41 [(m, .inr (6, [.ref mt, .int m_tl, .ref md, .int m_dl, .ref mk, .ref ms, .int m_c, .ref mu, .ref mn, .ref mm, .int m_e, .ref mo, .int m_ol, .int m_fa, .int m_f, .ref mw, .int m_p, .int m_is])), (mt, .inl (cI, 6000, .inl m_t)), (md, .inl (cI, 12000, .inl m_d)), (mk, .inl (cI, 61, .inl (upd m_k (Int32.toNatClampNeg v1) z38))), (ms, .inl (cI, 61, .inl m_s)), (mu, .inl (cI, 41, .inl m_u)), (mn, .inl (cJ, 41, .inr (.inl m_n))), (mm, .inl (cI, 41, .inl m_m)), (mo, .inl (cI, 14000, .inl m_o)), (mw, .inl (cI, 61, .inl m_w))] rfl dX10_take_41 ?_
      refine J_aload_n O (i := 0) (k0 := 0) (pc := 42) 0 rfl rfl dX10_take_42 ?_
      refine J_get O (pc := 43) in_X10_take_X10 0 rfl rfl 5 (by decide) mb_X10_take_12 rfl dX10_take_43 ?_
      refine J_iload_n O (i := 1) (k0 := 1) (pc := 46) 1 rfl rfl dX10_take_46 ?_
      refine J_aload_n O (i := 0) (k0 := 0) (pc := 47) 0 rfl rfl dX10_take_47 ?_
      refine J_get O (pc := 48) in_X10_take_X10 0 rfl rfl 0 (by decide) mb_X10_take_7 rfl dX10_take_48 ?_
      refine J_aload_n O (i := 0) (k0 := 0) (pc := 51) 0 rfl rfl dX10_take_51 ?_
      refine J_get O (pc := 52) in_X10_take_X10 0 rfl rfl 15 (by decide) mb_X10_take_10 rfl dX10_take_52 ?_
      refine J_iload_n O (i := 1) (k0 := 1) (pc := 55) 1 rfl rfl dX10_take_55 ?_
      obtain ⟨h56, hf⟩ := jt_g hf
      refine J_iald O (pc := 56) 9 1 rfl rfl h56 dX10_take_56 ?_
      refine J_iconst O (v := 4) (pc := 57) (by decide) dX10_take_57 ?_
      refine J_iadd O (pc := 58) dX10_take_58 ?_
      obtain ⟨z59, h59, hf⟩ := jt_b hf
      refine J_callSl O (pc := 59) (c_X10_four l D cB cI cJ mt 6000 m_t ((m_w (Int32.toNatClampNeg v1)) + 4) h59) rfl gX10_take_X10_four hdS_X10_four ⟨(Nat.le_of_ble_eq_true rfl), (Nat.le_of_ble_eq_true rfl)⟩ rfl (st := [.int v1, .ref ms]) rfl (Nat.le_of_ble_eq_true rfl) [1] [0, 2, 3, 4, 5, 6, 7, 8, 9] rfl rfl rfl rfl rfl (by decide) [(m, .inr (6, [.ref mt, .int m_tl, .ref md, .int m_dl, .ref mk, .ref ms, .int m_c, .ref mu, .ref mn, .ref mm, .int m_e, .ref mo, .int m_ol, .int m_fa, .int m_f, .ref mw, .int m_p, .int m_is])), (mt, .inl (cI, 6000, .inl m_t)), (md, .inl (cI, 12000, .inl m_d)), (mk, .inl (cI, 61, .inl (upd m_k (Int32.toNatClampNeg v1) z38))), (ms, .inl (cI, 61, .inl m_s)), (mu, .inl (cI, 41, .inl m_u)), (mn, .inl (cJ, 41, .inr (.inl m_n))), (mm, .inl (cI, 41, .inl m_m)), (mo, .inl (cI, 14000, .inl m_o)), (mw, .inl (cI, 61, .inl m_w))] [0, 9, 1, 2, 3, 4, 5, 6, 7, 8] rfl rfl rfl (0) (0) (Nat.le_of_ble_eq_true rfl) (Nat.le_of_ble_eq_true rfl) ⟨(Nat.le_of_ble_eq_true rfl), (Nat.le_of_ble_eq_true rfl)⟩ dX10_take_59 ?_
      refine J_l2i O (pc := 62) dX10_take_62 ?_
      obtain ⟨h63, hf⟩ := jt_g hf
      refine J_iast O (pc := 63) 4 1 rfl rfl h63 [(m, .inr (6, [.ref mt, .int m_tl, .ref md, .int m_dl, .ref mk, .ref ms, .int m_c, .ref mu, .ref mn, .ref mm, .int m_e, .ref mo, .int m_ol, .int m_fa, .int m_f, .ref mw, .int m_p, .int m_is])), (mt, .inl (cI, 6000, .inl m_t)), (md, .inl (cI, 12000, .inl m_d)), (mk, .inl (cI, 61, .inl (upd m_k (Int32.toNatClampNeg v1) z38))), (ms, .inl (cI, 61, .inl (upd m_s (Int32.toNatClampNeg v1) (Int64.toInt32 z59)))), (mu, .inl (cI, 41, .inl m_u)), (mn, .inl (cJ, 41, .inr (.inl m_n))), (mm, .inl (cI, 41, .inl m_m)), (mo, .inl (cI, 14000, .inl m_o)), (mw, .inl (cI, 61, .inl m_w))] rfl dX10_take_63 ?_
      refine J_iconst O (v := 0) (pc := 64) (by decide) dX10_take_64 ?_
      refine J_istore_n O (i := 2) (k0 := 2) (pc := 65) rfl [(2, .int 0), (0, .ref m), (1, .int v1)] (by decide) rfl dX10_take_65 ?_
      refine J_sub [1, 2, 0] (lv' := [(0, .ref m), (1, .int v1), (2, .int 0)]) rfl ?_
      exact wk_X10_take_66 O m mt md mk ms mu mn mm mo mw m_tl m_ol m_fa m_f m_p m_is m_t m_o m_w fu _ ih fu v1 0 m_dl m_c m_e m_d (upd m_k (Int32.toNatClampNeg v1) z38) (upd m_s (Int32.toNatClampNeg v1) (Int64.toInt32 z59)) m_u m_n m_m hf
set_option maxHeartbeats 4000000 in
set_option maxRecDepth 100000 in
theorem c_X10_take (l : Launch) (D : va_G) (cB cI cJ : ClassId) (m mt md mk ms mu mn mm mo mw : Nat) (m_tl : Int32) (m_dl : Int32) (m_c : Int32) (m_e : Int32) (m_ol : Int32) (m_fa : Int32) (m_f : Int32) (m_p : Int32) (m_is : Int32) (m_t : Nat → Int32) (m_d : Nat → Int32) (m_k : Nat → Int32) (m_s : Nat → Int32) (m_u : Nat → Int32) (m_n : Nat → Int64) (m_m : Nat → Int32) (m_o : Nat → Int32) (m_w : Nat → Int32) (fu : Nat) {z : Int32 × Int32 × Int32 × (Nat → Int32) × (Nat → Int32) × (Nat → Int32) × (Nat → Int32) × (Nat → Int64) × (Nat → Int32)} (hf : p_X10_take fu m_dl m_c m_e m_p m_is m_t m_d m_k m_s m_u m_n m_m m_w = some z) : Cv (l, D, cB, cI, cJ) yX10_take wsX10_take rmX10_take [.ref m] [(m, .inr (6, [.ref mt, .int m_tl, .ref md, .int m_dl, .ref mk, .ref ms, .int m_c, .ref mu, .ref mn, .ref mm, .int m_e, .ref mo, .int m_ol, .int m_fa, .int m_f, .ref mw, .int m_p, .int m_is])), (mt, .inl (cI, 6000, .inl m_t)), (md, .inl (cI, 12000, .inl m_d)), (mk, .inl (cI, 61, .inl m_k)), (ms, .inl (cI, 61, .inl m_s)), (mu, .inl (cI, 41, .inl m_u)), (mn, .inl (cJ, 41, .inr (.inl m_n))), (mm, .inl (cI, 41, .inl m_m)), (mo, .inl (cI, 14000, .inl m_o)), (mw, .inl (cI, 61, .inl m_w))] [(m, .inr (6, [.ref mt, .int m_tl, .ref md, .int z.1, .ref mk, .ref ms, .int z.2.1, .ref mu, .ref mn, .ref mm, .int z.2.2.1, .ref mo, .int m_ol, .int m_fa, .int m_f, .ref mw, .int m_p, .int m_is])), (mt, .inl (cI, 6000, .inl m_t)), (md, .inl (cI, 12000, .inl z.2.2.2.1)), (mk, .inl (cI, 61, .inl z.2.2.2.2.1)), (ms, .inl (cI, 61, .inl z.2.2.2.2.2.1)), (mu, .inl (cI, 41, .inl z.2.2.2.2.2.2.1)), (mn, .inl (cJ, 41, .inr (.inl z.2.2.2.2.2.2.2.1))), (mm, .inl (cI, 41, .inl z.2.2.2.2.2.2.2.2)), (mo, .inl (cI, 14000, .inl m_o)), (mw, .inl (cI, 61, .inl m_w))] := by
  refine Cv_of (cc := cX10_take) (nL := 4) (own := RX10) (ret := none) (by decide) rfl rfl (Nat.le_of_ble_eq_true rfl) (fun X O hnm0 => ?_)
  rw [p_X10_take] at hf
  show J X 4 (JQv X [(m, .inr (6, [.ref mt, .int m_tl, .ref md, .int z.1, .ref mk, .ref ms, .int z.2.1, .ref mu, .ref mn, .ref mm, .int z.2.2.1, .ref mo, .int m_ol, .int m_fa, .int m_f, .ref mw, .int m_p, .int m_is])), (mt, .inl (cI, 6000, .inl m_t)), (md, .inl (cI, 12000, .inl z.2.2.2.1)), (mk, .inl (cI, 61, .inl z.2.2.2.2.1)), (ms, .inl (cI, 61, .inl z.2.2.2.2.2.1)), (mu, .inl (cI, 41, .inl z.2.2.2.2.2.2.1)), (mn, .inl (cJ, 41, .inr (.inl z.2.2.2.2.2.2.2.1))), (mm, .inl (cI, 41, .inl z.2.2.2.2.2.2.2.2)), (mo, .inl (cI, 14000, .inl m_o)), (mw, .inl (cI, 61, .inl m_w))] 0 0) [(m, .inr (6, [.ref mt, .int m_tl, .ref md, .int m_dl, .ref mk, .ref ms, .int m_c, .ref mu, .ref mn, .ref mm, .int m_e, .ref mo, .int m_ol, .int m_fa, .int m_f, .ref mw, .int m_p, .int m_is])), (mt, .inl (cI, 6000, .inl m_t)), (md, .inl (cI, 12000, .inl m_d)), (mk, .inl (cI, 61, .inl m_k)), (ms, .inl (cI, 61, .inl m_s)), (mu, .inl (cI, 41, .inl m_u)), (mn, .inl (cJ, 41, .inr (.inl m_n))), (mm, .inl (cI, 41, .inl m_m)), (mo, .inl (cI, 14000, .inl m_o)), (mw, .inl (cI, 61, .inl m_w))] 0 0 0 [(0, .ref m)] []
  refine J_aload_n O (i := 0) (k0 := 0) (pc := 0) 0 rfl rfl dX10_take_0 ?_
  refine J_aload_n O (i := 0) (k0 := 0) (pc := 1) 0 rfl rfl dX10_take_1 ?_
  refine J_get O (pc := 2) in_X10_take_X10 0 rfl rfl 16 (by decide) mb_X10_take_1 rfl dX10_take_2 ?_
  refine J_put O (pc := 5) in_X10_take_X10 tyX10 tyX10_ok nmX10 0 rfl rfl 6 (by decide) mb_X10_take_2 rfl rfl rfl (Nat.le_of_ble_eq_true rfl) [(m, .inr (6, [.ref mt, .int m_tl, .ref md, .int m_dl, .ref mk, .ref ms, .int m_p, .ref mu, .ref mn, .ref mm, .int m_e, .ref mo, .int m_ol, .int m_fa, .int m_f, .ref mw, .int m_p, .int m_is])), (mt, .inl (cI, 6000, .inl m_t)), (md, .inl (cI, 12000, .inl m_d)), (mk, .inl (cI, 61, .inl m_k)), (ms, .inl (cI, 61, .inl m_s)), (mu, .inl (cI, 41, .inl m_u)), (mn, .inl (cJ, 41, .inr (.inl m_n))), (mm, .inl (cI, 41, .inl m_m)), (mo, .inl (cI, 14000, .inl m_o)), (mw, .inl (cI, 61, .inl m_w))] rfl dX10_take_5 ?_
  refine J_aload_n O (i := 0) (k0 := 0) (pc := 8) 0 rfl rfl dX10_take_8 ?_
  refine J_iconst O (v := 0) (pc := 9) (by decide) dX10_take_9 ?_
  refine J_put O (pc := 10) in_X10_take_X10 tyX10 tyX10_ok nmX10 0 rfl rfl 3 (by decide) mb_X10_take_3 rfl rfl rfl (Nat.le_of_ble_eq_true rfl) [(m, .inr (6, [.ref mt, .int m_tl, .ref md, .int 0, .ref mk, .ref ms, .int m_p, .ref mu, .ref mn, .ref mm, .int m_e, .ref mo, .int m_ol, .int m_fa, .int m_f, .ref mw, .int m_p, .int m_is])), (mt, .inl (cI, 6000, .inl m_t)), (md, .inl (cI, 12000, .inl m_d)), (mk, .inl (cI, 61, .inl m_k)), (ms, .inl (cI, 61, .inl m_s)), (mu, .inl (cI, 41, .inl m_u)), (mn, .inl (cJ, 41, .inr (.inl m_n))), (mm, .inl (cI, 41, .inl m_m)), (mo, .inl (cI, 14000, .inl m_o)), (mw, .inl (cI, 61, .inl m_w))] rfl dX10_take_10 ?_
  refine J_iconst O (v := 0) (pc := 13) (by decide) dX10_take_13 ?_
  refine J_istore_n O (i := 1) (k0 := 1) (pc := 14) rfl [(1, .int 0), (0, .ref m)] (by decide) rfl dX10_take_14 ?_
  refine J_sub [1, 0] (lv' := [(0, .ref m), (1, .int 0)]) rfl ?_
  exact wk_X10_take_15 O m mt md mk ms mu mn mm mo mw m_tl m_ol m_fa m_f m_p m_is m_t m_o m_w fu fu 0 0 m_p m_e m_d m_k m_s m_u m_n m_m hf
theorem in_X10_read_X10 : ∀ w ∈ u_ws RX10 TX10 18, w ∈ wsX10_read := fun _ h => List.mem_cons_of_mem _ (List.mem_append_right _ h)
theorem mb_X10_read_1 : Cond.fieldLink RX10 67 (TX10 14).1 (TX10 14).2.1 (TX10 14).2.2.1 ∈ wsX10_read := by decide +kernel
theorem mb_X10_read_2 : Cond.fieldLink RX10 35 (TX10 13).1 (TX10 13).2.1 (TX10 13).2.2.1 ∈ wsX10_read := by decide +kernel
theorem hdV_X10_goOver : yX10_goOver.cls = RX10 ∧ yX10_goOver.cls ≠ "java/lang/invoke/MethodHandle" ∧ yX10_goOver.cls ≠ "java/lang/invoke/VarHandle" ∧ (parseMethodDescriptor yX10_goOver.desc).map (fun d => d.parameters.length) = some 0 := by decide +kernel
theorem mb_X10_read_3 : Cond.fieldLink RX10 58 (TX10 1).1 (TX10 1).2.1 (TX10 1).2.2.1 ∈ wsX10_read := by decide +kernel
theorem mb_X10_read_4 : Cond.fieldLink RX10 113 (TX10 6).1 (TX10 6).2.1 (TX10 6).2.2.1 ∈ wsX10_read := by decide +kernel
theorem hdV_X10_take : yX10_take.cls = RX10 ∧ yX10_take.cls ≠ "java/lang/invoke/MethodHandle" ∧ yX10_take.cls ≠ "java/lang/invoke/VarHandle" ∧ (parseMethodDescriptor yX10_take.desc).map (fun d => d.parameters.length) = some 0 := by decide +kernel
abbrev rmX10_read : Room := { frames := 4, cells := 0, slots := 0, locals := 94 }
set_option maxHeartbeats 4000000 in
set_option maxRecDepth 100000 in
theorem c_X10_read (l : Launch) (D : va_G) (cB cI cJ : ClassId) (m mt md mk ms mu mn mm mo mw : Nat) (m_tl : Int32) (m_dl : Int32) (m_c : Int32) (m_e : Int32) (m_ol : Int32) (m_fa : Int32) (m_f : Int32) (m_p : Int32) (m_is : Int32) (m_t : Nat → Int32) (m_d : Nat → Int32) (m_k : Nat → Int32) (m_s : Nat → Int32) (m_u : Nat → Int32) (m_n : Nat → Int64) (m_m : Nat → Int32) (m_o : Nat → Int32) (m_w : Nat → Int32) (fu : Nat) {z : Int32 × Int32 × Int32 × Int32 × Int32 × Int32 × Int32 × Int32 × Int32 × (Nat → Int32) × (Nat → Int32) × (Nat → Int32) × (Nat → Int32) × (Nat → Int64) × (Nat → Int32) × (Nat → Int32)} (hf : p_X10_read fu m_tl m_dl m_c m_e m_fa m_f m_p m_is m_t m_d m_k m_s m_u m_n m_m m_w = some z) : Ci (l, D, cB, cI, cJ) yX10_read wsX10_read rmX10_read [.ref m] [(m, .inr (6, [.ref mt, .int m_tl, .ref md, .int m_dl, .ref mk, .ref ms, .int m_c, .ref mu, .ref mn, .ref mm, .int m_e, .ref mo, .int m_ol, .int m_fa, .int m_f, .ref mw, .int m_p, .int m_is])), (mt, .inl (cI, 6000, .inl m_t)), (md, .inl (cI, 12000, .inl m_d)), (mk, .inl (cI, 61, .inl m_k)), (ms, .inl (cI, 61, .inl m_s)), (mu, .inl (cI, 41, .inl m_u)), (mn, .inl (cJ, 41, .inr (.inl m_n))), (mm, .inl (cI, 41, .inl m_m)), (mo, .inl (cI, 14000, .inl m_o)), (mw, .inl (cI, 61, .inl m_w))] [(m, .inr (6, [.ref mt, .int z.2.1, .ref md, .int z.2.2.1, .ref mk, .ref ms, .int z.2.2.2.1, .ref mu, .ref mn, .ref mm, .int z.2.2.2.2.1, .ref mo, .int m_ol, .int z.2.2.2.2.2.1, .int z.2.2.2.2.2.2.1, .ref mw, .int z.2.2.2.2.2.2.2.1, .int z.2.2.2.2.2.2.2.2.1])), (mt, .inl (cI, 6000, .inl m_t)), (md, .inl (cI, 12000, .inl z.2.2.2.2.2.2.2.2.2.1)), (mk, .inl (cI, 61, .inl z.2.2.2.2.2.2.2.2.2.2.1)), (ms, .inl (cI, 61, .inl z.2.2.2.2.2.2.2.2.2.2.2.1)), (mu, .inl (cI, 41, .inl z.2.2.2.2.2.2.2.2.2.2.2.2.1)), (mn, .inl (cJ, 41, .inr (.inl z.2.2.2.2.2.2.2.2.2.2.2.2.2.1))), (mm, .inl (cI, 41, .inl z.2.2.2.2.2.2.2.2.2.2.2.2.2.2.1)), (mo, .inl (cI, 14000, .inl m_o)), (mw, .inl (cI, 61, .inl z.2.2.2.2.2.2.2.2.2.2.2.2.2.2.2))] z.1 := by
  refine Ci_of (cc := cX10_read) (nL := 1) (own := RX10) (ret := (some .int)) (by decide) rfl rfl (Nat.le_of_ble_eq_true rfl) (fun X O hnm0 => ?_)
  rw [p_X10_read] at hf
  show J X 1 (JQi X [(m, .inr (6, [.ref mt, .int z.2.1, .ref md, .int z.2.2.1, .ref mk, .ref ms, .int z.2.2.2.1, .ref mu, .ref mn, .ref mm, .int z.2.2.2.2.1, .ref mo, .int m_ol, .int z.2.2.2.2.2.1, .int z.2.2.2.2.2.2.1, .ref mw, .int z.2.2.2.2.2.2.2.1, .int z.2.2.2.2.2.2.2.2.1])), (mt, .inl (cI, 6000, .inl m_t)), (md, .inl (cI, 12000, .inl z.2.2.2.2.2.2.2.2.2.1)), (mk, .inl (cI, 61, .inl z.2.2.2.2.2.2.2.2.2.2.1)), (ms, .inl (cI, 61, .inl z.2.2.2.2.2.2.2.2.2.2.2.1)), (mu, .inl (cI, 41, .inl z.2.2.2.2.2.2.2.2.2.2.2.2.1)), (mn, .inl (cJ, 41, .inr (.inl z.2.2.2.2.2.2.2.2.2.2.2.2.2.1))), (mm, .inl (cI, 41, .inl z.2.2.2.2.2.2.2.2.2.2.2.2.2.2.1)), (mo, .inl (cI, 14000, .inl m_o)), (mw, .inl (cI, 61, .inl z.2.2.2.2.2.2.2.2.2.2.2.2.2.2.2))] z.1 0 0) [(m, .inr (6, [.ref mt, .int m_tl, .ref md, .int m_dl, .ref mk, .ref ms, .int m_c, .ref mu, .ref mn, .ref mm, .int m_e, .ref mo, .int m_ol, .int m_fa, .int m_f, .ref mw, .int m_p, .int m_is])), (mt, .inl (cI, 6000, .inl m_t)), (md, .inl (cI, 12000, .inl m_d)), (mk, .inl (cI, 61, .inl m_k)), (ms, .inl (cI, 61, .inl m_s)), (mu, .inl (cI, 41, .inl m_u)), (mn, .inl (cJ, 41, .inr (.inl m_n))), (mm, .inl (cI, 41, .inl m_m)), (mo, .inl (cI, 14000, .inl m_o)), (mw, .inl (cI, 61, .inl m_w))] 0 0 0 [(0, .ref m)] []
  refine J_aload_n O (i := 0) (k0 := 0) (pc := 0) 0 rfl rfl dX10_read_0 ?_
  refine J_iconst O (v := 0) (pc := 1) (by decide) dX10_read_1 ?_
  refine J_put O (pc := 2) in_X10_read_X10 tyX10 tyX10_ok nmX10 0 rfl rfl 14 (by decide) mb_X10_read_1 rfl rfl rfl (Nat.le_of_ble_eq_true rfl) [(m, .inr (6, [.ref mt, .int m_tl, .ref md, .int m_dl, .ref mk, .ref ms, .int m_c, .ref mu, .ref mn, .ref mm, .int m_e, .ref mo, .int m_ol, .int m_fa, .int 0, .ref mw, .int m_p, .int m_is])), (mt, .inl (cI, 6000, .inl m_t)), (md, .inl (cI, 12000, .inl m_d)), (mk, .inl (cI, 61, .inl m_k)), (ms, .inl (cI, 61, .inl m_s)), (mu, .inl (cI, 41, .inl m_u)), (mn, .inl (cJ, 41, .inr (.inl m_n))), (mm, .inl (cI, 41, .inl m_m)), (mo, .inl (cI, 14000, .inl m_o)), (mw, .inl (cI, 61, .inl m_w))] rfl dX10_read_2 ?_
  refine J_aload_n O (i := 0) (k0 := 0) (pc := 5) 0 rfl rfl dX10_read_5 ?_
  refine J_bipush O (v := (-2)) (pc := 6) (by decide) dX10_read_6 ?_
  refine J_put O (pc := 8) in_X10_read_X10 tyX10 tyX10_ok nmX10 0 rfl rfl 13 (by decide) mb_X10_read_2 rfl rfl rfl (Nat.le_of_ble_eq_true rfl) [(m, .inr (6, [.ref mt, .int m_tl, .ref md, .int m_dl, .ref mk, .ref ms, .int m_c, .ref mu, .ref mn, .ref mm, .int m_e, .ref mo, .int m_ol, .int (-2), .int 0, .ref mw, .int m_p, .int m_is])), (mt, .inl (cI, 6000, .inl m_t)), (md, .inl (cI, 12000, .inl m_d)), (mk, .inl (cI, 61, .inl m_k)), (ms, .inl (cI, 61, .inl m_s)), (mu, .inl (cI, 41, .inl m_u)), (mn, .inl (cJ, 41, .inr (.inl m_n))), (mm, .inl (cI, 41, .inl m_m)), (mo, .inl (cI, 14000, .inl m_o)), (mw, .inl (cI, 61, .inl m_w))] rfl dX10_read_8 ?_
  refine J_aload_n O (i := 0) (k0 := 0) (pc := 11) 0 rfl rfl dX10_read_11 ?_
  obtain ⟨z12, h12, hf⟩ := jt_b hf
  refine J_callVv O (pc := 12) (c_X10_goOver l D cB cI cJ m mt md mk ms mu mn mm mo mw m_tl m_dl m_c m_e m_ol (-2) 0 m_p m_is m_t m_d m_k m_s m_u m_n m_m m_o m_w fu h12) rfl 0 rfl rfl gX10_read_X10_goOver hdV_X10_goOver ⟨(Nat.le_of_ble_eq_true rfl), (Nat.le_of_ble_eq_true rfl)⟩ rfl (st := []) rfl (Nat.le_of_ble_eq_true rfl) [0, 1, 2, 3, 4, 5, 6, 7, 8, 9] [] rfl rfl rfl rfl rfl (by decide) [(m, .inr (6, [.ref mt, .int m_tl, .ref md, .int m_dl, .ref mk, .ref ms, .int m_c, .ref mu, .ref mn, .ref mm, .int m_e, .ref mo, .int m_ol, .int z12.1, .int z12.2.1, .ref mw, .int z12.2.2.1, .int z12.2.2.2.1])), (mt, .inl (cI, 6000, .inl m_t)), (md, .inl (cI, 12000, .inl m_d)), (mk, .inl (cI, 61, .inl m_k)), (ms, .inl (cI, 61, .inl m_s)), (mu, .inl (cI, 41, .inl m_u)), (mn, .inl (cJ, 41, .inr (.inl m_n))), (mm, .inl (cI, 41, .inl m_m)), (mo, .inl (cI, 14000, .inl m_o)), (mw, .inl (cI, 61, .inl z12.2.2.2.2))] [0, 1, 2, 3, 4, 5, 6, 7, 8, 9] rfl rfl rfl (0) (0) (Nat.le_of_ble_eq_true rfl) (Nat.le_of_ble_eq_true rfl) ⟨(Nat.le_of_ble_eq_true rfl), (Nat.le_of_ble_eq_true rfl)⟩ dX10_read_12 ?_
  refine J_aload_n O (i := 0) (k0 := 0) (pc := 15) 0 rfl rfl dX10_read_15 ?_
  refine J_get O (pc := 16) in_X10_read_X10 0 rfl rfl 14 (by decide) mb_X10_read_1 rfl dX10_read_16 ?_
  refine J_if_ne O (tgt := 26) (pc := 19) dX10_read_19 (by decide) (fun c19 => ?_) (fun c19 => ?_)
  · have hf := jt_f c19 hf
    refine J_aload_n O (i := 0) (k0 := 0) (pc := 26) 0 rfl rfl dX10_read_26 ?_
    refine J_iconst O (v := 0) (pc := 27) (by decide) dX10_read_27 ?_
    refine J_put O (pc := 28) in_X10_read_X10 tyX10 tyX10_ok nmX10 0 rfl rfl 1 (by decide) mb_X10_read_3 rfl rfl rfl (Nat.le_of_ble_eq_true rfl) [(m, .inr (6, [.ref mt, .int 0, .ref md, .int m_dl, .ref mk, .ref ms, .int m_c, .ref mu, .ref mn, .ref mm, .int m_e, .ref mo, .int m_ol, .int z12.1, .int z12.2.1, .ref mw, .int z12.2.2.1, .int z12.2.2.2.1])), (mt, .inl (cI, 6000, .inl m_t)), (md, .inl (cI, 12000, .inl m_d)), (mk, .inl (cI, 61, .inl m_k)), (ms, .inl (cI, 61, .inl m_s)), (mu, .inl (cI, 41, .inl m_u)), (mn, .inl (cJ, 41, .inr (.inl m_n))), (mm, .inl (cI, 41, .inl m_m)), (mo, .inl (cI, 14000, .inl m_o)), (mw, .inl (cI, 61, .inl z12.2.2.2.2))] rfl dX10_read_28 ?_
    refine J_aload_n O (i := 0) (k0 := 0) (pc := 31) 0 rfl rfl dX10_read_31 ?_
    refine J_get O (pc := 32) in_X10_read_X10 0 rfl rfl 14 (by decide) mb_X10_read_1 rfl dX10_read_32 ?_
    refine J_if_ne O (tgt := 45) (pc := 35) dX10_read_35 (by decide) (fun c35 => ?_) (fun c35 => ?_)
    · have hf := jt_f c35 hf
      refine J_bipush O (v := (-10)) (pc := 45) (by decide) dX10_read_45 ?_
      refine J_aload_n O (i := 0) (k0 := 0) (pc := 47) 0 rfl rfl dX10_read_47 ?_
      refine J_get O (pc := 48) in_X10_read_X10 0 rfl rfl 14 (by decide) mb_X10_read_1 rfl dX10_read_48 ?_
      refine J_isub O (pc := 51) dX10_read_51 ?_
      have e9 := Option.some.inj hf
      subst e9
      exact J_iret O (pc := 52) rfl dX10_read_52
    · have hf := jt_t c35 hf
      refine J_aload_n O (i := 0) (k0 := 0) (pc := 38) 0 rfl rfl dX10_read_38 ?_
      refine J_get O (pc := 39) in_X10_read_X10 0 rfl rfl 6 (by decide) mb_X10_read_4 rfl dX10_read_39 ?_
      refine J_goto O (tgt := 52) (pc := 42) dX10_read_42 (by decide) ?_
      have e9 := Option.some.inj hf
      subst e9
      exact J_iret O (pc := 52) rfl dX10_read_52
  · have hf := jt_t c19 hf
    refine J_aload_n O (i := 0) (k0 := 0) (pc := 22) 0 rfl rfl dX10_read_22 ?_
    obtain ⟨z23, h23, hf⟩ := jt_b hf
    refine J_callVv O (pc := 23) (c_X10_take l D cB cI cJ m mt md mk ms mu mn mm mo mw m_tl m_dl m_c m_e m_ol z12.1 z12.2.1 z12.2.2.1 z12.2.2.2.1 m_t m_d m_k m_s m_u m_n m_m m_o z12.2.2.2.2 fu h23) rfl 0 rfl rfl gX10_read_X10_take hdV_X10_take ⟨(Nat.le_of_ble_eq_true rfl), (Nat.le_of_ble_eq_true rfl)⟩ rfl (st := []) rfl (Nat.le_of_ble_eq_true rfl) [0, 1, 2, 3, 4, 5, 6, 7, 8, 9] [] rfl rfl rfl rfl rfl (by decide) [(m, .inr (6, [.ref mt, .int m_tl, .ref md, .int z23.1, .ref mk, .ref ms, .int z23.2.1, .ref mu, .ref mn, .ref mm, .int z23.2.2.1, .ref mo, .int m_ol, .int z12.1, .int z12.2.1, .ref mw, .int z12.2.2.1, .int z12.2.2.2.1])), (mt, .inl (cI, 6000, .inl m_t)), (md, .inl (cI, 12000, .inl z23.2.2.2.1)), (mk, .inl (cI, 61, .inl z23.2.2.2.2.1)), (ms, .inl (cI, 61, .inl z23.2.2.2.2.2.1)), (mu, .inl (cI, 41, .inl z23.2.2.2.2.2.2.1)), (mn, .inl (cJ, 41, .inr (.inl z23.2.2.2.2.2.2.2.1))), (mm, .inl (cI, 41, .inl z23.2.2.2.2.2.2.2.2)), (mo, .inl (cI, 14000, .inl m_o)), (mw, .inl (cI, 61, .inl z12.2.2.2.2))] [0, 1, 2, 3, 4, 5, 6, 7, 8, 9] rfl rfl rfl (0) (0) (Nat.le_of_ble_eq_true rfl) (Nat.le_of_ble_eq_true rfl) ⟨(Nat.le_of_ble_eq_true rfl), (Nat.le_of_ble_eq_true rfl)⟩ dX10_read_23 ?_
    refine J_aload_n O (i := 0) (k0 := 0) (pc := 26) 0 rfl rfl dX10_read_26 ?_
    refine J_iconst O (v := 0) (pc := 27) (by decide) dX10_read_27 ?_
    refine J_put O (pc := 28) in_X10_read_X10 tyX10 tyX10_ok nmX10 0 rfl rfl 1 (by decide) mb_X10_read_3 rfl rfl rfl (Nat.le_of_ble_eq_true rfl) [(m, .inr (6, [.ref mt, .int 0, .ref md, .int z23.1, .ref mk, .ref ms, .int z23.2.1, .ref mu, .ref mn, .ref mm, .int z23.2.2.1, .ref mo, .int m_ol, .int z12.1, .int z12.2.1, .ref mw, .int z12.2.2.1, .int z12.2.2.2.1])), (mt, .inl (cI, 6000, .inl m_t)), (md, .inl (cI, 12000, .inl z23.2.2.2.1)), (mk, .inl (cI, 61, .inl z23.2.2.2.2.1)), (ms, .inl (cI, 61, .inl z23.2.2.2.2.2.1)), (mu, .inl (cI, 41, .inl z23.2.2.2.2.2.2.1)), (mn, .inl (cJ, 41, .inr (.inl z23.2.2.2.2.2.2.2.1))), (mm, .inl (cI, 41, .inl z23.2.2.2.2.2.2.2.2)), (mo, .inl (cI, 14000, .inl m_o)), (mw, .inl (cI, 61, .inl z12.2.2.2.2))] rfl dX10_read_28 ?_
    refine J_aload_n O (i := 0) (k0 := 0) (pc := 31) 0 rfl rfl dX10_read_31 ?_
    refine J_get O (pc := 32) in_X10_read_X10 0 rfl rfl 14 (by decide) mb_X10_read_1 rfl dX10_read_32 ?_
    refine J_if_ne O (tgt := 45) (pc := 35) dX10_read_35 (by decide) (fun c35 => ?_) (fun c35 => ?_)
    · have hf := jt_f c35 hf
      refine J_bipush O (v := (-10)) (pc := 45) (by decide) dX10_read_45 ?_
      refine J_aload_n O (i := 0) (k0 := 0) (pc := 47) 0 rfl rfl dX10_read_47 ?_
      refine J_get O (pc := 48) in_X10_read_X10 0 rfl rfl 14 (by decide) mb_X10_read_1 rfl dX10_read_48 ?_
      refine J_isub O (pc := 51) dX10_read_51 ?_
      have e9 := Option.some.inj hf
      subst e9
      exact J_iret O (pc := 52) rfl dX10_read_52
    · have hf := jt_t c35 hf
      refine J_aload_n O (i := 0) (k0 := 0) (pc := 38) 0 rfl rfl dX10_read_38 ?_
      refine J_get O (pc := 39) in_X10_read_X10 0 rfl rfl 6 (by decide) mb_X10_read_4 rfl dX10_read_39 ?_
      refine J_goto O (tgt := 52) (pc := 42) dX10_read_42 (by decide) ?_
      have e9 := Option.some.inj hf
      subst e9
      exact J_iret O (pc := 52) rfl dX10_read_52
theorem in_X10_place_X10 : ∀ w ∈ u_ws RX10 TX10 18, w ∈ wsX10_place := fun _ h => List.mem_cons_of_mem _ (List.mem_append_right _ h)
theorem mb_X10_place_1 : Cond.fieldLink RX10 35 (TX10 13).1 (TX10 13).2.1 (TX10 13).2.2.1 ∈ wsX10_place := by decide +kernel
abbrev rmX10_place : Room := { frames := 0, cells := 0, slots := 0, locals := 0 }
set_option maxHeartbeats 4000000 in
set_option maxRecDepth 100000 in
theorem c_X10_place (l : Launch) (D : va_G) (cB cI cJ : ClassId) (m mt md mk ms mu mn mm mo mw : Nat) (m_tl : Int32) (m_dl : Int32) (m_c : Int32) (m_e : Int32) (m_ol : Int32) (m_fa : Int32) (m_f : Int32) (m_p : Int32) (m_is : Int32) (m_t : Nat → Int32) (m_d : Nat → Int32) (m_k : Nat → Int32) (m_s : Nat → Int32) (m_u : Nat → Int32) (m_n : Nat → Int64) (m_m : Nat → Int32) (m_o : Nat → Int32) (m_w : Nat → Int32) {z : Int32} (hf : p_X10_place m_fa = some z) : Ci (l, D, cB, cI, cJ) yX10_place wsX10_place rmX10_place [.ref m] [(m, .inr (6, [.ref mt, .int m_tl, .ref md, .int m_dl, .ref mk, .ref ms, .int m_c, .ref mu, .ref mn, .ref mm, .int m_e, .ref mo, .int m_ol, .int m_fa, .int m_f, .ref mw, .int m_p, .int m_is])), (mt, .inl (cI, 6000, .inl m_t)), (md, .inl (cI, 12000, .inl m_d)), (mk, .inl (cI, 61, .inl m_k)), (ms, .inl (cI, 61, .inl m_s)), (mu, .inl (cI, 41, .inl m_u)), (mn, .inl (cJ, 41, .inr (.inl m_n))), (mm, .inl (cI, 41, .inl m_m)), (mo, .inl (cI, 14000, .inl m_o)), (mw, .inl (cI, 61, .inl m_w))] [(m, .inr (6, [.ref mt, .int m_tl, .ref md, .int m_dl, .ref mk, .ref ms, .int m_c, .ref mu, .ref mn, .ref mm, .int m_e, .ref mo, .int m_ol, .int m_fa, .int m_f, .ref mw, .int m_p, .int m_is])), (mt, .inl (cI, 6000, .inl m_t)), (md, .inl (cI, 12000, .inl m_d)), (mk, .inl (cI, 61, .inl m_k)), (ms, .inl (cI, 61, .inl m_s)), (mu, .inl (cI, 41, .inl m_u)), (mn, .inl (cJ, 41, .inr (.inl m_n))), (mm, .inl (cI, 41, .inl m_m)), (mo, .inl (cI, 14000, .inl m_o)), (mw, .inl (cI, 61, .inl m_w))] z := by
  refine Ci_of (cc := cX10_place) (nL := 1) (own := RX10) (ret := (some .int)) (by decide) rfl rfl (Nat.le_of_ble_eq_true rfl) (fun X O hnm0 => ?_)
  rw [p_X10_place] at hf
  show J X 1 (JQi X [(m, .inr (6, [.ref mt, .int m_tl, .ref md, .int m_dl, .ref mk, .ref ms, .int m_c, .ref mu, .ref mn, .ref mm, .int m_e, .ref mo, .int m_ol, .int m_fa, .int m_f, .ref mw, .int m_p, .int m_is])), (mt, .inl (cI, 6000, .inl m_t)), (md, .inl (cI, 12000, .inl m_d)), (mk, .inl (cI, 61, .inl m_k)), (ms, .inl (cI, 61, .inl m_s)), (mu, .inl (cI, 41, .inl m_u)), (mn, .inl (cJ, 41, .inr (.inl m_n))), (mm, .inl (cI, 41, .inl m_m)), (mo, .inl (cI, 14000, .inl m_o)), (mw, .inl (cI, 61, .inl m_w))] z 0 0) [(m, .inr (6, [.ref mt, .int m_tl, .ref md, .int m_dl, .ref mk, .ref ms, .int m_c, .ref mu, .ref mn, .ref mm, .int m_e, .ref mo, .int m_ol, .int m_fa, .int m_f, .ref mw, .int m_p, .int m_is])), (mt, .inl (cI, 6000, .inl m_t)), (md, .inl (cI, 12000, .inl m_d)), (mk, .inl (cI, 61, .inl m_k)), (ms, .inl (cI, 61, .inl m_s)), (mu, .inl (cI, 41, .inl m_u)), (mn, .inl (cJ, 41, .inr (.inl m_n))), (mm, .inl (cI, 41, .inl m_m)), (mo, .inl (cI, 14000, .inl m_o)), (mw, .inl (cI, 61, .inl m_w))] 0 0 0 [(0, .ref m)] []
  refine J_aload_n O (i := 0) (k0 := 0) (pc := 0) 0 rfl rfl dX10_place_0 ?_
  refine J_get O (pc := 1) in_X10_place_X10 0 rfl rfl 13 (by decide) mb_X10_place_1 rfl dX10_place_1 ?_
  have e9 := Option.some.inj hf
  subst e9
  exact J_iret O (pc := 4) rfl dX10_place_4
theorem in_X10_told_X10 : ∀ w ∈ u_ws RX10 TX10 18, w ∈ wsX10_told := fun _ h => List.mem_cons_of_mem _ (List.mem_append_right _ h)
theorem mb_X10_told_1 : Cond.fieldLink RX10 113 (TX10 6).1 (TX10 6).2.1 (TX10 6).2.2.1 ∈ wsX10_told := by decide +kernel
theorem mb_X10_told_2 : Cond.fieldLink RX10 119 (TX10 10).1 (TX10 10).2.1 (TX10 10).2.2.1 ∈ wsX10_told := by decide +kernel
theorem mb_X10_told_3 : Cond.fieldLink RX10 116 (TX10 3).1 (TX10 3).2.1 (TX10 3).2.2.1 ∈ wsX10_told := by decide +kernel
theorem mb_X10_told_4 : Cond.fieldLink RX10 58 (TX10 1).1 (TX10 1).2.1 (TX10 1).2.2.1 ∈ wsX10_told := by decide +kernel
theorem mb_X10_told_5 : Cond.fieldLink RX10 122 (TX10 12).1 (TX10 12).2.1 (TX10 12).2.2.1 ∈ wsX10_told := by decide +kernel
abbrev rmX10_told : Room := { frames := 0, cells := 0, slots := 0, locals := 0 }
set_option maxHeartbeats 4000000 in
set_option maxRecDepth 100000 in
theorem c_X10_told (l : Launch) (D : va_G) (cB cI cJ : ClassId) (m mt md mk ms mu mn mm mo mw : Nat) (m_tl : Int32) (m_dl : Int32) (m_c : Int32) (m_e : Int32) (m_ol : Int32) (m_fa : Int32) (m_f : Int32) (m_p : Int32) (m_is : Int32) (m_t : Nat → Int32) (m_d : Nat → Int32) (m_k : Nat → Int32) (m_s : Nat → Int32) (m_u : Nat → Int32) (m_n : Nat → Int64) (m_m : Nat → Int32) (m_o : Nat → Int32) (m_w : Nat → Int32) (a1 : Int32) {z : Int32} (hf : p_X10_told m_tl m_dl m_c m_e m_ol a1 = some z) : Ci (l, D, cB, cI, cJ) yX10_told wsX10_told rmX10_told [.ref m, .int a1] [(m, .inr (6, [.ref mt, .int m_tl, .ref md, .int m_dl, .ref mk, .ref ms, .int m_c, .ref mu, .ref mn, .ref mm, .int m_e, .ref mo, .int m_ol, .int m_fa, .int m_f, .ref mw, .int m_p, .int m_is])), (mt, .inl (cI, 6000, .inl m_t)), (md, .inl (cI, 12000, .inl m_d)), (mk, .inl (cI, 61, .inl m_k)), (ms, .inl (cI, 61, .inl m_s)), (mu, .inl (cI, 41, .inl m_u)), (mn, .inl (cJ, 41, .inr (.inl m_n))), (mm, .inl (cI, 41, .inl m_m)), (mo, .inl (cI, 14000, .inl m_o)), (mw, .inl (cI, 61, .inl m_w))] [(m, .inr (6, [.ref mt, .int m_tl, .ref md, .int m_dl, .ref mk, .ref ms, .int m_c, .ref mu, .ref mn, .ref mm, .int m_e, .ref mo, .int m_ol, .int m_fa, .int m_f, .ref mw, .int m_p, .int m_is])), (mt, .inl (cI, 6000, .inl m_t)), (md, .inl (cI, 12000, .inl m_d)), (mk, .inl (cI, 61, .inl m_k)), (ms, .inl (cI, 61, .inl m_s)), (mu, .inl (cI, 41, .inl m_u)), (mn, .inl (cJ, 41, .inr (.inl m_n))), (mm, .inl (cI, 41, .inl m_m)), (mo, .inl (cI, 14000, .inl m_o)), (mw, .inl (cI, 61, .inl m_w))] z := by
  refine Ci_of (cc := cX10_told) (nL := 2) (own := RX10) (ret := (some .int)) (by decide) rfl rfl (Nat.le_of_ble_eq_true rfl) (fun X O hnm0 => ?_)
  rw [p_X10_told] at hf
  show J X 2 (JQi X [(m, .inr (6, [.ref mt, .int m_tl, .ref md, .int m_dl, .ref mk, .ref ms, .int m_c, .ref mu, .ref mn, .ref mm, .int m_e, .ref mo, .int m_ol, .int m_fa, .int m_f, .ref mw, .int m_p, .int m_is])), (mt, .inl (cI, 6000, .inl m_t)), (md, .inl (cI, 12000, .inl m_d)), (mk, .inl (cI, 61, .inl m_k)), (ms, .inl (cI, 61, .inl m_s)), (mu, .inl (cI, 41, .inl m_u)), (mn, .inl (cJ, 41, .inr (.inl m_n))), (mm, .inl (cI, 41, .inl m_m)), (mo, .inl (cI, 14000, .inl m_o)), (mw, .inl (cI, 61, .inl m_w))] z 0 0) [(m, .inr (6, [.ref mt, .int m_tl, .ref md, .int m_dl, .ref mk, .ref ms, .int m_c, .ref mu, .ref mn, .ref mm, .int m_e, .ref mo, .int m_ol, .int m_fa, .int m_f, .ref mw, .int m_p, .int m_is])), (mt, .inl (cI, 6000, .inl m_t)), (md, .inl (cI, 12000, .inl m_d)), (mk, .inl (cI, 61, .inl m_k)), (ms, .inl (cI, 61, .inl m_s)), (mu, .inl (cI, 41, .inl m_u)), (mn, .inl (cJ, 41, .inr (.inl m_n))), (mm, .inl (cI, 41, .inl m_m)), (mo, .inl (cI, 14000, .inl m_o)), (mw, .inl (cI, 61, .inl m_w))] 0 0 0 [(0, .ref m), (1, .int a1)] []
  refine J_iload_n O (i := 1) (k0 := 1) (pc := 0) 1 rfl rfl dX10_told_0 ?_
  by_cases c1_0 : a1 = 0
  · have hf := jt_t c1_0 hf
    refine J_tabK O (tgt := 36) (off := 35) (pc := 1) 0 c1_0 (by decide) (by decide) (by decide) dX10_told_1 (by decide) ?_
    refine J_aload_n O (i := 0) (k0 := 0) (pc := 36) 0 rfl rfl dX10_told_36 ?_
    refine J_get O (pc := 37) in_X10_told_X10 0 rfl rfl 6 (by decide) mb_X10_told_1 rfl dX10_told_37 ?_
    have e9 := Option.some.inj hf
    subst e9
    exact J_iret O (pc := 40) rfl dX10_told_40
  · have hf := jt_f c1_0 hf
    by_cases c1_1 : a1 = 1
    · have hf := jt_t c1_1 hf
      refine J_tabK O (tgt := 41) (off := 40) (pc := 1) 1 c1_1 (by decide) (by decide) (by decide) dX10_told_1 (by decide) ?_
      refine J_aload_n O (i := 0) (k0 := 0) (pc := 41) 0 rfl rfl dX10_told_41 ?_
      refine J_get O (pc := 42) in_X10_told_X10 0 rfl rfl 10 (by decide) mb_X10_told_2 rfl dX10_told_42 ?_
      have e9 := Option.some.inj hf
      subst e9
      exact J_iret O (pc := 45) rfl dX10_told_45
    · have hf := jt_f c1_1 hf
      by_cases c1_2 : a1 = 2
      · have hf := jt_t c1_2 hf
        refine J_tabK O (tgt := 46) (off := 45) (pc := 1) 2 c1_2 (by decide) (by decide) (by decide) dX10_told_1 (by decide) ?_
        refine J_aload_n O (i := 0) (k0 := 0) (pc := 46) 0 rfl rfl dX10_told_46 ?_
        refine J_get O (pc := 47) in_X10_told_X10 0 rfl rfl 3 (by decide) mb_X10_told_3 rfl dX10_told_47 ?_
        have e9 := Option.some.inj hf
        subst e9
        exact J_iret O (pc := 50) rfl dX10_told_50
      · have hf := jt_f c1_2 hf
        by_cases c1_3 : a1 = 3
        · have hf := jt_t c1_3 hf
          refine J_tabK O (tgt := 51) (off := 50) (pc := 1) 3 c1_3 (by decide) (by decide) (by decide) dX10_told_1 (by decide) ?_
          refine J_aload_n O (i := 0) (k0 := 0) (pc := 51) 0 rfl rfl dX10_told_51 ?_
          refine J_get O (pc := 52) in_X10_told_X10 0 rfl rfl 1 (by decide) mb_X10_told_4 rfl dX10_told_52 ?_
          have e9 := Option.some.inj hf
          subst e9
          exact J_iret O (pc := 55) rfl dX10_told_55
        · have hf := jt_f c1_3 hf
          by_cases c1_4 : a1 = 4
          · have hf := jt_t c1_4 hf
            refine J_tabK O (tgt := 56) (off := 55) (pc := 1) 4 c1_4 (by decide) (by decide) (by decide) dX10_told_1 (by decide) ?_
            refine J_aload_n O (i := 0) (k0 := 0) (pc := 56) 0 rfl rfl dX10_told_56 ?_
            refine J_get O (pc := 57) in_X10_told_X10 0 rfl rfl 12 (by decide) mb_X10_told_5 rfl dX10_told_57 ?_
            have e9 := Option.some.inj hf
            subst e9
            exact J_iret O (pc := 60) rfl dX10_told_60
          · have hf := jt_f c1_4 hf
            refine J_tabOut O (tgt := 61) (pc := 1) 5 (fun j hj => match j, hj with | 0, _ => c1_0 | 1, _ => c1_1 | 2, _ => c1_2 | 3, _ => c1_3 | 4, _ => c1_4 | (j + 5), hj => absurd hj (by omega)) (by decide) (by decide) dX10_told_1 (by decide) ?_
            refine J_iconst O (v := (-1)) (pc := 61) (by decide) dX10_told_61 ?_
            have e9 := Option.some.inj hf
            subst e9
            exact J_iret O (pc := 62) rfl dX10_told_62
theorem hdV_X10_isChunk : yX10_isChunk.cls = RX10 ∧ yX10_isChunk.cls ≠ "java/lang/invoke/MethodHandle" ∧ yX10_isChunk.cls ≠ "java/lang/invoke/VarHandle" ∧ (parseMethodDescriptor yX10_isChunk.desc).map (fun d => d.parameters.length) = some 1 := by decide +kernel
theorem mb_X10_chunk_0 : Cond.constantLong RX10 128 3 ∈ wsX10_chunk := by decide +kernel
theorem hdV_X10_meant : yX10_meant.cls = RX10 ∧ yX10_meant.cls ≠ "java/lang/invoke/MethodHandle" ∧ yX10_meant.cls ≠ "java/lang/invoke/VarHandle" ∧ (parseMethodDescriptor yX10_meant.desc).map (fun d => d.parameters.length) = some 1 := by decide +kernel
theorem hdV_X10_placeOf : yX10_placeOf.cls = RX10 ∧ yX10_placeOf.cls ≠ "java/lang/invoke/MethodHandle" ∧ yX10_placeOf.cls ≠ "java/lang/invoke/VarHandle" ∧ (parseMethodDescriptor yX10_placeOf.desc).map (fun d => d.parameters.length) = some 1 := by decide +kernel
theorem in_X10_chunk_X10 : ∀ w ∈ u_ws RX10 TX10 18, w ∈ wsX10_chunk := fun _ h => List.mem_cons_of_mem _ (List.mem_append_right _ h)
theorem mb_X10_chunk_2 : Cond.fieldLink RX10 19 (TX10 5).1 (TX10 5).2.1 (TX10 5).2.2.1 ∈ wsX10_chunk := by decide +kernel
theorem mb_X10_chunk_3 : Cond.fieldLink RX10 16 (TX10 4).1 (TX10 4).2.1 (TX10 4).2.2.1 ∈ wsX10_chunk := by decide +kernel
abbrev rmX10_chunk : Room := { frames := 2, cells := 0, slots := 0, locals := 46 }
set_option maxHeartbeats 4000000 in
set_option maxRecDepth 100000 in
theorem c_X10_chunk (l : Launch) (D : va_G) (cB cI cJ : ClassId) (m mt md mk ms mu mn mm mo mw : Nat) (m_tl : Int32) (m_dl : Int32) (m_c : Int32) (m_e : Int32) (m_ol : Int32) (m_fa : Int32) (m_f : Int32) (m_p : Int32) (m_is : Int32) (m_t : Nat → Int32) (m_d : Nat → Int32) (m_k : Nat → Int32) (m_s : Nat → Int32) (m_u : Nat → Int32) (m_n : Nat → Int64) (m_m : Nat → Int32) (m_o : Nat → Int32) (m_w : Nat → Int32) (a1 : Int32) (a2 : Int32) (fu : Nat) {z : Int32} (hf : p_X10_chunk fu m_c m_e m_k m_s m_m a1 a2 = some z) : Ci (l, D, cB, cI, cJ) yX10_chunk wsX10_chunk rmX10_chunk [.ref m, .int a1, .int a2] [(m, .inr (6, [.ref mt, .int m_tl, .ref md, .int m_dl, .ref mk, .ref ms, .int m_c, .ref mu, .ref mn, .ref mm, .int m_e, .ref mo, .int m_ol, .int m_fa, .int m_f, .ref mw, .int m_p, .int m_is])), (mt, .inl (cI, 6000, .inl m_t)), (md, .inl (cI, 12000, .inl m_d)), (mk, .inl (cI, 61, .inl m_k)), (ms, .inl (cI, 61, .inl m_s)), (mu, .inl (cI, 41, .inl m_u)), (mn, .inl (cJ, 41, .inr (.inl m_n))), (mm, .inl (cI, 41, .inl m_m)), (mo, .inl (cI, 14000, .inl m_o)), (mw, .inl (cI, 61, .inl m_w))] [(m, .inr (6, [.ref mt, .int m_tl, .ref md, .int m_dl, .ref mk, .ref ms, .int m_c, .ref mu, .ref mn, .ref mm, .int m_e, .ref mo, .int m_ol, .int m_fa, .int m_f, .ref mw, .int m_p, .int m_is])), (mt, .inl (cI, 6000, .inl m_t)), (md, .inl (cI, 12000, .inl m_d)), (mk, .inl (cI, 61, .inl m_k)), (ms, .inl (cI, 61, .inl m_s)), (mu, .inl (cI, 41, .inl m_u)), (mn, .inl (cJ, 41, .inr (.inl m_n))), (mm, .inl (cI, 41, .inl m_m)), (mo, .inl (cI, 14000, .inl m_o)), (mw, .inl (cI, 61, .inl m_w))] z := by
  refine Ci_of (cc := cX10_chunk) (nL := 3) (own := RX10) (ret := (some .int)) (by decide) rfl rfl (Nat.le_of_ble_eq_true rfl) (fun X O hnm0 => ?_)
  rw [p_X10_chunk] at hf
  show J X 3 (JQi X [(m, .inr (6, [.ref mt, .int m_tl, .ref md, .int m_dl, .ref mk, .ref ms, .int m_c, .ref mu, .ref mn, .ref mm, .int m_e, .ref mo, .int m_ol, .int m_fa, .int m_f, .ref mw, .int m_p, .int m_is])), (mt, .inl (cI, 6000, .inl m_t)), (md, .inl (cI, 12000, .inl m_d)), (mk, .inl (cI, 61, .inl m_k)), (ms, .inl (cI, 61, .inl m_s)), (mu, .inl (cI, 41, .inl m_u)), (mn, .inl (cJ, 41, .inr (.inl m_n))), (mm, .inl (cI, 41, .inl m_m)), (mo, .inl (cI, 14000, .inl m_o)), (mw, .inl (cI, 61, .inl m_w))] z 0 0) [(m, .inr (6, [.ref mt, .int m_tl, .ref md, .int m_dl, .ref mk, .ref ms, .int m_c, .ref mu, .ref mn, .ref mm, .int m_e, .ref mo, .int m_ol, .int m_fa, .int m_f, .ref mw, .int m_p, .int m_is])), (mt, .inl (cI, 6000, .inl m_t)), (md, .inl (cI, 12000, .inl m_d)), (mk, .inl (cI, 61, .inl m_k)), (ms, .inl (cI, 61, .inl m_s)), (mu, .inl (cI, 41, .inl m_u)), (mn, .inl (cJ, 41, .inr (.inl m_n))), (mm, .inl (cI, 41, .inl m_m)), (mo, .inl (cI, 14000, .inl m_o)), (mw, .inl (cI, 61, .inl m_w))] 0 0 0 [(0, .ref m), (1, .int a1), (2, .int a2)] []
  refine J_aload_n O (i := 0) (k0 := 0) (pc := 0) 0 rfl rfl dX10_chunk_0 ?_
  refine J_iload_n O (i := 1) (k0 := 1) (pc := 1) 1 rfl rfl dX10_chunk_1 ?_
  obtain ⟨z2, h2, hf⟩ := jt_b hf
  refine J_callVi O (pc := 2) (c_X10_isChunk l D cB cI cJ m mt md mk ms mu mn mm mo mw m_tl m_dl m_c m_e m_ol m_fa m_f m_p m_is m_t m_d m_k m_s m_u m_n m_m m_o m_w a1 h2) rfl 0 rfl rfl gX10_chunk_X10_isChunk hdV_X10_isChunk ⟨(Nat.le_of_ble_eq_true rfl), (Nat.le_of_ble_eq_true rfl)⟩ rfl (st := []) rfl (Nat.le_of_ble_eq_true rfl) [0, 1, 2, 3, 4, 5, 6, 7, 8, 9] [] rfl rfl rfl rfl rfl (by decide) [(m, .inr (6, [.ref mt, .int m_tl, .ref md, .int m_dl, .ref mk, .ref ms, .int m_c, .ref mu, .ref mn, .ref mm, .int m_e, .ref mo, .int m_ol, .int m_fa, .int m_f, .ref mw, .int m_p, .int m_is])), (mt, .inl (cI, 6000, .inl m_t)), (md, .inl (cI, 12000, .inl m_d)), (mk, .inl (cI, 61, .inl m_k)), (ms, .inl (cI, 61, .inl m_s)), (mu, .inl (cI, 41, .inl m_u)), (mn, .inl (cJ, 41, .inr (.inl m_n))), (mm, .inl (cI, 41, .inl m_m)), (mo, .inl (cI, 14000, .inl m_o)), (mw, .inl (cI, 61, .inl m_w))] [0, 1, 2, 3, 4, 5, 6, 7, 8, 9] rfl rfl rfl (0) (0) (Nat.le_of_ble_eq_true rfl) (Nat.le_of_ble_eq_true rfl) ⟨(Nat.le_of_ble_eq_true rfl), (Nat.le_of_ble_eq_true rfl)⟩ dX10_chunk_2 ?_
  refine J_zeq O (tgt := 20) (pc := 5) dX10_chunk_5 (by decide) (fun c5 => ?_) (fun c5 => ?_)
  · have hf := jt_f c5 hf
    refine J_iconst O (v := (-1)) (pc := 20) (by decide) dX10_chunk_20 ?_
    have e9 := Option.some.inj hf
    subst e9
    exact J_iret O (pc := 21) rfl dX10_chunk_21
  · have hf := jt_t c5 hf
    refine J_iload_n O (i := 2) (k0 := 2) (pc := 8) 2 rfl rfl dX10_chunk_8 ?_
    refine J_i2l O (pc := 9) dX10_chunk_9 ?_
    refine J_lconst O (v := 0) (pc := 10) (by decide) dX10_chunk_10 ?_
    refine J_ldc2 O (pc := 11) mb_X10_chunk_0 dX10_chunk_11 ?_
    obtain ⟨z14, h14, hf⟩ := jt_b hf
    refine J_callSi O (pc := 14) (c_X10_in l D cB cI cJ (Int32.toInt64 a2) 0 3 h14) rfl gX10_chunk_X10_in hdS_X10_in ⟨(Nat.le_of_ble_eq_true rfl), (Nat.le_of_ble_eq_true rfl)⟩ rfl (st := []) rfl (Nat.le_of_ble_eq_true rfl) [] [0, 1, 2, 3, 4, 5, 6, 7, 8, 9] rfl rfl rfl rfl rfl (by decide) [(m, .inr (6, [.ref mt, .int m_tl, .ref md, .int m_dl, .ref mk, .ref ms, .int m_c, .ref mu, .ref mn, .ref mm, .int m_e, .ref mo, .int m_ol, .int m_fa, .int m_f, .ref mw, .int m_p, .int m_is])), (mt, .inl (cI, 6000, .inl m_t)), (md, .inl (cI, 12000, .inl m_d)), (mk, .inl (cI, 61, .inl m_k)), (ms, .inl (cI, 61, .inl m_s)), (mu, .inl (cI, 41, .inl m_u)), (mn, .inl (cJ, 41, .inr (.inl m_n))), (mm, .inl (cI, 41, .inl m_m)), (mo, .inl (cI, 14000, .inl m_o)), (mw, .inl (cI, 61, .inl m_w))] [0, 1, 2, 3, 4, 5, 6, 7, 8, 9] rfl rfl rfl (0) (0) (Nat.le_of_ble_eq_true rfl) (Nat.le_of_ble_eq_true rfl) ⟨(Nat.le_of_ble_eq_true rfl), (Nat.le_of_ble_eq_true rfl)⟩ dX10_chunk_14 ?_
    refine J_zne O (tgt := 22) (pc := 17) dX10_chunk_17 (by decide) (fun c17 => ?_) (fun c17 => ?_)
    · have hf := jt_t c17 hf
      refine J_iload_n O (i := 2) (k0 := 2) (pc := 22) 2 rfl rfl dX10_chunk_22 ?_
      refine J_if_ne O (tgt := 35) (pc := 23) dX10_chunk_23 (by decide) (fun c23 => ?_) (fun c23 => ?_)
      · have hf := jt_f c23 hf
        refine J_iload_n O (i := 2) (k0 := 2) (pc := 35) 2 rfl rfl dX10_chunk_35 ?_
        refine J_iconst O (v := 1) (pc := 36) (by decide) dX10_chunk_36 ?_
        refine J_icmp_ne O (tgt := 49) (pc := 37) dX10_chunk_37 (by decide) (fun c37 => ?_) (fun c37 => ?_)
        · have hf := jt_f c37 hf
          refine J_iload_n O (i := 2) (k0 := 2) (pc := 49) 2 rfl rfl dX10_chunk_49 ?_
          refine J_iconst O (v := 2) (pc := 50) (by decide) dX10_chunk_50 ?_
          refine J_icmp_ne O (tgt := 62) (pc := 51) dX10_chunk_51 (by decide) (fun c51 => ?_) (fun c51 => ?_)
          · have hf := jt_f c51 hf
            refine J_aload_n O (i := 0) (k0 := 0) (pc := 62) 0 rfl rfl dX10_chunk_62 ?_
            refine J_iload_n O (i := 1) (k0 := 1) (pc := 63) 1 rfl rfl dX10_chunk_63 ?_
            obtain ⟨z64, h64, hf⟩ := jt_b hf
            refine J_callVi O (pc := 64) (c_X10_meant l D cB cI cJ m mt md mk ms mu mn mm mo mw m_tl m_dl m_c m_e m_ol m_fa m_f m_p m_is m_t m_d m_k m_s m_u m_n m_m m_o m_w a1 fu h64) rfl 0 rfl rfl gX10_chunk_X10_meant hdV_X10_meant ⟨(Nat.le_of_ble_eq_true rfl), (Nat.le_of_ble_eq_true rfl)⟩ rfl (st := []) rfl (Nat.le_of_ble_eq_true rfl) [0, 1, 2, 3, 4, 5, 6, 7, 8, 9] [] rfl rfl rfl rfl rfl (by decide) [(m, .inr (6, [.ref mt, .int m_tl, .ref md, .int m_dl, .ref mk, .ref ms, .int m_c, .ref mu, .ref mn, .ref mm, .int m_e, .ref mo, .int m_ol, .int m_fa, .int m_f, .ref mw, .int m_p, .int m_is])), (mt, .inl (cI, 6000, .inl m_t)), (md, .inl (cI, 12000, .inl m_d)), (mk, .inl (cI, 61, .inl m_k)), (ms, .inl (cI, 61, .inl m_s)), (mu, .inl (cI, 41, .inl m_u)), (mn, .inl (cJ, 41, .inr (.inl m_n))), (mm, .inl (cI, 41, .inl m_m)), (mo, .inl (cI, 14000, .inl m_o)), (mw, .inl (cI, 61, .inl m_w))] [0, 1, 2, 3, 4, 5, 6, 7, 8, 9] rfl rfl rfl (0) (0) (Nat.le_of_ble_eq_true rfl) (Nat.le_of_ble_eq_true rfl) ⟨(Nat.le_of_ble_eq_true rfl), (Nat.le_of_ble_eq_true rfl)⟩ dX10_chunk_64 ?_
            have e9 := Option.some.inj hf
            subst e9
            exact J_iret O (pc := 67) rfl dX10_chunk_67
          · have hf := jt_t c51 hf
            refine J_aload_n O (i := 0) (k0 := 0) (pc := 54) 0 rfl rfl dX10_chunk_54 ?_
            refine J_iload_n O (i := 1) (k0 := 1) (pc := 55) 1 rfl rfl dX10_chunk_55 ?_
            obtain ⟨z56, h56, hf⟩ := jt_b hf
            refine J_callVi O (pc := 56) (c_X10_placeOf l D cB cI cJ m mt md mk ms mu mn mm mo mw m_tl m_dl m_c m_e m_ol m_fa m_f m_p m_is m_t m_d m_k m_s m_u m_n m_m m_o m_w a1 fu h56) rfl 0 rfl rfl gX10_chunk_X10_placeOf hdV_X10_placeOf ⟨(Nat.le_of_ble_eq_true rfl), (Nat.le_of_ble_eq_true rfl)⟩ rfl (st := []) rfl (Nat.le_of_ble_eq_true rfl) [0, 1, 2, 3, 4, 5, 6, 7, 8, 9] [] rfl rfl rfl rfl rfl (by decide) [(m, .inr (6, [.ref mt, .int m_tl, .ref md, .int m_dl, .ref mk, .ref ms, .int m_c, .ref mu, .ref mn, .ref mm, .int m_e, .ref mo, .int m_ol, .int m_fa, .int m_f, .ref mw, .int m_p, .int m_is])), (mt, .inl (cI, 6000, .inl m_t)), (md, .inl (cI, 12000, .inl m_d)), (mk, .inl (cI, 61, .inl m_k)), (ms, .inl (cI, 61, .inl m_s)), (mu, .inl (cI, 41, .inl m_u)), (mn, .inl (cJ, 41, .inr (.inl m_n))), (mm, .inl (cI, 41, .inl m_m)), (mo, .inl (cI, 14000, .inl m_o)), (mw, .inl (cI, 61, .inl m_w))] [0, 1, 2, 3, 4, 5, 6, 7, 8, 9] rfl rfl rfl (0) (0) (Nat.le_of_ble_eq_true rfl) (Nat.le_of_ble_eq_true rfl) ⟨(Nat.le_of_ble_eq_true rfl), (Nat.le_of_ble_eq_true rfl)⟩ dX10_chunk_56 ?_
            refine J_goto O (tgt := 67) (pc := 59) dX10_chunk_59 (by decide) ?_
            have e9 := Option.some.inj hf
            subst e9
            exact J_iret O (pc := 67) rfl dX10_chunk_67
        · have hf := jt_t c37 hf
          refine J_aload_n O (i := 0) (k0 := 0) (pc := 40) 0 rfl rfl dX10_chunk_40 ?_
          refine J_get O (pc := 41) in_X10_chunk_X10 0 rfl rfl 5 (by decide) mb_X10_chunk_2 rfl dX10_chunk_41 ?_
          refine J_iload_n O (i := 1) (k0 := 1) (pc := 44) 1 rfl rfl dX10_chunk_44 ?_
          obtain ⟨h45, hf⟩ := jt_g hf
          refine J_iald O (pc := 45) 4 1 rfl rfl h45 dX10_chunk_45 ?_
          refine J_goto O (tgt := 67) (pc := 46) dX10_chunk_46 (by decide) ?_
          have e9 := Option.some.inj hf
          subst e9
          exact J_iret O (pc := 67) rfl dX10_chunk_67
      · have hf := jt_t c23 hf
        refine J_aload_n O (i := 0) (k0 := 0) (pc := 26) 0 rfl rfl dX10_chunk_26 ?_
        refine J_get O (pc := 27) in_X10_chunk_X10 0 rfl rfl 4 (by decide) mb_X10_chunk_3 rfl dX10_chunk_27 ?_
        refine J_iload_n O (i := 1) (k0 := 1) (pc := 30) 1 rfl rfl dX10_chunk_30 ?_
        obtain ⟨h31, hf⟩ := jt_g hf
        refine J_iald O (pc := 31) 3 1 rfl rfl h31 dX10_chunk_31 ?_
        refine J_goto O (tgt := 67) (pc := 32) dX10_chunk_32 (by decide) ?_
        have e9 := Option.some.inj hf
        subst e9
        exact J_iret O (pc := 67) rfl dX10_chunk_67
    · have hf := jt_f c17 hf
      refine J_iconst O (v := (-1)) (pc := 20) (by decide) dX10_chunk_20 ?_
      have e9 := Option.some.inj hf
      subst e9
      exact J_iret O (pc := 21) rfl dX10_chunk_21
theorem in_X10_octet_X10 : ∀ w ∈ u_ws RX10 TX10 18, w ∈ wsX10_octet := fun _ h => List.mem_cons_of_mem _ (List.mem_append_right _ h)
theorem mb_X10_octet_1 : Cond.fieldLink RX10 19 (TX10 5).1 (TX10 5).2.1 (TX10 5).2.2.1 ∈ wsX10_octet := by decide +kernel
theorem mb_X10_octet_2 : Cond.fieldLink RX10 13 (TX10 2).1 (TX10 2).2.1 (TX10 2).2.2.1 ∈ wsX10_octet := by decide +kernel
theorem hdV_X10_fromOf : yX10_fromOf.cls = RX10 ∧ yX10_fromOf.cls ≠ "java/lang/invoke/MethodHandle" ∧ yX10_fromOf.cls ≠ "java/lang/invoke/VarHandle" ∧ (parseMethodDescriptor yX10_fromOf.desc).map (fun d => d.parameters.length) = some 1 := by decide +kernel
abbrev rmX10_octet : Room := { frames := 2, cells := 0, slots := 0, locals := 46 }
set_option maxHeartbeats 4000000 in
set_option maxRecDepth 100000 in
theorem c_X10_octet (l : Launch) (D : va_G) (cB cI cJ : ClassId) (m mt md mk ms mu mn mm mo mw : Nat) (m_tl : Int32) (m_dl : Int32) (m_c : Int32) (m_e : Int32) (m_ol : Int32) (m_fa : Int32) (m_f : Int32) (m_p : Int32) (m_is : Int32) (m_t : Nat → Int32) (m_d : Nat → Int32) (m_k : Nat → Int32) (m_s : Nat → Int32) (m_u : Nat → Int32) (m_n : Nat → Int64) (m_m : Nat → Int32) (m_o : Nat → Int32) (m_w : Nat → Int32) (a1 : Int32) (a2 : Int32) (fu : Nat) {z : Int32} (hf : p_X10_octet fu m_c m_d m_s a1 a2 = some z) : Ci (l, D, cB, cI, cJ) yX10_octet wsX10_octet rmX10_octet [.ref m, .int a1, .int a2] [(m, .inr (6, [.ref mt, .int m_tl, .ref md, .int m_dl, .ref mk, .ref ms, .int m_c, .ref mu, .ref mn, .ref mm, .int m_e, .ref mo, .int m_ol, .int m_fa, .int m_f, .ref mw, .int m_p, .int m_is])), (mt, .inl (cI, 6000, .inl m_t)), (md, .inl (cI, 12000, .inl m_d)), (mk, .inl (cI, 61, .inl m_k)), (ms, .inl (cI, 61, .inl m_s)), (mu, .inl (cI, 41, .inl m_u)), (mn, .inl (cJ, 41, .inr (.inl m_n))), (mm, .inl (cI, 41, .inl m_m)), (mo, .inl (cI, 14000, .inl m_o)), (mw, .inl (cI, 61, .inl m_w))] [(m, .inr (6, [.ref mt, .int m_tl, .ref md, .int m_dl, .ref mk, .ref ms, .int m_c, .ref mu, .ref mn, .ref mm, .int m_e, .ref mo, .int m_ol, .int m_fa, .int m_f, .ref mw, .int m_p, .int m_is])), (mt, .inl (cI, 6000, .inl m_t)), (md, .inl (cI, 12000, .inl m_d)), (mk, .inl (cI, 61, .inl m_k)), (ms, .inl (cI, 61, .inl m_s)), (mu, .inl (cI, 41, .inl m_u)), (mn, .inl (cJ, 41, .inr (.inl m_n))), (mm, .inl (cI, 41, .inl m_m)), (mo, .inl (cI, 14000, .inl m_o)), (mw, .inl (cI, 61, .inl m_w))] z := by
  refine Ci_of (cc := cX10_octet) (nL := 3) (own := RX10) (ret := (some .int)) (by decide) rfl rfl (Nat.le_of_ble_eq_true rfl) (fun X O hnm0 => ?_)
  rw [p_X10_octet] at hf
  show J X 3 (JQi X [(m, .inr (6, [.ref mt, .int m_tl, .ref md, .int m_dl, .ref mk, .ref ms, .int m_c, .ref mu, .ref mn, .ref mm, .int m_e, .ref mo, .int m_ol, .int m_fa, .int m_f, .ref mw, .int m_p, .int m_is])), (mt, .inl (cI, 6000, .inl m_t)), (md, .inl (cI, 12000, .inl m_d)), (mk, .inl (cI, 61, .inl m_k)), (ms, .inl (cI, 61, .inl m_s)), (mu, .inl (cI, 41, .inl m_u)), (mn, .inl (cJ, 41, .inr (.inl m_n))), (mm, .inl (cI, 41, .inl m_m)), (mo, .inl (cI, 14000, .inl m_o)), (mw, .inl (cI, 61, .inl m_w))] z 0 0) [(m, .inr (6, [.ref mt, .int m_tl, .ref md, .int m_dl, .ref mk, .ref ms, .int m_c, .ref mu, .ref mn, .ref mm, .int m_e, .ref mo, .int m_ol, .int m_fa, .int m_f, .ref mw, .int m_p, .int m_is])), (mt, .inl (cI, 6000, .inl m_t)), (md, .inl (cI, 12000, .inl m_d)), (mk, .inl (cI, 61, .inl m_k)), (ms, .inl (cI, 61, .inl m_s)), (mu, .inl (cI, 41, .inl m_u)), (mn, .inl (cJ, 41, .inr (.inl m_n))), (mm, .inl (cI, 41, .inl m_m)), (mo, .inl (cI, 14000, .inl m_o)), (mw, .inl (cI, 61, .inl m_w))] 0 0 0 [(0, .ref m), (1, .int a1), (2, .int a2)] []
  refine J_aload_n O (i := 0) (k0 := 0) (pc := 0) 0 rfl rfl dX10_octet_0 ?_
  refine J_iload_n O (i := 1) (k0 := 1) (pc := 1) 1 rfl rfl dX10_octet_1 ?_
  obtain ⟨z2, h2, hf⟩ := jt_b hf
  refine J_callVi O (pc := 2) (c_X10_isChunk l D cB cI cJ m mt md mk ms mu mn mm mo mw m_tl m_dl m_c m_e m_ol m_fa m_f m_p m_is m_t m_d m_k m_s m_u m_n m_m m_o m_w a1 h2) rfl 0 rfl rfl gX10_octet_X10_isChunk hdV_X10_isChunk ⟨(Nat.le_of_ble_eq_true rfl), (Nat.le_of_ble_eq_true rfl)⟩ rfl (st := []) rfl (Nat.le_of_ble_eq_true rfl) [0, 1, 2, 3, 4, 5, 6, 7, 8, 9] [] rfl rfl rfl rfl rfl (by decide) [(m, .inr (6, [.ref mt, .int m_tl, .ref md, .int m_dl, .ref mk, .ref ms, .int m_c, .ref mu, .ref mn, .ref mm, .int m_e, .ref mo, .int m_ol, .int m_fa, .int m_f, .ref mw, .int m_p, .int m_is])), (mt, .inl (cI, 6000, .inl m_t)), (md, .inl (cI, 12000, .inl m_d)), (mk, .inl (cI, 61, .inl m_k)), (ms, .inl (cI, 61, .inl m_s)), (mu, .inl (cI, 41, .inl m_u)), (mn, .inl (cJ, 41, .inr (.inl m_n))), (mm, .inl (cI, 41, .inl m_m)), (mo, .inl (cI, 14000, .inl m_o)), (mw, .inl (cI, 61, .inl m_w))] [0, 1, 2, 3, 4, 5, 6, 7, 8, 9] rfl rfl rfl (0) (0) (Nat.le_of_ble_eq_true rfl) (Nat.le_of_ble_eq_true rfl) ⟨(Nat.le_of_ble_eq_true rfl), (Nat.le_of_ble_eq_true rfl)⟩ dX10_octet_2 ?_
  refine J_zeq O (tgt := 41) (pc := 5) dX10_octet_5 (by decide) (fun c5 => ?_) (fun c5 => ?_)
  · have hf := jt_f c5 hf
    refine J_iconst O (v := (-1)) (pc := 41) (by decide) dX10_octet_41 ?_
    have e9 := Option.some.inj hf
    subst e9
    exact J_iret O (pc := 42) rfl dX10_octet_42
  · have hf := jt_t c5 hf
    refine J_iload_n O (i := 2) (k0 := 2) (pc := 8) 2 rfl rfl dX10_octet_8 ?_
    refine J_i2l O (pc := 9) dX10_octet_9 ?_
    refine J_lconst O (v := 0) (pc := 10) (by decide) dX10_octet_10 ?_
    refine J_aload_n O (i := 0) (k0 := 0) (pc := 11) 0 rfl rfl dX10_octet_11 ?_
    refine J_get O (pc := 12) in_X10_octet_X10 0 rfl rfl 5 (by decide) mb_X10_octet_1 rfl dX10_octet_12 ?_
    refine J_iload_n O (i := 1) (k0 := 1) (pc := 15) 1 rfl rfl dX10_octet_15 ?_
    obtain ⟨h16, hf⟩ := jt_g hf
    refine J_iald O (pc := 16) 4 1 rfl rfl h16 dX10_octet_16 ?_
    refine J_iconst O (v := 1) (pc := 17) (by decide) dX10_octet_17 ?_
    refine J_isub O (pc := 18) dX10_octet_18 ?_
    refine J_i2l O (pc := 19) dX10_octet_19 ?_
    obtain ⟨z20, h20, hf⟩ := jt_b hf
    refine J_callSi O (pc := 20) (c_X10_in l D cB cI cJ (Int32.toInt64 a2) 0 (Int32.toInt64 ((m_s (Int32.toNatClampNeg a1)) - 1)) h20) rfl gX10_octet_X10_in hdS_X10_in ⟨(Nat.le_of_ble_eq_true rfl), (Nat.le_of_ble_eq_true rfl)⟩ rfl (st := []) rfl (Nat.le_of_ble_eq_true rfl) [] [0, 1, 2, 3, 4, 5, 6, 7, 8, 9] rfl rfl rfl rfl rfl (by decide) [(m, .inr (6, [.ref mt, .int m_tl, .ref md, .int m_dl, .ref mk, .ref ms, .int m_c, .ref mu, .ref mn, .ref mm, .int m_e, .ref mo, .int m_ol, .int m_fa, .int m_f, .ref mw, .int m_p, .int m_is])), (mt, .inl (cI, 6000, .inl m_t)), (md, .inl (cI, 12000, .inl m_d)), (mk, .inl (cI, 61, .inl m_k)), (ms, .inl (cI, 61, .inl m_s)), (mu, .inl (cI, 41, .inl m_u)), (mn, .inl (cJ, 41, .inr (.inl m_n))), (mm, .inl (cI, 41, .inl m_m)), (mo, .inl (cI, 14000, .inl m_o)), (mw, .inl (cI, 61, .inl m_w))] [0, 1, 2, 3, 4, 5, 6, 7, 8, 9] rfl rfl rfl (0) (0) (Nat.le_of_ble_eq_true rfl) (Nat.le_of_ble_eq_true rfl) ⟨(Nat.le_of_ble_eq_true rfl), (Nat.le_of_ble_eq_true rfl)⟩ dX10_octet_20 ?_
    refine J_zeq O (tgt := 41) (pc := 23) dX10_octet_23 (by decide) (fun c23 => ?_) (fun c23 => ?_)
    · have hf := jt_f c23 hf
      refine J_iconst O (v := (-1)) (pc := 41) (by decide) dX10_octet_41 ?_
      have e9 := Option.some.inj hf
      subst e9
      exact J_iret O (pc := 42) rfl dX10_octet_42
    · have hf := jt_t c23 hf
      refine J_aload_n O (i := 0) (k0 := 0) (pc := 26) 0 rfl rfl dX10_octet_26 ?_
      refine J_get O (pc := 27) in_X10_octet_X10 0 rfl rfl 2 (by decide) mb_X10_octet_2 rfl dX10_octet_27 ?_
      refine J_aload_n O (i := 0) (k0 := 0) (pc := 30) 0 rfl rfl dX10_octet_30 ?_
      refine J_iload_n O (i := 1) (k0 := 1) (pc := 31) 1 rfl rfl dX10_octet_31 ?_
      obtain ⟨z32, h32, hf⟩ := jt_b hf
      refine J_callVi O (pc := 32) (c_X10_fromOf l D cB cI cJ m mt md mk ms mu mn mm mo mw m_tl m_dl m_c m_e m_ol m_fa m_f m_p m_is m_t m_d m_k m_s m_u m_n m_m m_o m_w a1 fu h32) rfl 0 rfl rfl gX10_octet_X10_fromOf hdV_X10_fromOf ⟨(Nat.le_of_ble_eq_true rfl), (Nat.le_of_ble_eq_true rfl)⟩ rfl (st := [.ref md]) rfl (Nat.le_of_ble_eq_true rfl) [0, 1, 2, 3, 4, 5, 6, 7, 8, 9] [] rfl rfl rfl rfl rfl (by decide) [(m, .inr (6, [.ref mt, .int m_tl, .ref md, .int m_dl, .ref mk, .ref ms, .int m_c, .ref mu, .ref mn, .ref mm, .int m_e, .ref mo, .int m_ol, .int m_fa, .int m_f, .ref mw, .int m_p, .int m_is])), (mt, .inl (cI, 6000, .inl m_t)), (md, .inl (cI, 12000, .inl m_d)), (mk, .inl (cI, 61, .inl m_k)), (ms, .inl (cI, 61, .inl m_s)), (mu, .inl (cI, 41, .inl m_u)), (mn, .inl (cJ, 41, .inr (.inl m_n))), (mm, .inl (cI, 41, .inl m_m)), (mo, .inl (cI, 14000, .inl m_o)), (mw, .inl (cI, 61, .inl m_w))] [0, 1, 2, 3, 4, 5, 6, 7, 8, 9] rfl rfl rfl (0) (0) (Nat.le_of_ble_eq_true rfl) (Nat.le_of_ble_eq_true rfl) ⟨(Nat.le_of_ble_eq_true rfl), (Nat.le_of_ble_eq_true rfl)⟩ dX10_octet_32 ?_
      refine J_iload_n O (i := 2) (k0 := 2) (pc := 35) 2 rfl rfl dX10_octet_35 ?_
      refine J_iadd O (pc := 36) dX10_octet_36 ?_
      obtain ⟨h37, hf⟩ := jt_g hf
      refine J_iald O (pc := 37) 2 1 rfl rfl h37 dX10_octet_37 ?_
      refine J_goto O (tgt := 42) (pc := 38) dX10_octet_38 (by decide) ?_
      have e9 := Option.some.inj hf
      subst e9
      exact J_iret O (pc := 42) rfl dX10_octet_42
