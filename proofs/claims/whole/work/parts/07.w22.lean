theorem in_X10_back_X10 : ∀ w ∈ u_ws RX10 TX10 18, w ∈ wsX10_back := fun _ h => List.mem_cons_of_mem _ (List.mem_append_right _ h)
theorem mb_X10_back_1 : Cond.fieldLink RX10 122 (TX10 12).1 (TX10 12).2.1 (TX10 12).2.2.1 ∈ wsX10_back := by decide +kernel
theorem mb_X10_back_2 : Cond.fieldLink RX10 58 (TX10 1).1 (TX10 1).2.1 (TX10 1).2.2.1 ∈ wsX10_back := by decide +kernel
theorem mb_X10_back_3 : Cond.fieldLink RX10 7 (TX10 0).1 (TX10 0).2.1 (TX10 0).2.2.1 ∈ wsX10_back := by decide +kernel
theorem mb_X10_back_4 : Cond.fieldLink RX10 32 (TX10 11).1 (TX10 11).2.1 (TX10 11).2.2.1 ∈ wsX10_back := by decide +kernel
abbrev rmX10_back : Room := { frames := 0, cells := 0, slots := 0, locals := 0 }
set_option maxHeartbeats 4000000 in
set_option maxRecDepth 100000 in
theorem wk_X10_back_15 {X : JC} {l : Launch} {D : va_G} {cB cI cJ : ClassId} (O : Jo X (l, D, cB, cI, cJ) cX10_back 2 RX10 wsX10_back rmX10_back (some .int)) (m mt md mk ms mu mn mm mo mw : Nat) (m_dl : Int32) (m_c : Int32) (m_e : Int32) (m_ol : Int32) (m_fa : Int32) (m_f : Int32) (m_p : Int32) (m_is : Int32) (m_d : Nat → Int32) (m_k : Nat → Int32) (m_s : Nat → Int32) (m_u : Nat → Int32) (m_n : Nat → Int64) (m_m : Nat → Int32) (m_o : Nat → Int32) (m_w : Nat → Int32) (fu : Nat) {z : Int32 × Int32 × (Nat → Int32)} : ∀ (fn : Nat) (v1 : Int32) (m_tl : Int32) (m_t : Nat → Int32), p_X10_back_15 fu m_ol m_o fn v1 m_tl m_t = some z → J X 2 (JQi X [(m, .inr (6, [.ref mt, .int z.2.1, .ref md, .int m_dl, .ref mk, .ref ms, .int m_c, .ref mu, .ref mn, .ref mm, .int m_e, .ref mo, .int m_ol, .int m_fa, .int m_f, .ref mw, .int m_p, .int m_is])), (mt, .inl (cI, 6000, .inl z.2.2)), (md, .inl (cI, 12000, .inl m_d)), (mk, .inl (cI, 61, .inl m_k)), (ms, .inl (cI, 61, .inl m_s)), (mu, .inl (cI, 41, .inl m_u)), (mn, .inl (cJ, 41, .inr (.inl m_n))), (mm, .inl (cI, 41, .inl m_m)), (mo, .inl (cI, 14000, .inl m_o)), (mw, .inl (cI, 61, .inl m_w))] z.1 0 0) [(m, .inr (6, [.ref mt, .int m_tl, .ref md, .int m_dl, .ref mk, .ref ms, .int m_c, .ref mu, .ref mn, .ref mm, .int m_e, .ref mo, .int m_ol, .int m_fa, .int m_f, .ref mw, .int m_p, .int m_is])), (mt, .inl (cI, 6000, .inl m_t)), (md, .inl (cI, 12000, .inl m_d)), (mk, .inl (cI, 61, .inl m_k)), (ms, .inl (cI, 61, .inl m_s)), (mu, .inl (cI, 41, .inl m_u)), (mn, .inl (cJ, 41, .inr (.inl m_n))), (mm, .inl (cI, 41, .inl m_m)), (mo, .inl (cI, 14000, .inl m_o)), (mw, .inl (cI, 61, .inl m_w))] 0 0 15 [(0, .ref m), (1, .int v1)] [] := by
  intro fn
  induction fn with
  | zero =>
    intro v1 m_tl m_t hf
    rw [p_X10_back_15] at hf
    exact jt_n hf
  | succ fn ih =>
    intro v1 m_tl m_t hf
    rw [p_X10_back_15] at hf
    refine J_iload_n O (i := 1) (k0 := 1) (pc := 15) 1 rfl rfl dX10_back_15 ?_
    refine J_aload_n O (i := 0) (k0 := 0) (pc := 16) 0 rfl rfl dX10_back_16 ?_
    refine J_get O (pc := 17) in_X10_back_X10 0 rfl rfl 12 (by decide) mb_X10_back_1 rfl dX10_back_17 ?_
    refine J_icmp_ge O (tgt := 41) (pc := 20) dX10_back_20 (by decide) (fun c20 => ?_) (fun c20 => ?_)
    · have hf := jt_t c20 hf
      refine J_aload_n O (i := 0) (k0 := 0) (pc := 41) 0 rfl rfl dX10_back_41 ?_
      refine J_aload_n O (i := 0) (k0 := 0) (pc := 42) 0 rfl rfl dX10_back_42 ?_
      refine J_get O (pc := 43) in_X10_back_X10 0 rfl rfl 12 (by decide) mb_X10_back_1 rfl dX10_back_43 ?_
      refine J_put O (pc := 46) in_X10_back_X10 tyX10 tyX10_ok nmX10 0 rfl rfl 1 (by decide) mb_X10_back_2 rfl rfl rfl (Nat.le_of_ble_eq_true rfl) [(m, .inr (6, [.ref mt, .int m_ol, .ref md, .int m_dl, .ref mk, .ref ms, .int m_c, .ref mu, .ref mn, .ref mm, .int m_e, .ref mo, .int m_ol, .int m_fa, .int m_f, .ref mw, .int m_p, .int m_is])), (mt, .inl (cI, 6000, .inl m_t)), (md, .inl (cI, 12000, .inl m_d)), (mk, .inl (cI, 61, .inl m_k)), (ms, .inl (cI, 61, .inl m_s)), (mu, .inl (cI, 41, .inl m_u)), (mn, .inl (cJ, 41, .inr (.inl m_n))), (mm, .inl (cI, 41, .inl m_m)), (mo, .inl (cI, 14000, .inl m_o)), (mw, .inl (cI, 61, .inl m_w))] rfl dX10_back_46 ?_
      refine J_aload_n O (i := 0) (k0 := 0) (pc := 49) 0 rfl rfl dX10_back_49 ?_
      refine J_get O (pc := 50) in_X10_back_X10 0 rfl rfl 1 (by decide) mb_X10_back_2 rfl dX10_back_50 ?_
      have e9 := Option.some.inj hf
      subst e9
      exact J_iret O (pc := 53) rfl dX10_back_53
    · have hf := jt_f c20 hf
      refine J_aload_n O (i := 0) (k0 := 0) (pc := 23) 0 rfl rfl dX10_back_23 ?_
      refine J_get O (pc := 24) in_X10_back_X10 0 rfl rfl 0 (by decide) mb_X10_back_3 rfl dX10_back_24 ?_
      refine J_iload_n O (i := 1) (k0 := 1) (pc := 27) 1 rfl rfl dX10_back_27 ?_
      refine J_aload_n O (i := 0) (k0 := 0) (pc := 28) 0 rfl rfl dX10_back_28 ?_
      refine J_get O (pc := 29) in_X10_back_X10 0 rfl rfl 11 (by decide) mb_X10_back_4 rfl dX10_back_29 ?_
      refine J_iload_n O (i := 1) (k0 := 1) (pc := 32) 1 rfl rfl dX10_back_32 ?_
      obtain ⟨h33, hf⟩ := jt_g hf
      refine J_iald O (pc := 33) 8 1 rfl rfl h33 dX10_back_33 ?_
      obtain ⟨h34, hf⟩ := jt_g hf
      refine J_iast O (pc := 34) 1 1 rfl rfl h34 [(m, .inr (6, [.ref mt, .int m_tl, .ref md, .int m_dl, .ref mk, .ref ms, .int m_c, .ref mu, .ref mn, .ref mm, .int m_e, .ref mo, .int m_ol, .int m_fa, .int m_f, .ref mw, .int m_p, .int m_is])), (mt, .inl (cI, 6000, .inl (upd m_t (Int32.toNatClampNeg v1) (m_o (Int32.toNatClampNeg v1))))), (md, .inl (cI, 12000, .inl m_d)), (mk, .inl (cI, 61, .inl m_k)), (ms, .inl (cI, 61, .inl m_s)), (mu, .inl (cI, 41, .inl m_u)), (mn, .inl (cJ, 41, .inr (.inl m_n))), (mm, .inl (cI, 41, .inl m_m)), (mo, .inl (cI, 14000, .inl m_o)), (mw, .inl (cI, 61, .inl m_w))] rfl dX10_back_34 ?_
      refine J_iinc O (i := 1) (n := 1) (v := v1 + 1) (pc := 35) 1 rfl [(1, .int (v1 + 1)), (0, .ref m)] (by decide) (congrArg (_ + ·) (by decide)) rfl dX10_back_35 ?_
      refine J_goto O (tgt := 15) (pc := 38) dX10_back_38 (by decide) ?_
      refine J_sub [1, 0] (lv' := [(0, .ref m), (1, .int (v1 + 1))]) rfl ?_
      exact ih (v1 + 1) m_tl (upd m_t (Int32.toNatClampNeg v1) (m_o (Int32.toNatClampNeg v1))) hf
set_option maxHeartbeats 4000000 in
set_option maxRecDepth 100000 in
theorem c_X10_back (l : Launch) (D : va_G) (cB cI cJ : ClassId) (m mt md mk ms mu mn mm mo mw : Nat) (m_tl : Int32) (m_dl : Int32) (m_c : Int32) (m_e : Int32) (m_ol : Int32) (m_fa : Int32) (m_f : Int32) (m_p : Int32) (m_is : Int32) (m_t : Nat → Int32) (m_d : Nat → Int32) (m_k : Nat → Int32) (m_s : Nat → Int32) (m_u : Nat → Int32) (m_n : Nat → Int64) (m_m : Nat → Int32) (m_o : Nat → Int32) (m_w : Nat → Int32) (fu : Nat) {z : Int32 × Int32 × (Nat → Int32)} (hf : p_X10_back fu m_tl m_ol m_t m_o = some z) : Ci (l, D, cB, cI, cJ) yX10_back wsX10_back rmX10_back [.ref m] [(m, .inr (6, [.ref mt, .int m_tl, .ref md, .int m_dl, .ref mk, .ref ms, .int m_c, .ref mu, .ref mn, .ref mm, .int m_e, .ref mo, .int m_ol, .int m_fa, .int m_f, .ref mw, .int m_p, .int m_is])), (mt, .inl (cI, 6000, .inl m_t)), (md, .inl (cI, 12000, .inl m_d)), (mk, .inl (cI, 61, .inl m_k)), (ms, .inl (cI, 61, .inl m_s)), (mu, .inl (cI, 41, .inl m_u)), (mn, .inl (cJ, 41, .inr (.inl m_n))), (mm, .inl (cI, 41, .inl m_m)), (mo, .inl (cI, 14000, .inl m_o)), (mw, .inl (cI, 61, .inl m_w))] [(m, .inr (6, [.ref mt, .int z.2.1, .ref md, .int m_dl, .ref mk, .ref ms, .int m_c, .ref mu, .ref mn, .ref mm, .int m_e, .ref mo, .int m_ol, .int m_fa, .int m_f, .ref mw, .int m_p, .int m_is])), (mt, .inl (cI, 6000, .inl z.2.2)), (md, .inl (cI, 12000, .inl m_d)), (mk, .inl (cI, 61, .inl m_k)), (ms, .inl (cI, 61, .inl m_s)), (mu, .inl (cI, 41, .inl m_u)), (mn, .inl (cJ, 41, .inr (.inl m_n))), (mm, .inl (cI, 41, .inl m_m)), (mo, .inl (cI, 14000, .inl m_o)), (mw, .inl (cI, 61, .inl m_w))] z.1 := by
  refine Ci_of (cc := cX10_back) (nL := 2) (own := RX10) (ret := (some .int)) (by decide) rfl rfl (Nat.le_of_ble_eq_true rfl) (fun X O hnm0 => ?_)
  rw [p_X10_back] at hf
  show J X 2 (JQi X [(m, .inr (6, [.ref mt, .int z.2.1, .ref md, .int m_dl, .ref mk, .ref ms, .int m_c, .ref mu, .ref mn, .ref mm, .int m_e, .ref mo, .int m_ol, .int m_fa, .int m_f, .ref mw, .int m_p, .int m_is])), (mt, .inl (cI, 6000, .inl z.2.2)), (md, .inl (cI, 12000, .inl m_d)), (mk, .inl (cI, 61, .inl m_k)), (ms, .inl (cI, 61, .inl m_s)), (mu, .inl (cI, 41, .inl m_u)), (mn, .inl (cJ, 41, .inr (.inl m_n))), (mm, .inl (cI, 41, .inl m_m)), (mo, .inl (cI, 14000, .inl m_o)), (mw, .inl (cI, 61, .inl m_w))] z.1 0 0) [(m, .inr (6, [.ref mt, .int m_tl, .ref md, .int m_dl, .ref mk, .ref ms, .int m_c, .ref mu, .ref mn, .ref mm, .int m_e, .ref mo, .int m_ol, .int m_fa, .int m_f, .ref mw, .int m_p, .int m_is])), (mt, .inl (cI, 6000, .inl m_t)), (md, .inl (cI, 12000, .inl m_d)), (mk, .inl (cI, 61, .inl m_k)), (ms, .inl (cI, 61, .inl m_s)), (mu, .inl (cI, 41, .inl m_u)), (mn, .inl (cJ, 41, .inr (.inl m_n))), (mm, .inl (cI, 41, .inl m_m)), (mo, .inl (cI, 14000, .inl m_o)), (mw, .inl (cI, 61, .inl m_w))] 0 0 0 [(0, .ref m)] []
  refine J_aload_n O (i := 0) (k0 := 0) (pc := 0) 0 rfl rfl dX10_back_0 ?_
  refine J_get O (pc := 1) in_X10_back_X10 0 rfl rfl 12 (by decide) mb_X10_back_1 rfl dX10_back_1 ?_
  refine J_sipush O (v := 6000) (pc := 4) (by decide) dX10_back_4 ?_
  refine J_icmp_le O (tgt := 13) (pc := 7) dX10_back_7 (by decide) (fun c7 => ?_) (fun c7 => ?_)
  · have hf := jt_t c7 hf
    refine J_iconst O (v := 0) (pc := 13) (by decide) dX10_back_13 ?_
    refine J_istore_n O (i := 1) (k0 := 1) (pc := 14) rfl [(1, .int 0), (0, .ref m)] (by decide) rfl dX10_back_14 ?_
    refine J_sub [1, 0] (lv' := [(0, .ref m), (1, .int 0)]) rfl ?_
    exact wk_X10_back_15 O m mt md mk ms mu mn mm mo mw m_dl m_c m_e m_ol m_fa m_f m_p m_is m_d m_k m_s m_u m_n m_m m_o m_w fu fu 0 m_tl m_t hf
  · have hf := jt_f c7 hf
    refine J_bipush O (v := (-4)) (pc := 10) (by decide) dX10_back_10 ?_
    have e9 := Option.some.inj hf
    subst e9
    exact J_iret O (pc := 12) rfl dX10_back_12
