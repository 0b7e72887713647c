theorem mb_X10_ratiosOf_0 : Cond.constant RX10 204 1382380399 ∈ wsX10_ratiosOf := by decide +kernel
theorem in_X10_ratiosOf_X10 : ∀ w ∈ u_ws RX10 TX10 18, w ∈ wsX10_ratiosOf := fun _ h => List.mem_cons_of_mem _ (List.mem_append_right _ h)
theorem mb_X10_ratiosOf_2 : Cond.fieldLink RX10 19 (TX10 5).1 (TX10 5).2.1 (TX10 5).2.2.1 ∈ wsX10_ratiosOf := by decide +kernel
theorem mb_X10_ratiosOf_3 : Cond.fieldLink RX10 13 (TX10 2).1 (TX10 2).2.1 (TX10 2).2.2.1 ∈ wsX10_ratiosOf := by decide +kernel
abbrev rmX10_ratiosOf : Room := { frames := 2, cells := 0, slots := 0, locals := 42 }
set_option maxHeartbeats 4000000 in
set_option maxRecDepth 100000 in
theorem wk_X10_ratiosOf_54 {X : JC} {l : Launch} {D : va_G} {cB cI cJ : ClassId} (O : Jo X (l, D, cB, cI, cJ) cX10_ratiosOf 6 RX10 wsX10_ratiosOf rmX10_ratiosOf (some .int)) (m mt md mk ms mu mn mm mo mw : Nat) (m_tl : Int32) (m_dl : Int32) (m_c : Int32) (m_e : Int32) (m_ol : Int32) (m_fa : Int32) (m_f : Int32) (m_p : Int32) (m_is : Int32) (m_t : Nat → Int32) (m_d : Nat → Int32) (m_k : Nat → Int32) (m_s : Nat → Int32) (m_u : Nat → Int32) (m_n : Nat → Int64) (m_m : Nat → Int32) (m_o : Nat → Int32) (m_w : Nat → Int32) (a1 : Int64) (fu : Nat) {z : Int32} : ∀ (fn : Nat) (v3 : Int32) (v4 : Int32) (v5 : Int32), p_X10_ratiosOf_54 fu m_c m_d m_k m_s a1 fn v3 v4 v5 = some z → J X 6 (JQi X [(m, .inr (6, [.ref mt, .int m_tl, .ref md, .int m_dl, .ref mk, .ref ms, .int m_c, .ref mu, .ref mn, .ref mm, .int m_e, .ref mo, .int m_ol, .int m_fa, .int m_f, .ref mw, .int m_p, .int m_is])), (mt, .inl (cI, 6000, .inl m_t)), (md, .inl (cI, 12000, .inl m_d)), (mk, .inl (cI, 61, .inl m_k)), (ms, .inl (cI, 61, .inl m_s)), (mu, .inl (cI, 41, .inl m_u)), (mn, .inl (cJ, 41, .inr (.inl m_n))), (mm, .inl (cI, 41, .inl m_m)), (mo, .inl (cI, 14000, .inl m_o)), (mw, .inl (cI, 61, .inl m_w))] z 0 0) [(m, .inr (6, [.ref mt, .int m_tl, .ref md, .int m_dl, .ref mk, .ref ms, .int m_c, .ref mu, .ref mn, .ref mm, .int m_e, .ref mo, .int m_ol, .int m_fa, .int m_f, .ref mw, .int m_p, .int m_is])), (mt, .inl (cI, 6000, .inl m_t)), (md, .inl (cI, 12000, .inl m_d)), (mk, .inl (cI, 61, .inl m_k)), (ms, .inl (cI, 61, .inl m_s)), (mu, .inl (cI, 41, .inl m_u)), (mn, .inl (cJ, 41, .inr (.inl m_n))), (mm, .inl (cI, 41, .inl m_m)), (mo, .inl (cI, 14000, .inl m_o)), (mw, .inl (cI, 61, .inl m_w))] 0 0 54 [(0, .ref m), (1, .long a1), (3, .int v3), (4, .int v4), (5, .int v5)] [] := by
  intro fn
  induction fn with
  | zero =>
    intro v3 v4 v5 hf
    rw [p_X10_ratiosOf_54] at hf
    exact jt_n hf
  | succ fn ih =>
    intro v3 v4 v5 hf
    rw [p_X10_ratiosOf_54] at hf
    refine J_iload O (i := 5) (pc := 54) 4 rfl dX10_ratiosOf_54 ?_
    refine J_aload_n O (i := 0) (k0 := 0) (pc := 56) 0 rfl rfl dX10_ratiosOf_56 ?_
    refine J_get O (pc := 57) in_X10_ratiosOf_X10 0 rfl rfl 5 (by decide) mb_X10_ratiosOf_2 rfl dX10_ratiosOf_57 ?_
    refine J_iload_n O (i := 3) (k0 := 3) (pc := 60) 2 rfl rfl dX10_ratiosOf_60 ?_
    obtain ⟨h61, hf⟩ := jt_g hf
    refine J_iald O (pc := 61) 4 1 rfl rfl h61 dX10_ratiosOf_61 ?_
    refine J_icmp_ge O (tgt := 96) (pc := 62) dX10_ratiosOf_62 (by decide) (fun c62 => ?_) (fun c62 => ?_)
    · have hf := jt_t c62 hf
      refine J_bipush O (v := (-2)) (pc := 96) (by decide) dX10_ratiosOf_96 ?_
      have e9 := Option.some.inj hf
      subst e9
      exact J_iret O (pc := 98) rfl dX10_ratiosOf_98
    · have hf := jt_f c62 hf
      refine J_aload_n O (i := 0) (k0 := 0) (pc := 65) 0 rfl rfl dX10_ratiosOf_65 ?_
      refine J_get O (pc := 66) in_X10_ratiosOf_X10 0 rfl rfl 2 (by decide) mb_X10_ratiosOf_3 rfl dX10_ratiosOf_66 ?_
      refine J_iload O (i := 4) (pc := 69) 3 rfl dX10_ratiosOf_69 ?_
      refine J_iload O (i := 5) (pc := 71) 4 rfl dX10_ratiosOf_71 ?_
      refine J_iadd O (pc := 73) dX10_ratiosOf_73 ?_
      obtain ⟨z74, h74, hf⟩ := jt_b hf
      refine J_callSl O (pc := 74) (c_X10_four l D cB cI cJ md 12000 m_d (v4 + v5) h74) rfl gX10_ratiosOf_X10_four hdS_X10_four ⟨(Nat.le_of_ble_eq_true rfl), (Nat.le_of_ble_eq_true rfl)⟩ rfl (st := []) rfl (Nat.le_of_ble_eq_true rfl) [2] [0, 1, 3, 4, 5, 6, 7, 8, 9] rfl rfl rfl rfl rfl (by decide) [(m, .inr (6, [.ref mt, .int m_tl, .ref md, .int m_dl, .ref mk, .ref ms, .int m_c, .ref mu, .ref mn, .ref mm, .int m_e, .ref mo, .int m_ol, .int m_fa, .int m_f, .ref mw, .int m_p, .int m_is])), (mt, .inl (cI, 6000, .inl m_t)), (md, .inl (cI, 12000, .inl m_d)), (mk, .inl (cI, 61, .inl m_k)), (ms, .inl (cI, 61, .inl m_s)), (mu, .inl (cI, 41, .inl m_u)), (mn, .inl (cJ, 41, .inr (.inl m_n))), (mm, .inl (cI, 41, .inl m_m)), (mo, .inl (cI, 14000, .inl m_o)), (mw, .inl (cI, 61, .inl m_w))] [0, 1, 9, 2, 3, 4, 5, 6, 7, 8] rfl rfl rfl (0) (0) (Nat.le_of_ble_eq_true rfl) (Nat.le_of_ble_eq_true rfl) ⟨(Nat.le_of_ble_eq_true rfl), (Nat.le_of_ble_eq_true rfl)⟩ dX10_ratiosOf_74 ?_
      refine J_lload_n O (i := 1) (k0 := 1) (pc := 77) 1 rfl rfl dX10_ratiosOf_77 ?_
      refine J_lif_ne O (tgt := 90) (pc := 78) dX10_ratiosOf_78 dX10_ratiosOf_79 (by decide) (fun c78 => ?_) (fun c78 => ?_)
      · have hf := jt_f c78 hf
        refine J_iinc O (i := 5) (n := 28) (v := v5 + 28) (pc := 90) 4 rfl [(5, .int (v5 + 28)), (0, .ref m), (1, .long a1), (3, .int v3), (4, .int v4)] (by decide) (congrArg (_ + ·) (by decide)) rfl dX10_ratiosOf_90 ?_
        refine J_goto O (tgt := 54) (pc := 93) dX10_ratiosOf_93 (by decide) ?_
        refine J_sub [1, 2, 3, 4, 0] (lv' := [(0, .ref m), (1, .long a1), (3, .int v3), (4, .int v4), (5, .int (v5 + 28))]) rfl ?_
        exact ih v3 v4 (v5 + 28) hf
      · have hf := jt_t c78 hf
        refine J_iload O (i := 4) (pc := 82) 3 rfl dX10_ratiosOf_82 ?_
        refine J_iload O (i := 5) (pc := 84) 4 rfl dX10_ratiosOf_84 ?_
        refine J_iadd O (pc := 86) dX10_ratiosOf_86 ?_
        refine J_iconst O (v := 4) (pc := 87) (by decide) dX10_ratiosOf_87 ?_
        refine J_iadd O (pc := 88) dX10_ratiosOf_88 ?_
        have e9 := Option.some.inj hf
        subst e9
        exact J_iret O (pc := 89) rfl dX10_ratiosOf_89
set_option maxHeartbeats 4000000 in
set_option maxRecDepth 100000 in
theorem c_X10_ratiosOf (l : Launch) (D : va_G) (cB cI cJ : ClassId) (m mt md mk ms mu mn mm mo mw : Nat) (m_tl : Int32) (m_dl : Int32) (m_c : Int32) (m_e : Int32) (m_ol : Int32) (m_fa : Int32) (m_f : Int32) (m_p : Int32) (m_is : Int32) (m_t : Nat → Int32) (m_d : Nat → Int32) (m_k : Nat → Int32) (m_s : Nat → Int32) (m_u : Nat → Int32) (m_n : Nat → Int64) (m_m : Nat → Int32) (m_o : Nat → Int32) (m_w : Nat → Int32) (a1 : Int64) (fu : Nat) {z : Int32} (hf : p_X10_ratiosOf fu m_c m_d m_k m_s a1 = some z) : Ci (l, D, cB, cI, cJ) yX10_ratiosOf wsX10_ratiosOf rmX10_ratiosOf [.ref m, .long a1] [(m, .inr (6, [.ref mt, .int m_tl, .ref md, .int m_dl, .ref mk, .ref ms, .int m_c, .ref mu, .ref mn, .ref mm, .int m_e, .ref mo, .int m_ol, .int m_fa, .int m_f, .ref mw, .int m_p, .int m_is])), (mt, .inl (cI, 6000, .inl m_t)), (md, .inl (cI, 12000, .inl m_d)), (mk, .inl (cI, 61, .inl m_k)), (ms, .inl (cI, 61, .inl m_s)), (mu, .inl (cI, 41, .inl m_u)), (mn, .inl (cJ, 41, .inr (.inl m_n))), (mm, .inl (cI, 41, .inl m_m)), (mo, .inl (cI, 14000, .inl m_o)), (mw, .inl (cI, 61, .inl m_w))] [(m, .inr (6, [.ref mt, .int m_tl, .ref md, .int m_dl, .ref mk, .ref ms, .int m_c, .ref mu, .ref mn, .ref mm, .int m_e, .ref mo, .int m_ol, .int m_fa, .int m_f, .ref mw, .int m_p, .int m_is])), (mt, .inl (cI, 6000, .inl m_t)), (md, .inl (cI, 12000, .inl m_d)), (mk, .inl (cI, 61, .inl m_k)), (ms, .inl (cI, 61, .inl m_s)), (mu, .inl (cI, 41, .inl m_u)), (mn, .inl (cJ, 41, .inr (.inl m_n))), (mm, .inl (cI, 41, .inl m_m)), (mo, .inl (cI, 14000, .inl m_o)), (mw, .inl (cI, 61, .inl m_w))] z := by
  refine Ci_of (cc := cX10_ratiosOf) (nL := 6) (own := RX10) (ret := (some .int)) (by decide) rfl rfl (Nat.le_of_ble_eq_true rfl) (fun X O hnm0 => ?_)
  rw [p_X10_ratiosOf] at hf
  show J X 6 (JQi X [(m, .inr (6, [.ref mt, .int m_tl, .ref md, .int m_dl, .ref mk, .ref ms, .int m_c, .ref mu, .ref mn, .ref mm, .int m_e, .ref mo, .int m_ol, .int m_fa, .int m_f, .ref mw, .int m_p, .int m_is])), (mt, .inl (cI, 6000, .inl m_t)), (md, .inl (cI, 12000, .inl m_d)), (mk, .inl (cI, 61, .inl m_k)), (ms, .inl (cI, 61, .inl m_s)), (mu, .inl (cI, 41, .inl m_u)), (mn, .inl (cJ, 41, .inr (.inl m_n))), (mm, .inl (cI, 41, .inl m_m)), (mo, .inl (cI, 14000, .inl m_o)), (mw, .inl (cI, 61, .inl m_w))] z 0 0) [(m, .inr (6, [.ref mt, .int m_tl, .ref md, .int m_dl, .ref mk, .ref ms, .int m_c, .ref mu, .ref mn, .ref mm, .int m_e, .ref mo, .int m_ol, .int m_fa, .int m_f, .ref mw, .int m_p, .int m_is])), (mt, .inl (cI, 6000, .inl m_t)), (md, .inl (cI, 12000, .inl m_d)), (mk, .inl (cI, 61, .inl m_k)), (ms, .inl (cI, 61, .inl m_s)), (mu, .inl (cI, 41, .inl m_u)), (mn, .inl (cJ, 41, .inr (.inl m_n))), (mm, .inl (cI, 41, .inl m_m)), (mo, .inl (cI, 14000, .inl m_o)), (mw, .inl (cI, 61, .inl m_w))] 0 0 0 [(0, .ref m), (1, .long a1)] []
  refine J_aload_n O (i := 0) (k0 := 0) (pc := 0) 0 rfl rfl dX10_ratiosOf_0 ?_
  refine J_ldc O (pc := 1) mb_X10_ratiosOf_0 dX10_ratiosOf_1 ?_
  refine J_iconst O (v := (-1)) (pc := 3) (by decide) dX10_ratiosOf_3 ?_
  obtain ⟨z4, h4, hf⟩ := jt_b hf
  refine J_callVi O (pc := 4) (c_X10_first l D cB cI cJ m mt md mk ms mu mn mm mo mw m_tl m_dl m_c m_e m_ol m_fa m_f m_p m_is m_t m_d m_k m_s m_u m_n m_m m_o m_w 1382380399 (-1) fu h4) rfl 0 rfl rfl gX10_ratiosOf_X10_first hdV_X10_first ⟨(Nat.le_of_ble_eq_true rfl), (Nat.le_of_ble_eq_true rfl)⟩ rfl (st := []) rfl (Nat.le_of_ble_eq_true rfl) [0, 1, 2, 3, 4, 5, 6, 7, 8, 9] [] rfl rfl rfl rfl rfl (by decide) [(m, .inr (6, [.ref mt, .int m_tl, .ref md, .int m_dl, .ref mk, .ref ms, .int m_c, .ref mu, .ref mn, .ref mm, .int m_e, .ref mo, .int m_ol, .int m_fa, .int m_f, .ref mw, .int m_p, .int m_is])), (mt, .inl (cI, 6000, .inl m_t)), (md, .inl (cI, 12000, .inl m_d)), (mk, .inl (cI, 61, .inl m_k)), (ms, .inl (cI, 61, .inl m_s)), (mu, .inl (cI, 41, .inl m_u)), (mn, .inl (cJ, 41, .inr (.inl m_n))), (mm, .inl (cI, 41, .inl m_m)), (mo, .inl (cI, 14000, .inl m_o)), (mw, .inl (cI, 61, .inl m_w))] [0, 1, 2, 3, 4, 5, 6, 7, 8, 9] rfl rfl rfl (0) (0) (Nat.le_of_ble_eq_true rfl) (Nat.le_of_ble_eq_true rfl) ⟨(Nat.le_of_ble_eq_true rfl), (Nat.le_of_ble_eq_true rfl)⟩ dX10_ratiosOf_4 ?_
  refine J_istore_n O (i := 3) (k0 := 3) (pc := 7) rfl [(3, .int z4), (0, .ref m), (1, .long a1)] (by decide) rfl dX10_ratiosOf_7 ?_
  refine J_iload_n O (i := 3) (k0 := 3) (pc := 8) 0 rfl rfl dX10_ratiosOf_8 ?_
  refine J_bipush O (v := (-2)) (pc := 9) (by decide) dX10_ratiosOf_9 ?_
  refine J_icmp_eq O (tgt := 40) (pc := 11) dX10_ratiosOf_11 (by decide) (fun c11 => ?_) (fun c11 => ?_)
  · have hf := jt_t c11 hf
    refine J_bipush O (v := (-2)) (pc := 40) (by decide) dX10_ratiosOf_40 ?_
    have e9 := Option.some.inj hf
    subst e9
    exact J_iret O (pc := 42) rfl dX10_ratiosOf_42
  · have hf := jt_f c11 hf
    refine J_aload_n O (i := 0) (k0 := 0) (pc := 14) 1 rfl rfl dX10_ratiosOf_14 ?_
    refine J_get O (pc := 15) in_X10_ratiosOf_X10 0 rfl rfl 5 (by decide) mb_X10_ratiosOf_2 rfl dX10_ratiosOf_15 ?_
    refine J_iload_n O (i := 3) (k0 := 3) (pc := 18) 0 rfl rfl dX10_ratiosOf_18 ?_
    obtain ⟨h19, hf⟩ := jt_g hf
    refine J_iald O (pc := 19) 4 1 rfl rfl h19 dX10_ratiosOf_19 ?_
    refine J_bipush O (v := 24) (pc := 20) (by decide) dX10_ratiosOf_20 ?_
    refine J_icmp_lt O (tgt := 40) (pc := 22) dX10_ratiosOf_22 (by decide) (fun c22 => ?_) (fun c22 => ?_)
    · have hf := jt_t c22 hf
      refine J_bipush O (v := (-2)) (pc := 40) (by decide) dX10_ratiosOf_40 ?_
      have e9 := Option.some.inj hf
      subst e9
      exact J_iret O (pc := 42) rfl dX10_ratiosOf_42
    · have hf := jt_f c22 hf
      refine J_aload_n O (i := 0) (k0 := 0) (pc := 25) 1 rfl rfl dX10_ratiosOf_25 ?_
      refine J_get O (pc := 26) in_X10_ratiosOf_X10 0 rfl rfl 5 (by decide) mb_X10_ratiosOf_2 rfl dX10_ratiosOf_26 ?_
      refine J_iload_n O (i := 3) (k0 := 3) (pc := 29) 0 rfl rfl dX10_ratiosOf_29 ?_
      obtain ⟨h30, hf⟩ := jt_g hf
      refine J_iald O (pc := 30) 4 1 rfl rfl h30 dX10_ratiosOf_30 ?_
      refine J_bipush O (v := 24) (pc := 31) (by decide) dX10_ratiosOf_31 ?_
      refine J_isub O (pc := 33) dX10_ratiosOf_33 ?_
      refine J_bipush O (v := 28) (pc := 34) (by decide) dX10_ratiosOf_34 ?_
      refine J_irem O (pc := 36) (by decide) dX10_ratiosOf_36 ?_
      refine J_if_eq O (tgt := 43) (pc := 37) dX10_ratiosOf_37 (by decide) (fun c37 => ?_) (fun c37 => ?_)
      · have hf := jt_t c37 hf
        refine J_aload_n O (i := 0) (k0 := 0) (pc := 43) 1 rfl rfl dX10_ratiosOf_43 ?_
        refine J_iload_n O (i := 3) (k0 := 3) (pc := 44) 0 rfl rfl dX10_ratiosOf_44 ?_
        obtain ⟨z45, h45, hf⟩ := jt_b hf
        refine J_callVi O (pc := 45) (c_X10_fromOf l D cB cI cJ m mt md mk ms mu mn mm mo mw m_tl m_dl m_c m_e m_ol m_fa m_f m_p m_is m_t m_d m_k m_s m_u m_n m_m m_o m_w z4 fu h45) rfl 0 rfl rfl gX10_ratiosOf_X10_fromOf hdV_X10_fromOf ⟨(Nat.le_of_ble_eq_true rfl), (Nat.le_of_ble_eq_true rfl)⟩ rfl (st := []) rfl (Nat.le_of_ble_eq_true rfl) [0, 1, 2, 3, 4, 5, 6, 7, 8, 9] [] rfl rfl rfl rfl rfl (by decide) [(m, .inr (6, [.ref mt, .int m_tl, .ref md, .int m_dl, .ref mk, .ref ms, .int m_c, .ref mu, .ref mn, .ref mm, .int m_e, .ref mo, .int m_ol, .int m_fa, .int m_f, .ref mw, .int m_p, .int m_is])), (mt, .inl (cI, 6000, .inl m_t)), (md, .inl (cI, 12000, .inl m_d)), (mk, .inl (cI, 61, .inl m_k)), (ms, .inl (cI, 61, .inl m_s)), (mu, .inl (cI, 41, .inl m_u)), (mn, .inl (cJ, 41, .inr (.inl m_n))), (mm, .inl (cI, 41, .inl m_m)), (mo, .inl (cI, 14000, .inl m_o)), (mw, .inl (cI, 61, .inl m_w))] [0, 1, 2, 3, 4, 5, 6, 7, 8, 9] rfl rfl rfl (0) (0) (Nat.le_of_ble_eq_true rfl) (Nat.le_of_ble_eq_true rfl) ⟨(Nat.le_of_ble_eq_true rfl), (Nat.le_of_ble_eq_true rfl)⟩ dX10_ratiosOf_45 ?_
        refine J_istore O (i := 4) (pc := 48) [(4, .int z45), (3, .int z4), (0, .ref m), (1, .long a1)] (by decide) rfl dX10_ratiosOf_48 ?_
        refine J_bipush O (v := 24) (pc := 50) (by decide) dX10_ratiosOf_50 ?_
        refine J_istore O (i := 5) (pc := 52) [(5, .int 24), (4, .int z45), (3, .int z4), (0, .ref m), (1, .long a1)] (by decide) rfl dX10_ratiosOf_52 ?_
        refine J_sub [3, 4, 2, 1, 0] (lv' := [(0, .ref m), (1, .long a1), (3, .int z4), (4, .int z45), (5, .int 24)]) rfl ?_
        exact wk_X10_ratiosOf_54 O m mt md mk ms mu mn mm mo mw m_tl m_dl m_c m_e m_ol m_fa m_f m_p m_is m_t m_d m_k m_s m_u m_n m_m m_o m_w a1 fu fu z4 z45 24 hf
      · have hf := jt_f c37 hf
        refine J_bipush O (v := (-2)) (pc := 40) (by decide) dX10_ratiosOf_40 ?_
        have e9 := Option.some.inj hf
        subst e9
        exact J_iret O (pc := 42) rfl dX10_ratiosOf_42
