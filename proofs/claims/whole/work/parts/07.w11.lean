abbrev rmX10_two : Room := { frames := 0, cells := 0, slots := 0, locals := 0 }
set_option maxHeartbeats 4000000 in
set_option maxRecDepth 100000 in
theorem c_X10_two (l : Launch) (D : va_G) (cB cI cJ : ClassId) (p p_n : Nat) (p_f : Nat → Int32) (a1 : Int32) {z : Int32} (hf : p_X10_two p_n p_f a1 = some z) : Ci (l, D, cB, cI, cJ) yX10_two wsX10_two rmX10_two [.ref p, .int a1] [(p, .inl (cI, p_n, .inl p_f))] [(p, .inl (cI, p_n, .inl p_f))] z := by
  refine Ci_of (cc := cX10_two) (nL := 2) (own := RX10) (ret := (some .int)) (by decide) rfl rfl (Nat.le_of_ble_eq_true rfl) (fun X O hnm0 => ?_)
  rw [p_X10_two] at hf
  show J X 2 (JQi X [(p, .inl (cI, p_n, .inl p_f))] z 0 0) [(p, .inl (cI, p_n, .inl p_f))] 0 0 0 [(0, .ref p), (1, .int a1)] []
  refine J_aload_n O (i := 0) (k0 := 0) (pc := 0) 0 rfl rfl dX10_two_0 ?_
  refine J_iload_n O (i := 1) (k0 := 1) (pc := 1) 1 rfl rfl dX10_two_1 ?_
  obtain ⟨h2, hf⟩ := jt_g hf
  refine J_iald O (pc := 2) 0 1 rfl rfl h2 dX10_two_2 ?_
  refine J_bipush O (v := 8) (pc := 3) (by decide) dX10_two_3 ?_
  refine J_ishl O (pc := 5) dX10_two_5 ?_
  refine J_aload_n O (i := 0) (k0 := 0) (pc := 6) 0 rfl rfl dX10_two_6 ?_
  refine J_iload_n O (i := 1) (k0 := 1) (pc := 7) 1 rfl rfl dX10_two_7 ?_
  refine J_iconst O (v := 1) (pc := 8) (by decide) dX10_two_8 ?_
  refine J_iadd O (pc := 9) dX10_two_9 ?_
  obtain ⟨h10, hf⟩ := jt_g hf
  refine J_iald O (pc := 10) 0 1 rfl rfl h10 dX10_two_10 ?_
  refine J_ior O (pc := 11) dX10_two_11 ?_
  have e9 := Option.some.inj hf
  subst e9
  exact J_iret O (pc := 12) rfl dX10_two_12
theorem in_X10_stop_X10 : ∀ w ∈ u_ws RX10 TX10 18, w ∈ wsX10_stop := fun _ h => List.mem_cons_of_mem _ (List.mem_append_right _ h)
theorem mb_X10_stop_1 : Cond.fieldLink RX10 67 (TX10 14).1 (TX10 14).2.1 (TX10 14).2.2.1 ∈ wsX10_stop := by decide +kernel
theorem mb_X10_stop_2 : Cond.fieldLink RX10 35 (TX10 13).1 (TX10 13).2.1 (TX10 13).2.2.1 ∈ wsX10_stop := by decide +kernel
abbrev rmX10_stop : Room := { frames := 0, cells := 0, slots := 0, locals := 0 }
set_option maxHeartbeats 4000000 in
set_option maxRecDepth 100000 in
theorem c_X10_stop (l : Launch) (D : va_G) (cB cI cJ : ClassId) (m mt md mk ms mu mn mm mo mw : Nat) (m_tl : Int32) (m_dl : Int32) (m_c : Int32) (m_e : Int32) (m_ol : Int32) (m_fa : Int32) (m_f : Int32) (m_p : Int32) (m_is : Int32) (m_t : Nat → Int32) (m_d : Nat → Int32) (m_k : Nat → Int32) (m_s : Nat → Int32) (m_u : Nat → Int32) (m_n : Nat → Int64) (m_m : Nat → Int32) (m_o : Nat → Int32) (m_w : Nat → Int32) (a1 : Int32) (a2 : Int32) {z : Int32 × Int32} (hf : p_X10_stop m_fa m_f a1 a2 = some z) : Cv (l, D, cB, cI, cJ) yX10_stop wsX10_stop rmX10_stop [.ref m, .int a1, .int a2] [(m, .inr (6, [.ref mt, .int m_tl, .ref md, .int m_dl, .ref mk, .ref ms, .int m_c, .ref mu, .ref mn, .ref mm, .int m_e, .ref mo, .int m_ol, .int m_fa, .int m_f, .ref mw, .int m_p, .int m_is])), (mt, .inl (cI, 6000, .inl m_t)), (md, .inl (cI, 12000, .inl m_d)), (mk, .inl (cI, 61, .inl m_k)), (ms, .inl (cI, 61, .inl m_s)), (mu, .inl (cI, 41, .inl m_u)), (mn, .inl (cJ, 41, .inr (.inl m_n))), (mm, .inl (cI, 41, .inl m_m)), (mo, .inl (cI, 14000, .inl m_o)), (mw, .inl (cI, 61, .inl m_w))] [(m, .inr (6, [.ref mt, .int m_tl, .ref md, .int m_dl, .ref mk, .ref ms, .int m_c, .ref mu, .ref mn, .ref mm, .int m_e, .ref mo, .int m_ol, .int z.1, .int z.2, .ref mw, .int m_p, .int m_is])), (mt, .inl (cI, 6000, .inl m_t)), (md, .inl (cI, 12000, .inl m_d)), (mk, .inl (cI, 61, .inl m_k)), (ms, .inl (cI, 61, .inl m_s)), (mu, .inl (cI, 41, .inl m_u)), (mn, .inl (cJ, 41, .inr (.inl m_n))), (mm, .inl (cI, 41, .inl m_m)), (mo, .inl (cI, 14000, .inl m_o)), (mw, .inl (cI, 61, .inl m_w))] := by
  refine Cv_of (cc := cX10_stop) (nL := 3) (own := RX10) (ret := none) (by decide) rfl rfl (Nat.le_of_ble_eq_true rfl) (fun X O hnm0 => ?_)
  rw [p_X10_stop] at hf
  show J X 3 (JQv X [(m, .inr (6, [.ref mt, .int m_tl, .ref md, .int m_dl, .ref mk, .ref ms, .int m_c, .ref mu, .ref mn, .ref mm, .int m_e, .ref mo, .int m_ol, .int z.1, .int z.2, .ref mw, .int m_p, .int m_is])), (mt, .inl (cI, 6000, .inl m_t)), (md, .inl (cI, 12000, .inl m_d)), (mk, .inl (cI, 61, .inl m_k)), (ms, .inl (cI, 61, .inl m_s)), (mu, .inl (cI, 41, .inl m_u)), (mn, .inl (cJ, 41, .inr (.inl m_n))), (mm, .inl (cI, 41, .inl m_m)), (mo, .inl (cI, 14000, .inl m_o)), (mw, .inl (cI, 61, .inl m_w))] 0 0) [(m, .inr (6, [.ref mt, .int m_tl, .ref md, .int m_dl, .ref mk, .ref ms, .int m_c, .ref mu, .ref mn, .ref mm, .int m_e, .ref mo, .int m_ol, .int m_fa, .int m_f, .ref mw, .int m_p, .int m_is])), (mt, .inl (cI, 6000, .inl m_t)), (md, .inl (cI, 12000, .inl m_d)), (mk, .inl (cI, 61, .inl m_k)), (ms, .inl (cI, 61, .inl m_s)), (mu, .inl (cI, 41, .inl m_u)), (mn, .inl (cJ, 41, .inr (.inl m_n))), (mm, .inl (cI, 41, .inl m_m)), (mo, .inl (cI, 14000, .inl m_o)), (mw, .inl (cI, 61, .inl m_w))] 0 0 0 [(0, .ref m), (1, .int a1), (2, .int a2)] []
  refine J_aload_n O (i := 0) (k0 := 0) (pc := 0) 0 rfl rfl dX10_stop_0 ?_
  refine J_get O (pc := 1) in_X10_stop_X10 0 rfl rfl 14 (by decide) mb_X10_stop_1 rfl dX10_stop_1 ?_
  refine J_if_ne O (tgt := 17) (pc := 4) dX10_stop_4 (by decide) (fun c4 => ?_) (fun c4 => ?_)
  · have hf := jt_f c4 hf
    have e9 := Option.some.inj hf
    subst e9
    exact J_vret O (pc := 17) dX10_stop_17
  · have hf := jt_t c4 hf
    refine J_aload_n O (i := 0) (k0 := 0) (pc := 7) 0 rfl rfl dX10_stop_7 ?_
    refine J_iload_n O (i := 1) (k0 := 1) (pc := 8) 1 rfl rfl dX10_stop_8 ?_
    refine J_put O (pc := 9) in_X10_stop_X10 tyX10 tyX10_ok nmX10 0 rfl rfl 14 (by decide) mb_X10_stop_1 rfl rfl rfl (Nat.le_of_ble_eq_true rfl) [(m, .inr (6, [.ref mt, .int m_tl, .ref md, .int m_dl, .ref mk, .ref ms, .int m_c, .ref mu, .ref mn, .ref mm, .int m_e, .ref mo, .int m_ol, .int m_fa, .int a1, .ref mw, .int m_p, .int m_is])), (mt, .inl (cI, 6000, .inl m_t)), (md, .inl (cI, 12000, .inl m_d)), (mk, .inl (cI, 61, .inl m_k)), (ms, .inl (cI, 61, .inl m_s)), (mu, .inl (cI, 41, .inl m_u)), (mn, .inl (cJ, 41, .inr (.inl m_n))), (mm, .inl (cI, 41, .inl m_m)), (mo, .inl (cI, 14000, .inl m_o)), (mw, .inl (cI, 61, .inl m_w))] rfl dX10_stop_9 ?_
    refine J_aload_n O (i := 0) (k0 := 0) (pc := 12) 0 rfl rfl dX10_stop_12 ?_
    refine J_iload_n O (i := 2) (k0 := 2) (pc := 13) 2 rfl rfl dX10_stop_13 ?_
    refine J_put O (pc := 14) in_X10_stop_X10 tyX10 tyX10_ok nmX10 0 rfl rfl 13 (by decide) mb_X10_stop_2 rfl rfl rfl (Nat.le_of_ble_eq_true rfl) [(m, .inr (6, [.ref mt, .int m_tl, .ref md, .int m_dl, .ref mk, .ref ms, .int m_c, .ref mu, .ref mn, .ref mm, .int m_e, .ref mo, .int m_ol, .int a2, .int a1, .ref mw, .int m_p, .int m_is])), (mt, .inl (cI, 6000, .inl m_t)), (md, .inl (cI, 12000, .inl m_d)), (mk, .inl (cI, 61, .inl m_k)), (ms, .inl (cI, 61, .inl m_s)), (mu, .inl (cI, 41, .inl m_u)), (mn, .inl (cJ, 41, .inr (.inl m_n))), (mm, .inl (cI, 41, .inl m_m)), (mo, .inl (cI, 14000, .inl m_o)), (mw, .inl (cI, 61, .inl m_w))] rfl dX10_stop_14 ?_
    have e9 := Option.some.inj hf
    subst e9
    exact J_vret O (pc := 17) dX10_stop_17
theorem in_X10_isChunk_X10 : ∀ w ∈ u_ws RX10 TX10 18, w ∈ wsX10_isChunk := fun _ h => List.mem_cons_of_mem _ (List.mem_append_right _ h)
theorem mb_X10_isChunk_1 : Cond.fieldLink RX10 113 (TX10 6).1 (TX10 6).2.1 (TX10 6).2.2.1 ∈ wsX10_isChunk := by decide +kernel
abbrev rmX10_isChunk : Room := { frames := 1, cells := 0, slots := 0, locals := 25 }
set_option maxHeartbeats 4000000 in
set_option maxRecDepth 100000 in
theorem c_X10_isChunk (l : Launch) (D : va_G) (cB cI cJ : ClassId) (m mt md mk ms mu mn mm mo mw : Nat) (m_tl : Int32) (m_dl : Int32) (m_c : Int32) (m_e : Int32) (m_ol : Int32) (m_fa : Int32) (m_f : Int32) (m_p : Int32) (m_is : Int32) (m_t : Nat → Int32) (m_d : Nat → Int32) (m_k : Nat → Int32) (m_s : Nat → Int32) (m_u : Nat → Int32) (m_n : Nat → Int64) (m_m : Nat → Int32) (m_o : Nat → Int32) (m_w : Nat → Int32) (a1 : Int32) {z : Bool} (hf : p_X10_isChunk m_c a1 = some z) : Ci (l, D, cB, cI, cJ) yX10_isChunk wsX10_isChunk rmX10_isChunk [.ref m, .int a1] [(m, .inr (6, [.ref mt, .int m_tl, .ref md, .int m_dl, .ref mk, .ref ms, .int m_c, .ref mu, .ref mn, .ref mm, .int m_e, .ref mo, .int m_ol, .int m_fa, .int m_f, .ref mw, .int m_p, .int m_is])), (mt, .inl (cI, 6000, .inl m_t)), (md, .inl (cI, 12000, .inl m_d)), (mk, .inl (cI, 61, .inl m_k)), (ms, .inl (cI, 61, .inl m_s)), (mu, .inl (cI, 41, .inl m_u)), (mn, .inl (cJ, 41, .inr (.inl m_n))), (mm, .inl (cI, 41, .inl m_m)), (mo, .inl (cI, 14000, .inl m_o)), (mw, .inl (cI, 61, .inl m_w))] [(m, .inr (6, [.ref mt, .int m_tl, .ref md, .int m_dl, .ref mk, .ref ms, .int m_c, .ref mu, .ref mn, .ref mm, .int m_e, .ref mo, .int m_ol, .int m_fa, .int m_f, .ref mw, .int m_p, .int m_is])), (mt, .inl (cI, 6000, .inl m_t)), (md, .inl (cI, 12000, .inl m_d)), (mk, .inl (cI, 61, .inl m_k)), (ms, .inl (cI, 61, .inl m_s)), (mu, .inl (cI, 41, .inl m_u)), (mn, .inl (cJ, 41, .inr (.inl m_n))), (mm, .inl (cI, 41, .inl m_m)), (mo, .inl (cI, 14000, .inl m_o)), (mw, .inl (cI, 61, .inl m_w))] (bI z) := by
  refine Ci_of (cc := cX10_isChunk) (nL := 2) (own := RX10) (ret := (some .boolean)) (by decide) rfl rfl (Nat.le_of_ble_eq_true rfl) (fun X O hnm0 => ?_)
  rw [p_X10_isChunk] at hf
  show J X 2 (JQi X [(m, .inr (6, [.ref mt, .int m_tl, .ref md, .int m_dl, .ref mk, .ref ms, .int m_c, .ref mu, .ref mn, .ref mm, .int m_e, .ref mo, .int m_ol, .int m_fa, .int m_f, .ref mw, .int m_p, .int m_is])), (mt, .inl (cI, 6000, .inl m_t)), (md, .inl (cI, 12000, .inl m_d)), (mk, .inl (cI, 61, .inl m_k)), (ms, .inl (cI, 61, .inl m_s)), (mu, .inl (cI, 41, .inl m_u)), (mn, .inl (cJ, 41, .inr (.inl m_n))), (mm, .inl (cI, 41, .inl m_m)), (mo, .inl (cI, 14000, .inl m_o)), (mw, .inl (cI, 61, .inl m_w))] (bI z) 0 0) [(m, .inr (6, [.ref mt, .int m_tl, .ref md, .int m_dl, .ref mk, .ref ms, .int m_c, .ref mu, .ref mn, .ref mm, .int m_e, .ref mo, .int m_ol, .int m_fa, .int m_f, .ref mw, .int m_p, .int m_is])), (mt, .inl (cI, 6000, .inl m_t)), (md, .inl (cI, 12000, .inl m_d)), (mk, .inl (cI, 61, .inl m_k)), (ms, .inl (cI, 61, .inl m_s)), (mu, .inl (cI, 41, .inl m_u)), (mn, .inl (cJ, 41, .inr (.inl m_n))), (mm, .inl (cI, 41, .inl m_m)), (mo, .inl (cI, 14000, .inl m_o)), (mw, .inl (cI, 61, .inl m_w))] 0 0 0 [(0, .ref m), (1, .int a1)] []
  refine J_iload_n O (i := 1) (k0 := 1) (pc := 0) 1 rfl rfl dX10_isChunk_0 ?_
  refine J_i2l O (pc := 1) dX10_isChunk_1 ?_
  refine J_lconst O (v := 0) (pc := 2) (by decide) dX10_isChunk_2 ?_
  refine J_aload_n O (i := 0) (k0 := 0) (pc := 3) 0 rfl rfl dX10_isChunk_3 ?_
  refine J_get O (pc := 4) in_X10_isChunk_X10 0 rfl rfl 6 (by decide) mb_X10_isChunk_1 rfl dX10_isChunk_4 ?_
  refine J_iconst O (v := 1) (pc := 7) (by decide) dX10_isChunk_7 ?_
  refine J_isub O (pc := 8) dX10_isChunk_8 ?_
  refine J_i2l O (pc := 9) dX10_isChunk_9 ?_
  obtain ⟨z10, h10, hf⟩ := jt_b hf
  refine J_callSi O (pc := 10) (c_X10_in l D cB cI cJ (Int32.toInt64 a1) 0 (Int32.toInt64 (m_c - 1)) h10) rfl gX10_isChunk_X10_in hdS_X10_in ⟨(Nat.le_of_ble_eq_true rfl), (Nat.le_of_ble_eq_true rfl)⟩ rfl (st := []) rfl (Nat.le_of_ble_eq_true rfl) [] [0, 1, 2, 3, 4, 5, 6, 7, 8, 9] rfl rfl rfl rfl rfl (by decide) [(m, .inr (6, [.ref mt, .int m_tl, .ref md, .int m_dl, .ref mk, .ref ms, .int m_c, .ref mu, .ref mn, .ref mm, .int m_e, .ref mo, .int m_ol, .int m_fa, .int m_f, .ref mw, .int m_p, .int m_is])), (mt, .inl (cI, 6000, .inl m_t)), (md, .inl (cI, 12000, .inl m_d)), (mk, .inl (cI, 61, .inl m_k)), (ms, .inl (cI, 61, .inl m_s)), (mu, .inl (cI, 41, .inl m_u)), (mn, .inl (cJ, 41, .inr (.inl m_n))), (mm, .inl (cI, 41, .inl m_m)), (mo, .inl (cI, 14000, .inl m_o)), (mw, .inl (cI, 61, .inl m_w))] [0, 1, 2, 3, 4, 5, 6, 7, 8, 9] rfl rfl rfl (0) (0) (Nat.le_of_ble_eq_true rfl) (Nat.le_of_ble_eq_true rfl) ⟨(Nat.le_of_ble_eq_true rfl), (Nat.le_of_ble_eq_true rfl)⟩ dX10_isChunk_10 ?_
  have e9 := Option.some.inj hf
  subst e9
  exact J_zret O (pc := 13) rfl dX10_isChunk_13
theorem in_X10_fromOf_X10 : ∀ w ∈ u_ws RX10 TX10 18, w ∈ wsX10_fromOf := fun _ h => List.mem_cons_of_mem _ (List.mem_append_right _ h)
theorem mb_X10_fromOf_1 : Cond.fieldLink RX10 19 (TX10 5).1 (TX10 5).2.1 (TX10 5).2.2.1 ∈ wsX10_fromOf := by decide +kernel
abbrev rmX10_fromOf : Room := { frames := 0, cells := 0, slots := 0, locals := 0 }
set_option maxHeartbeats 4000000 in
set_option maxRecDepth 100000 in
theorem wk_X10_fromOf_4 {X : JC} {l : Launch} {D : va_G} {cB cI cJ : ClassId} (O : Jo X (l, D, cB, cI, cJ) cX10_fromOf 4 RX10 wsX10_fromOf rmX10_fromOf (some .int)) (m mt md mk ms mu mn mm mo mw : Nat) (m_tl : Int32) (m_dl : Int32) (m_c : Int32) (m_e : Int32) (m_ol : Int32) (m_fa : Int32) (m_f : Int32) (m_p : Int32) (m_is : Int32) (m_t : Nat → Int32) (m_d : Nat → Int32) (m_k : Nat → Int32) (m_s : Nat → Int32) (m_u : Nat → Int32) (m_n : Nat → Int64) (m_m : Nat → Int32) (m_o : Nat → Int32) (m_w : Nat → Int32) (a1 : Int32) (fu : Nat) {z : Int32} : ∀ (fn : Nat) (v2 : Int32) (v3 : Int32), p_X10_fromOf_4 fu m_s a1 fn v2 v3 = some z → J X 4 (JQi X [(m, .inr (6, [.ref mt, .int m_tl, .ref md, .int m_dl, .ref mk, .ref ms, .int m_c, .ref mu, .ref mn, .ref mm, .int m_e, .ref mo, .int m_ol, .int m_fa, .int m_f, .ref mw, .int m_p, .int m_is])), (mt, .inl (cI, 6000, .inl m_t)), (md, .inl (cI, 12000, .inl m_d)), (mk, .inl (cI, 61, .inl m_k)), (ms, .inl (cI, 61, .inl m_s)), (mu, .inl (cI, 41, .inl m_u)), (mn, .inl (cJ, 41, .inr (.inl m_n))), (mm, .inl (cI, 41, .inl m_m)), (mo, .inl (cI, 14000, .inl m_o)), (mw, .inl (cI, 61, .inl m_w))] z 0 0) [(m, .inr (6, [.ref mt, .int m_tl, .ref md, .int m_dl, .ref mk, .ref ms, .int m_c, .ref mu, .ref mn, .ref mm, .int m_e, .ref mo, .int m_ol, .int m_fa, .int m_f, .ref mw, .int m_p, .int m_is])), (mt, .inl (cI, 6000, .inl m_t)), (md, .inl (cI, 12000, .inl m_d)), (mk, .inl (cI, 61, .inl m_k)), (ms, .inl (cI, 61, .inl m_s)), (mu, .inl (cI, 41, .inl m_u)), (mn, .inl (cJ, 41, .inr (.inl m_n))), (mm, .inl (cI, 41, .inl m_m)), (mo, .inl (cI, 14000, .inl m_o)), (mw, .inl (cI, 61, .inl m_w))] 0 0 4 [(0, .ref m), (1, .int a1), (2, .int v2), (3, .int v3)] [] := by
  intro fn
  induction fn with
  | zero =>
    intro v2 v3 hf
    rw [p_X10_fromOf_4] at hf
    exact jt_n hf
  | succ fn ih =>
    intro v2 v3 hf
    rw [p_X10_fromOf_4] at hf
    refine J_iload_n O (i := 3) (k0 := 3) (pc := 4) 3 rfl rfl dX10_fromOf_4 ?_
    refine J_iload_n O (i := 1) (k0 := 1) (pc := 5) 1 rfl rfl dX10_fromOf_5 ?_
    refine J_icmp_ge O (tgt := 24) (pc := 6) dX10_fromOf_6 (by decide) (fun c6 => ?_) (fun c6 => ?_)
    · have hf := jt_t c6 hf
      refine J_iload_n O (i := 2) (k0 := 2) (pc := 24) 2 rfl rfl dX10_fromOf_24 ?_
      have e9 := Option.some.inj hf
      subst e9
      exact J_iret O (pc := 25) rfl dX10_fromOf_25
    · have hf := jt_f c6 hf
      refine J_iload_n O (i := 2) (k0 := 2) (pc := 9) 2 rfl rfl dX10_fromOf_9 ?_
      refine J_aload_n O (i := 0) (k0 := 0) (pc := 10) 0 rfl rfl dX10_fromOf_10 ?_
      refine J_get O (pc := 11) in_X10_fromOf_X10 0 rfl rfl 5 (by decide) mb_X10_fromOf_1 rfl dX10_fromOf_11 ?_
      refine J_iload_n O (i := 3) (k0 := 3) (pc := 14) 3 rfl rfl dX10_fromOf_14 ?_
      obtain ⟨h15, hf⟩ := jt_g hf
      refine J_iald O (pc := 15) 4 1 rfl rfl h15 dX10_fromOf_15 ?_
      refine J_iadd O (pc := 16) dX10_fromOf_16 ?_
      refine J_istore_n O (i := 2) (k0 := 2) (pc := 17) rfl [(2, .int (v2 + (m_s (Int32.toNatClampNeg v3)))), (0, .ref m), (1, .int a1), (3, .int v3)] (by decide) rfl dX10_fromOf_17 ?_
      refine J_iinc O (i := 3) (n := 1) (v := v3 + 1) (pc := 18) 3 rfl [(3, .int (v3 + 1)), (2, .int (v2 + (m_s (Int32.toNatClampNeg v3)))), (0, .ref m), (1, .int a1)] (by decide) (congrArg (_ + ·) (by decide)) rfl dX10_fromOf_18 ?_
      refine J_goto O (tgt := 4) (pc := 21) dX10_fromOf_21 (by decide) ?_
      refine J_sub [2, 3, 1, 0] (lv' := [(0, .ref m), (1, .int a1), (2, .int (v2 + (m_s (Int32.toNatClampNeg v3)))), (3, .int (v3 + 1))]) rfl ?_
      exact ih (v2 + (m_s (Int32.toNatClampNeg v3))) (v3 + 1) hf
set_option maxHeartbeats 4000000 in
set_option maxRecDepth 100000 in
theorem c_X10_fromOf (l : Launch) (D : va_G) (cB cI cJ : ClassId) (m mt md mk ms mu mn mm mo mw : Nat) (m_tl : Int32) (m_dl : Int32) (m_c : Int32) (m_e : Int32) (m_ol : Int32) (m_fa : Int32) (m_f : Int32) (m_p : Int32) (m_is : Int32) (m_t : Nat → Int32) (m_d : Nat → Int32) (m_k : Nat → Int32) (m_s : Nat → Int32) (m_u : Nat → Int32) (m_n : Nat → Int64) (m_m : Nat → Int32) (m_o : Nat → Int32) (m_w : Nat → Int32) (a1 : Int32) (fu : Nat) {z : Int32} (hf : p_X10_fromOf fu m_s a1 = some z) : Ci (l, D, cB, cI, cJ) yX10_fromOf wsX10_fromOf rmX10_fromOf [.ref m, .int a1] [(m, .inr (6, [.ref mt, .int m_tl, .ref md, .int m_dl, .ref mk, .ref ms, .int m_c, .ref mu, .ref mn, .ref mm, .int m_e, .ref mo, .int m_ol, .int m_fa, .int m_f, .ref mw, .int m_p, .int m_is])), (mt, .inl (cI, 6000, .inl m_t)), (md, .inl (cI, 12000, .inl m_d)), (mk, .inl (cI, 61, .inl m_k)), (ms, .inl (cI, 61, .inl m_s)), (mu, .inl (cI, 41, .inl m_u)), (mn, .inl (cJ, 41, .inr (.inl m_n))), (mm, .inl (cI, 41, .inl m_m)), (mo, .inl (cI, 14000, .inl m_o)), (mw, .inl (cI, 61, .inl m_w))] [(m, .inr (6, [.ref mt, .int m_tl, .ref md, .int m_dl, .ref mk, .ref ms, .int m_c, .ref mu, .ref mn, .ref mm, .int m_e, .ref mo, .int m_ol, .int m_fa, .int m_f, .ref mw, .int m_p, .int m_is])), (mt, .inl (cI, 6000, .inl m_t)), (md, .inl (cI, 12000, .inl m_d)), (mk, .inl (cI, 61, .inl m_k)), (ms, .inl (cI, 61, .inl m_s)), (mu, .inl (cI, 41, .inl m_u)), (mn, .inl (cJ, 41, .inr (.inl m_n))), (mm, .inl (cI, 41, .inl m_m)), (mo, .inl (cI, 14000, .inl m_o)), (mw, .inl (cI, 61, .inl m_w))] z := by
  refine Ci_of (cc := cX10_fromOf) (nL := 4) (own := RX10) (ret := (some .int)) (by decide) rfl rfl (Nat.le_of_ble_eq_true rfl) (fun X O hnm0 => ?_)
  rw [p_X10_fromOf] at hf
  show J X 4 (JQi X [(m, .inr (6, [.ref mt, .int m_tl, .ref md, .int m_dl, .ref mk, .ref ms, .int m_c, .ref mu, .ref mn, .ref mm, .int m_e, .ref mo, .int m_ol, .int m_fa, .int m_f, .ref mw, .int m_p, .int m_is])), (mt, .inl (cI, 6000, .inl m_t)), (md, .inl (cI, 12000, .inl m_d)), (mk, .inl (cI, 61, .inl m_k)), (ms, .inl (cI, 61, .inl m_s)), (mu, .inl (cI, 41, .inl m_u)), (mn, .inl (cJ, 41, .inr (.inl m_n))), (mm, .inl (cI, 41, .inl m_m)), (mo, .inl (cI, 14000, .inl m_o)), (mw, .inl (cI, 61, .inl m_w))] z 0 0) [(m, .inr (6, [.ref mt, .int m_tl, .ref md, .int m_dl, .ref mk, .ref ms, .int m_c, .ref mu, .ref mn, .ref mm, .int m_e, .ref mo, .int m_ol, .int m_fa, .int m_f, .ref mw, .int m_p, .int m_is])), (mt, .inl (cI, 6000, .inl m_t)), (md, .inl (cI, 12000, .inl m_d)), (mk, .inl (cI, 61, .inl m_k)), (ms, .inl (cI, 61, .inl m_s)), (mu, .inl (cI, 41, .inl m_u)), (mn, .inl (cJ, 41, .inr (.inl m_n))), (mm, .inl (cI, 41, .inl m_m)), (mo, .inl (cI, 14000, .inl m_o)), (mw, .inl (cI, 61, .inl m_w))] 0 0 0 [(0, .ref m), (1, .int a1)] []
  refine J_iconst O (v := 0) (pc := 0) (by decide) dX10_fromOf_0 ?_
  refine J_istore_n O (i := 2) (k0 := 2) (pc := 1) rfl [(2, .int 0), (0, .ref m), (1, .int a1)] (by decide) rfl dX10_fromOf_1 ?_
  refine J_iconst O (v := 0) (pc := 2) (by decide) dX10_fromOf_2 ?_
  refine J_istore_n O (i := 3) (k0 := 3) (pc := 3) rfl [(3, .int 0), (2, .int 0), (0, .ref m), (1, .int a1)] (by decide) rfl dX10_fromOf_3 ?_
  refine J_sub [2, 3, 1, 0] (lv' := [(0, .ref m), (1, .int a1), (2, .int 0), (3, .int 0)]) rfl ?_
  exact wk_X10_fromOf_4 O m mt md mk ms mu mn mm mo mw m_tl m_dl m_c m_e m_ol m_fa m_f m_p m_is m_t m_d m_k m_s m_u m_n m_m m_o m_w a1 fu fu 0 0 hf
theorem in_X10_placeOf_X10 : ∀ w ∈ u_ws RX10 TX10 18, w ∈ wsX10_placeOf := fun _ h => List.mem_cons_of_mem _ (List.mem_append_right _ h)
theorem mb_X10_placeOf_1 : Cond.fieldLink RX10 119 (TX10 10).1 (TX10 10).2.1 (TX10 10).2.2.1 ∈ wsX10_placeOf := by decide +kernel
theorem mb_X10_placeOf_2 : Cond.fieldLink RX10 19 (TX10 5).1 (TX10 5).2.1 (TX10 5).2.2.1 ∈ wsX10_placeOf := by decide +kernel
abbrev rmX10_placeOf : Room := { frames := 0, cells := 0, slots := 0, locals := 0 }
set_option maxHeartbeats 4000000 in
set_option maxRecDepth 100000 in
theorem wk_X10_placeOf_13 {X : JC} {l : Launch} {D : va_G} {cB cI cJ : ClassId} (O : Jo X (l, D, cB, cI, cJ) cX10_placeOf 4 RX10 wsX10_placeOf rmX10_placeOf (some .int)) (m mt md mk ms mu mn mm mo mw : Nat) (m_tl : Int32) (m_dl : Int32) (m_c : Int32) (m_e : Int32) (m_ol : Int32) (m_fa : Int32) (m_f : Int32) (m_p : Int32) (m_is : Int32) (m_t : Nat → Int32) (m_d : Nat → Int32) (m_k : Nat → Int32) (m_s : Nat → Int32) (m_u : Nat → Int32) (m_n : Nat → Int64) (m_m : Nat → Int32) (m_o : Nat → Int32) (m_w : Nat → Int32) (a1 : Int32) (fu : Nat) {z : Int32} : ∀ (fn : Nat) (v2 : Int32) (v3 : Int32), p_X10_placeOf_13 fu m_e m_s a1 fn v2 v3 = some z → J X 4 (JQi X [(m, .inr (6, [.ref mt, .int m_tl, .ref md, .int m_dl, .ref mk, .ref ms, .int m_c, .ref mu, .ref mn, .ref mm, .int m_e, .ref mo, .int m_ol, .int m_fa, .int m_f, .ref mw, .int m_p, .int m_is])), (mt, .inl (cI, 6000, .inl m_t)), (md, .inl (cI, 12000, .inl m_d)), (mk, .inl (cI, 61, .inl m_k)), (ms, .inl (cI, 61, .inl m_s)), (mu, .inl (cI, 41, .inl m_u)), (mn, .inl (cJ, 41, .inr (.inl m_n))), (mm, .inl (cI, 41, .inl m_m)), (mo, .inl (cI, 14000, .inl m_o)), (mw, .inl (cI, 61, .inl m_w))] z 0 0) [(m, .inr (6, [.ref mt, .int m_tl, .ref md, .int m_dl, .ref mk, .ref ms, .int m_c, .ref mu, .ref mn, .ref mm, .int m_e, .ref mo, .int m_ol, .int m_fa, .int m_f, .ref mw, .int m_p, .int m_is])), (mt, .inl (cI, 6000, .inl m_t)), (md, .inl (cI, 12000, .inl m_d)), (mk, .inl (cI, 61, .inl m_k)), (ms, .inl (cI, 61, .inl m_s)), (mu, .inl (cI, 41, .inl m_u)), (mn, .inl (cJ, 41, .inr (.inl m_n))), (mm, .inl (cI, 41, .inl m_m)), (mo, .inl (cI, 14000, .inl m_o)), (mw, .inl (cI, 61, .inl m_w))] 0 0 13 [(0, .ref m), (1, .int a1), (2, .int v2), (3, .int v3)] [] := by
  intro fn
  induction fn with
  | zero =>
    intro v2 v3 hf
    rw [p_X10_placeOf_13] at hf
    exact jt_n hf
  | succ fn ih =>
    intro v2 v3 hf
    rw [p_X10_placeOf_13] at hf
    refine J_iload_n O (i := 3) (k0 := 3) (pc := 13) 3 rfl rfl dX10_placeOf_13 ?_
    refine J_iload_n O (i := 1) (k0 := 1) (pc := 14) 1 rfl rfl dX10_placeOf_14 ?_
    refine J_icmp_ge O (tgt := 45) (pc := 15) dX10_placeOf_15 (by decide) (fun c15 => ?_) (fun c15 => ?_)
    · have hf := jt_t c15 hf
      refine J_iload_n O (i := 2) (k0 := 2) (pc := 45) 2 rfl rfl dX10_placeOf_45 ?_
      have e9 := Option.some.inj hf
      subst e9
      exact J_iret O (pc := 46) rfl dX10_placeOf_46
    · have hf := jt_f c15 hf
      refine J_iload_n O (i := 2) (k0 := 2) (pc := 18) 2 rfl rfl dX10_placeOf_18 ?_
      refine J_bipush O (v := 8) (pc := 19) (by decide) dX10_placeOf_19 ?_
      refine J_aload_n O (i := 0) (k0 := 0) (pc := 21) 0 rfl rfl dX10_placeOf_21 ?_
      refine J_get O (pc := 22) in_X10_placeOf_X10 0 rfl rfl 5 (by decide) mb_X10_placeOf_2 rfl dX10_placeOf_22 ?_
      refine J_iload_n O (i := 3) (k0 := 3) (pc := 25) 3 rfl rfl dX10_placeOf_25 ?_
      obtain ⟨h26, hf⟩ := jt_g hf
      refine J_iald O (pc := 26) 4 1 rfl rfl h26 dX10_placeOf_26 ?_
      refine J_iadd O (pc := 27) dX10_placeOf_27 ?_
      refine J_aload_n O (i := 0) (k0 := 0) (pc := 28) 0 rfl rfl dX10_placeOf_28 ?_
      refine J_get O (pc := 29) in_X10_placeOf_X10 0 rfl rfl 5 (by decide) mb_X10_placeOf_2 rfl dX10_placeOf_29 ?_
      refine J_iload_n O (i := 3) (k0 := 3) (pc := 32) 3 rfl rfl dX10_placeOf_32 ?_
      obtain ⟨h33, hf⟩ := jt_g hf
      refine J_iald O (pc := 33) 4 1 rfl rfl h33 dX10_placeOf_33 ?_
      refine J_iconst O (v := 2) (pc := 34) (by decide) dX10_placeOf_34 ?_
      refine J_irem O (pc := 35) (by decide) dX10_placeOf_35 ?_
      refine J_iadd O (pc := 36) dX10_placeOf_36 ?_
      refine J_iadd O (pc := 37) dX10_placeOf_37 ?_
      refine J_istore_n O (i := 2) (k0 := 2) (pc := 38) rfl [(2, .int (v2 + ((8 + (m_s (Int32.toNatClampNeg v3))) + ((m_s (Int32.toNatClampNeg v3)) - (m_s (Int32.toNatClampNeg v3)) / 2 * 2)))), (0, .ref m), (1, .int a1), (3, .int v3)] (by decide) rfl dX10_placeOf_38 ?_
      refine J_iinc O (i := 3) (n := 1) (v := v3 + 1) (pc := 39) 3 rfl [(3, .int (v3 + 1)), (2, .int (v2 + ((8 + (m_s (Int32.toNatClampNeg v3))) + ((m_s (Int32.toNatClampNeg v3)) - (m_s (Int32.toNatClampNeg v3)) / 2 * 2)))), (0, .ref m), (1, .int a1)] (by decide) (congrArg (_ + ·) (by decide)) rfl dX10_placeOf_39 ?_
      refine J_goto O (tgt := 13) (pc := 42) dX10_placeOf_42 (by decide) ?_
      refine J_sub [2, 3, 1, 0] (lv' := [(0, .ref m), (1, .int a1), (2, .int (v2 + ((8 + (m_s (Int32.toNatClampNeg v3))) + ((m_s (Int32.toNatClampNeg v3)) - (m_s (Int32.toNatClampNeg v3)) / 2 * 2)))), (3, .int (v3 + 1))]) rfl ?_
      exact ih (v2 + ((8 + (m_s (Int32.toNatClampNeg v3))) + ((m_s (Int32.toNatClampNeg v3)) - (m_s (Int32.toNatClampNeg v3)) / 2 * 2))) (v3 + 1) hf
set_option maxHeartbeats 4000000 in
set_option maxRecDepth 100000 in
theorem c_X10_placeOf (l : Launch) (D : va_G) (cB cI cJ : ClassId) (m mt md mk ms mu mn mm mo mw : Nat) (m_tl : Int32) (m_dl : Int32) (m_c : Int32) (m_e : Int32) (m_ol : Int32) (m_fa : Int32) (m_f : Int32) (m_p : Int32) (m_is : Int32) (m_t : Nat → Int32) (m_d : Nat → Int32) (m_k : Nat → Int32) (m_s : Nat → Int32) (m_u : Nat → Int32) (m_n : Nat → Int64) (m_m : Nat → Int32) (m_o : Nat → Int32) (m_w : Nat → Int32) (a1 : Int32) (fu : Nat) {z : Int32} (hf : p_X10_placeOf fu m_e m_s a1 = some z) : Ci (l, D, cB, cI, cJ) yX10_placeOf wsX10_placeOf rmX10_placeOf [.ref m, .int a1] [(m, .inr (6, [.ref mt, .int m_tl, .ref md, .int m_dl, .ref mk, .ref ms, .int m_c, .ref mu, .ref mn, .ref mm, .int m_e, .ref mo, .int m_ol, .int m_fa, .int m_f, .ref mw, .int m_p, .int m_is])), (mt, .inl (cI, 6000, .inl m_t)), (md, .inl (cI, 12000, .inl m_d)), (mk, .inl (cI, 61, .inl m_k)), (ms, .inl (cI, 61, .inl m_s)), (mu, .inl (cI, 41, .inl m_u)), (mn, .inl (cJ, 41, .inr (.inl m_n))), (mm, .inl (cI, 41, .inl m_m)), (mo, .inl (cI, 14000, .inl m_o)), (mw, .inl (cI, 61, .inl m_w))] [(m, .inr (6, [.ref mt, .int m_tl, .ref md, .int m_dl, .ref mk, .ref ms, .int m_c, .ref mu, .ref mn, .ref mm, .int m_e, .ref mo, .int m_ol, .int m_fa, .int m_f, .ref mw, .int m_p, .int m_is])), (mt, .inl (cI, 6000, .inl m_t)), (md, .inl (cI, 12000, .inl m_d)), (mk, .inl (cI, 61, .inl m_k)), (ms, .inl (cI, 61, .inl m_s)), (mu, .inl (cI, 41, .inl m_u)), (mn, .inl (cJ, 41, .inr (.inl m_n))), (mm, .inl (cI, 41, .inl m_m)), (mo, .inl (cI, 14000, .inl m_o)), (mw, .inl (cI, 61, .inl m_w))] z := by
  refine Ci_of (cc := cX10_placeOf) (nL := 4) (own := RX10) (ret := (some .int)) (by decide) rfl rfl (Nat.le_of_ble_eq_true rfl) (fun X O hnm0 => ?_)
  rw [p_X10_placeOf] at hf
  show J X 4 (JQi X [(m, .inr (6, [.ref mt, .int m_tl, .ref md, .int m_dl, .ref mk, .ref ms, .int m_c, .ref mu, .ref mn, .ref mm, .int m_e, .ref mo, .int m_ol, .int m_fa, .int m_f, .ref mw, .int m_p, .int m_is])), (mt, .inl (cI, 6000, .inl m_t)), (md, .inl (cI, 12000, .inl m_d)), (mk, .inl (cI, 61, .inl m_k)), (ms, .inl (cI, 61, .inl m_s)), (mu, .inl (cI, 41, .inl m_u)), (mn, .inl (cJ, 41, .inr (.inl m_n))), (mm, .inl (cI, 41, .inl m_m)), (mo, .inl (cI, 14000, .inl m_o)), (mw, .inl (cI, 61, .inl m_w))] z 0 0) [(m, .inr (6, [.ref mt, .int m_tl, .ref md, .int m_dl, .ref mk, .ref ms, .int m_c, .ref mu, .ref mn, .ref mm, .int m_e, .ref mo, .int m_ol, .int m_fa, .int m_f, .ref mw, .int m_p, .int m_is])), (mt, .inl (cI, 6000, .inl m_t)), (md, .inl (cI, 12000, .inl m_d)), (mk, .inl (cI, 61, .inl m_k)), (ms, .inl (cI, 61, .inl m_s)), (mu, .inl (cI, 41, .inl m_u)), (mn, .inl (cJ, 41, .inr (.inl m_n))), (mm, .inl (cI, 41, .inl m_m)), (mo, .inl (cI, 14000, .inl m_o)), (mw, .inl (cI, 61, .inl m_w))] 0 0 0 [(0, .ref m), (1, .int a1)] []
  refine J_bipush O (v := 24) (pc := 0) (by decide) dX10_placeOf_0 ?_
  refine J_bipush O (v := 12) (pc := 2) (by decide) dX10_placeOf_2 ?_
  refine J_aload_n O (i := 0) (k0 := 0) (pc := 4) 0 rfl rfl dX10_placeOf_4 ?_
  refine J_get O (pc := 5) in_X10_placeOf_X10 0 rfl rfl 10 (by decide) mb_X10_placeOf_1 rfl dX10_placeOf_5 ?_
  refine J_imul O (pc := 8) dX10_placeOf_8 ?_
  refine J_iadd O (pc := 9) dX10_placeOf_9 ?_
  refine J_istore_n O (i := 2) (k0 := 2) (pc := 10) rfl [(2, .int (24 + (12 * m_e))), (0, .ref m), (1, .int a1)] (by decide) rfl dX10_placeOf_10 ?_
  refine J_iconst O (v := 0) (pc := 11) (by decide) dX10_placeOf_11 ?_
  refine J_istore_n O (i := 3) (k0 := 3) (pc := 12) rfl [(3, .int 0), (2, .int (24 + (12 * m_e))), (0, .ref m), (1, .int a1)] (by decide) rfl dX10_placeOf_12 ?_
  refine J_sub [2, 3, 1, 0] (lv' := [(0, .ref m), (1, .int a1), (2, .int (24 + (12 * m_e))), (3, .int 0)]) rfl ?_
  exact wk_X10_placeOf_13 O m mt md mk ms mu mn mm mo mw m_tl m_dl m_c m_e m_ol m_fa m_f m_p m_is m_t m_d m_k m_s m_u m_n m_m m_o m_w a1 fu fu (24 + (12 * m_e)) 0 hf
theorem in_X10_meant_X10 : ∀ w ∈ u_ws RX10 TX10 18, w ∈ wsX10_meant := fun _ h => List.mem_cons_of_mem _ (List.mem_append_right _ h)
theorem mb_X10_meant_1 : Cond.fieldLink RX10 119 (TX10 10).1 (TX10 10).2.1 (TX10 10).2.2.1 ∈ wsX10_meant := by decide +kernel
theorem mb_X10_meant_2 : Cond.fieldLink RX10 29 (TX10 9).1 (TX10 9).2.1 (TX10 9).2.2.1 ∈ wsX10_meant := by decide +kernel
abbrev rmX10_meant : Room := { frames := 0, cells := 0, slots := 0, locals := 0 }
set_option maxHeartbeats 4000000 in
set_option maxRecDepth 100000 in
theorem wk_X10_meant_4 {X : JC} {l : Launch} {D : va_G} {cB cI cJ : ClassId} (O : Jo X (l, D, cB, cI, cJ) cX10_meant 4 RX10 wsX10_meant rmX10_meant (some .int)) (m mt md mk ms mu mn mm mo mw : Nat) (m_tl : Int32) (m_dl : Int32) (m_c : Int32) (m_e : Int32) (m_ol : Int32) (m_fa : Int32) (m_f : Int32) (m_p : Int32) (m_is : Int32) (m_t : Nat → Int32) (m_d : Nat → Int32) (m_k : Nat → Int32) (m_s : Nat → Int32) (m_u : Nat → Int32) (m_n : Nat → Int64) (m_m : Nat → Int32) (m_o : Nat → Int32) (m_w : Nat → Int32) (a1 : Int32) (fu : Nat) {z : Int32} : ∀ (fn : Nat) (v2 : Int32) (v3 : Int32), p_X10_meant_4 fu m_e m_m a1 fn v2 v3 = some z → J X 4 (JQi X [(m, .inr (6, [.ref mt, .int m_tl, .ref md, .int m_dl, .ref mk, .ref ms, .int m_c, .ref mu, .ref mn, .ref mm, .int m_e, .ref mo, .int m_ol, .int m_fa, .int m_f, .ref mw, .int m_p, .int m_is])), (mt, .inl (cI, 6000, .inl m_t)), (md, .inl (cI, 12000, .inl m_d)), (mk, .inl (cI, 61, .inl m_k)), (ms, .inl (cI, 61, .inl m_s)), (mu, .inl (cI, 41, .inl m_u)), (mn, .inl (cJ, 41, .inr (.inl m_n))), (mm, .inl (cI, 41, .inl m_m)), (mo, .inl (cI, 14000, .inl m_o)), (mw, .inl (cI, 61, .inl m_w))] z 0 0) [(m, .inr (6, [.ref mt, .int m_tl, .ref md, .int m_dl, .ref mk, .ref ms, .int m_c, .ref mu, .ref mn, .ref mm, .int m_e, .ref mo, .int m_ol, .int m_fa, .int m_f, .ref mw, .int m_p, .int m_is])), (mt, .inl (cI, 6000, .inl m_t)), (md, .inl (cI, 12000, .inl m_d)), (mk, .inl (cI, 61, .inl m_k)), (ms, .inl (cI, 61, .inl m_s)), (mu, .inl (cI, 41, .inl m_u)), (mn, .inl (cJ, 41, .inr (.inl m_n))), (mm, .inl (cI, 41, .inl m_m)), (mo, .inl (cI, 14000, .inl m_o)), (mw, .inl (cI, 61, .inl m_w))] 0 0 4 [(0, .ref m), (1, .int a1), (2, .int v2), (3, .int v3)] [] := by
  intro fn
  induction fn with
  | zero =>
    intro v2 v3 hf
    rw [p_X10_meant_4] at hf
    exact jt_n hf
  | succ fn ih =>
    intro v2 v3 hf
    rw [p_X10_meant_4] at hf
    refine J_iload_n O (i := 3) (k0 := 3) (pc := 4) 3 rfl rfl dX10_meant_4 ?_
    refine J_aload_n O (i := 0) (k0 := 0) (pc := 5) 0 rfl rfl dX10_meant_5 ?_
    refine J_get O (pc := 6) in_X10_meant_X10 0 rfl rfl 10 (by decide) mb_X10_meant_1 rfl dX10_meant_6 ?_
    refine J_icmp_ge O (tgt := 36) (pc := 9) dX10_meant_9 (by decide) (fun c9 => ?_) (fun c9 => ?_)
    · have hf := jt_t c9 hf
      refine J_iload_n O (i := 2) (k0 := 2) (pc := 36) 2 rfl rfl dX10_meant_36 ?_
      have e9 := Option.some.inj hf
      subst e9
      exact J_iret O (pc := 37) rfl dX10_meant_37
    · have hf := jt_f c9 hf
      refine J_iload_n O (i := 2) (k0 := 2) (pc := 12) 2 rfl rfl dX10_meant_12 ?_
      refine J_aload_n O (i := 0) (k0 := 0) (pc := 13) 0 rfl rfl dX10_meant_13 ?_
      refine J_get O (pc := 14) in_X10_meant_X10 0 rfl rfl 9 (by decide) mb_X10_meant_2 rfl dX10_meant_14 ?_
      refine J_iload_n O (i := 3) (k0 := 3) (pc := 17) 3 rfl rfl dX10_meant_17 ?_
      obtain ⟨h18, hf⟩ := jt_g hf
      refine J_iald O (pc := 18) 7 1 rfl rfl h18 dX10_meant_18 ?_
      refine J_iload_n O (i := 1) (k0 := 1) (pc := 19) 1 rfl rfl dX10_meant_19 ?_
      refine J_icmp_ne O (tgt := 27) (pc := 20) dX10_meant_20 (by decide) (fun c20 => ?_) (fun c20 => ?_)
      · have hf := jt_f c20 hf
        refine J_iconst O (v := 0) (pc := 27) (by decide) dX10_meant_27 ?_
        refine J_iadd O (pc := 28) dX10_meant_28 ?_
        refine J_istore_n O (i := 2) (k0 := 2) (pc := 29) rfl [(2, .int (v2 + 0)), (0, .ref m), (1, .int a1), (3, .int v3)] (by decide) rfl dX10_meant_29 ?_
        refine J_iinc O (i := 3) (n := 1) (v := v3 + 1) (pc := 30) 3 rfl [(3, .int (v3 + 1)), (2, .int (v2 + 0)), (0, .ref m), (1, .int a1)] (by decide) (congrArg (_ + ·) (by decide)) rfl dX10_meant_30 ?_
        refine J_goto O (tgt := 4) (pc := 33) dX10_meant_33 (by decide) ?_
        refine J_sub [2, 3, 1, 0] (lv' := [(0, .ref m), (1, .int a1), (2, .int (v2 + 0)), (3, .int (v3 + 1))]) rfl ?_
        exact ih (v2 + 0) (v3 + 1) hf
      · have hf := jt_t c20 hf
        refine J_iconst O (v := 1) (pc := 23) (by decide) dX10_meant_23 ?_
        refine J_goto O (tgt := 28) (pc := 24) dX10_meant_24 (by decide) ?_
        refine J_iadd O (pc := 28) dX10_meant_28 ?_
        refine J_istore_n O (i := 2) (k0 := 2) (pc := 29) rfl [(2, .int (v2 + 1)), (0, .ref m), (1, .int a1), (3, .int v3)] (by decide) rfl dX10_meant_29 ?_
        refine J_iinc O (i := 3) (n := 1) (v := v3 + 1) (pc := 30) 3 rfl [(3, .int (v3 + 1)), (2, .int (v2 + 1)), (0, .ref m), (1, .int a1)] (by decide) (congrArg (_ + ·) (by decide)) rfl dX10_meant_30 ?_
        refine J_goto O (tgt := 4) (pc := 33) dX10_meant_33 (by decide) ?_
        refine J_sub [2, 3, 1, 0] (lv' := [(0, .ref m), (1, .int a1), (2, .int (v2 + 1)), (3, .int (v3 + 1))]) rfl ?_
        exact ih (v2 + 1) (v3 + 1) hf
set_option maxHeartbeats 4000000 in
set_option maxRecDepth 100000 in
theorem c_X10_meant (l : Launch) (D : va_G) (cB cI cJ : ClassId) (m mt md mk ms mu mn mm mo mw : Nat) (m_tl : Int32) (m_dl : Int32) (m_c : Int32) (m_e : Int32) (m_ol : Int32) (m_fa : Int32) (m_f : Int32) (m_p : Int32) (m_is : Int32) (m_t : Nat → Int32) (m_d : Nat → Int32) (m_k : Nat → Int32) (m_s : Nat → Int32) (m_u : Nat → Int32) (m_n : Nat → Int64) (m_m : Nat → Int32) (m_o : Nat → Int32) (m_w : Nat → Int32) (a1 : Int32) (fu : Nat) {z : Int32} (hf : p_X10_meant fu m_e m_m a1 = some z) : Ci (l, D, cB, cI, cJ) yX10_meant wsX10_meant rmX10_meant [.ref m, .int a1] [(m, .inr (6, [.ref mt, .int m_tl, .ref md, .int m_dl, .ref mk, .ref ms, .int m_c, .ref mu, .ref mn, .ref mm, .int m_e, .ref mo, .int m_ol, .int m_fa, .int m_f, .ref mw, .int m_p, .int m_is])), (mt, .inl (cI, 6000, .inl m_t)), (md, .inl (cI, 12000, .inl m_d)), (mk, .inl (cI, 61, .inl m_k)), (ms, .inl (cI, 61, .inl m_s)), (mu, .inl (cI, 41, .inl m_u)), (mn, .inl (cJ, 41, .inr (.inl m_n))), (mm, .inl (cI, 41, .inl m_m)), (mo, .inl (cI, 14000, .inl m_o)), (mw, .inl (cI, 61, .inl m_w))] [(m, .inr (6, [.ref mt, .int m_tl, .ref md, .int m_dl, .ref mk, .ref ms, .int m_c, .ref mu, .ref mn, .ref mm, .int m_e, .ref mo, .int m_ol, .int m_fa, .int m_f, .ref mw, .int m_p, .int m_is])), (mt, .inl (cI, 6000, .inl m_t)), (md, .inl (cI, 12000, .inl m_d)), (mk, .inl (cI, 61, .inl m_k)), (ms, .inl (cI, 61, .inl m_s)), (mu, .inl (cI, 41, .inl m_u)), (mn, .inl (cJ, 41, .inr (.inl m_n))), (mm, .inl (cI, 41, .inl m_m)), (mo, .inl (cI, 14000, .inl m_o)), (mw, .inl (cI, 61, .inl m_w))] z := by
  refine Ci_of (cc := cX10_meant) (nL := 4) (own := RX10) (ret := (some .int)) (by decide) rfl rfl (Nat.le_of_ble_eq_true rfl) (fun X O hnm0 => ?_)
  rw [p_X10_meant] at hf
  show J X 4 (JQi X [(m, .inr (6, [.ref mt, .int m_tl, .ref md, .int m_dl, .ref mk, .ref ms, .int m_c, .ref mu, .ref mn, .ref mm, .int m_e, .ref mo, .int m_ol, .int m_fa, .int m_f, .ref mw, .int m_p, .int m_is])), (mt, .inl (cI, 6000, .inl m_t)), (md, .inl (cI, 12000, .inl m_d)), (mk, .inl (cI, 61, .inl m_k)), (ms, .inl (cI, 61, .inl m_s)), (mu, .inl (cI, 41, .inl m_u)), (mn, .inl (cJ, 41, .inr (.inl m_n))), (mm, .inl (cI, 41, .inl m_m)), (mo, .inl (cI, 14000, .inl m_o)), (mw, .inl (cI, 61, .inl m_w))] z 0 0) [(m, .inr (6, [.ref mt, .int m_tl, .ref md, .int m_dl, .ref mk, .ref ms, .int m_c, .ref mu, .ref mn, .ref mm, .int m_e, .ref mo, .int m_ol, .int m_fa, .int m_f, .ref mw, .int m_p, .int m_is])), (mt, .inl (cI, 6000, .inl m_t)), (md, .inl (cI, 12000, .inl m_d)), (mk, .inl (cI, 61, .inl m_k)), (ms, .inl (cI, 61, .inl m_s)), (mu, .inl (cI, 41, .inl m_u)), (mn, .inl (cJ, 41, .inr (.inl m_n))), (mm, .inl (cI, 41, .inl m_m)), (mo, .inl (cI, 14000, .inl m_o)), (mw, .inl (cI, 61, .inl m_w))] 0 0 0 [(0, .ref m), (1, .int a1)] []
  refine J_iconst O (v := 0) (pc := 0) (by decide) dX10_meant_0 ?_
  refine J_istore_n O (i := 2) (k0 := 2) (pc := 1) rfl [(2, .int 0), (0, .ref m), (1, .int a1)] (by decide) rfl dX10_meant_1 ?_
  refine J_iconst O (v := 0) (pc := 2) (by decide) dX10_meant_2 ?_
  refine J_istore_n O (i := 3) (k0 := 3) (pc := 3) rfl [(3, .int 0), (2, .int 0), (0, .ref m), (1, .int a1)] (by decide) rfl dX10_meant_3 ?_
  refine J_sub [2, 3, 1, 0] (lv' := [(0, .ref m), (1, .int a1), (2, .int 0), (3, .int 0)]) rfl ?_
  exact wk_X10_meant_4 O m mt md mk ms mu mn mm mo mw m_tl m_dl m_c m_e m_ol m_fa m_f m_p m_is m_t m_d m_k m_s m_u m_n m_m m_o m_w a1 fu fu 0 0 hf
theorem mb_X10_feed_0 : Cond.constantLong RX10 56 8 ∈ wsX10_feed := by decide +kernel
theorem in_X10_feed_X10 : ∀ w ∈ u_ws RX10 TX10 18, w ∈ wsX10_feed := fun _ h => List.mem_cons_of_mem _ (List.mem_append_right _ h)
theorem mb_X10_feed_2 : Cond.fieldLink RX10 58 (TX10 1).1 (TX10 1).2.1 (TX10 1).2.2.1 ∈ wsX10_feed := by decide +kernel
theorem mb_X10_feed_3 : Cond.fieldLink RX10 7 (TX10 0).1 (TX10 0).2.1 (TX10 0).2.2.1 ∈ wsX10_feed := by decide +kernel
theorem mb_X10_feed_4 : Cond.constantLong RX10 61 255 ∈ wsX10_feed := by decide +kernel
abbrev rmX10_feed : Room := { frames := 1, cells := 0, slots := 0, locals := 25 }
set_option maxHeartbeats 4000000 in
set_option maxRecDepth 100000 in
theorem wk_X10_feed_34 {X : JC} {l : Launch} {D : va_G} {cB cI cJ : ClassId} (O : Jo X (l, D, cB, cI, cJ) cX10_feed 5 RX10 wsX10_feed rmX10_feed (some .int)) (m mt md mk ms mu mn mm mo mw : Nat) (m_dl : Int32) (m_c : Int32) (m_e : Int32) (m_ol : Int32) (m_fa : Int32) (m_f : Int32) (m_p : Int32) (m_is : Int32) (m_d : Nat → Int32) (m_k : Nat → Int32) (m_s : Nat → Int32) (m_u : Nat → Int32) (m_n : Nat → Int64) (m_m : Nat → Int32) (m_o : Nat → Int32) (m_w : Nat → Int32) (a1 : Int32) (a2 : Int64) (fu : Nat) {z : Int32 × Int32 × (Nat → Int32)} : ∀ (fn : Nat) (v4 : Int32) (m_tl : Int32) (m_t : Nat → Int32), p_X10_feed_34 fu a1 a2 fn v4 m_tl m_t = some z → J X 5 (JQi X [(m, .inr (6, [.ref mt, .int z.2.1, .ref md, .int m_dl, .ref mk, .ref ms, .int m_c, .ref mu, .ref mn, .ref mm, .int m_e, .ref mo, .int m_ol, .int m_fa, .int m_f, .ref mw, .int m_p, .int m_is])), (mt, .inl (cI, 6000, .inl z.2.2)), (md, .inl (cI, 12000, .inl m_d)), (mk, .inl (cI, 61, .inl m_k)), (ms, .inl (cI, 61, .inl m_s)), (mu, .inl (cI, 41, .inl m_u)), (mn, .inl (cJ, 41, .inr (.inl m_n))), (mm, .inl (cI, 41, .inl m_m)), (mo, .inl (cI, 14000, .inl m_o)), (mw, .inl (cI, 61, .inl m_w))] z.1 0 0) [(m, .inr (6, [.ref mt, .int m_tl, .ref md, .int m_dl, .ref mk, .ref ms, .int m_c, .ref mu, .ref mn, .ref mm, .int m_e, .ref mo, .int m_ol, .int m_fa, .int m_f, .ref mw, .int m_p, .int m_is])), (mt, .inl (cI, 6000, .inl m_t)), (md, .inl (cI, 12000, .inl m_d)), (mk, .inl (cI, 61, .inl m_k)), (ms, .inl (cI, 61, .inl m_s)), (mu, .inl (cI, 41, .inl m_u)), (mn, .inl (cJ, 41, .inr (.inl m_n))), (mm, .inl (cI, 41, .inl m_m)), (mo, .inl (cI, 14000, .inl m_o)), (mw, .inl (cI, 61, .inl m_w))] 0 0 34 [(0, .ref m), (2, .long a2), (4, .int v4)] [] := by
  intro fn
  induction fn with
  | zero =>
    intro v4 m_tl m_t hf
    rw [p_X10_feed_34] at hf
    exact jt_n hf
  | succ fn ih =>
    intro v4 m_tl m_t hf
    rw [p_X10_feed_34] at hf
    refine J_iload O (i := 4) (pc := 34) 2 rfl dX10_feed_34 ?_
    refine J_if_lt O (tgt := 76) (pc := 36) dX10_feed_36 (by decide) (fun c36 => ?_) (fun c36 => ?_)
    · have hf := jt_t c36 hf
      refine J_aload_n O (i := 0) (k0 := 0) (pc := 76) 0 rfl rfl dX10_feed_76 ?_
      refine J_get O (pc := 77) in_X10_feed_X10 0 rfl rfl 1 (by decide) mb_X10_feed_2 rfl dX10_feed_77 ?_
      have e9 := Option.some.inj hf
      subst e9
      exact J_iret O (pc := 80) rfl dX10_feed_80
    · have hf := jt_f c36 hf
      refine J_aload_n O (i := 0) (k0 := 0) (pc := 39) 0 rfl rfl dX10_feed_39 ?_
      refine J_get O (pc := 40) in_X10_feed_X10 0 rfl rfl 0 (by decide) mb_X10_feed_3 rfl dX10_feed_40 ?_
      refine J_aload_n O (i := 0) (k0 := 0) (pc := 43) 0 rfl rfl dX10_feed_43 ?_
      refine J_get O (pc := 44) in_X10_feed_X10 0 rfl rfl 1 (by decide) mb_X10_feed_2 rfl dX10_feed_44 ?_
      refine J_lload_n O (i := 2) (k0 := 2) (pc := 47) 1 rfl rfl dX10_feed_47 ?_
      refine J_bipush O (v := 8) (pc := 48) (by decide) dX10_feed_48 ?_
      refine J_iload O (i := 4) (pc := 50) 2 rfl dX10_feed_50 ?_
      refine J_imul O (pc := 52) dX10_feed_52 ?_
      refine J_lshr O (pc := 53) dX10_feed_53 ?_
      refine J_ldc2 O (pc := 54) mb_X10_feed_4 dX10_feed_54 ?_
      refine J_land O (pc := 57) dX10_feed_57 ?_
      refine J_l2i O (pc := 58) dX10_feed_58 ?_
      obtain ⟨h59, hf⟩ := jt_g hf
      refine J_iast O (pc := 59) 1 1 rfl rfl h59 [(m, .inr (6, [.ref mt, .int m_tl, .ref md, .int m_dl, .ref mk, .ref ms, .int m_c, .ref mu, .ref mn, .ref mm, .int m_e, .ref mo, .int m_ol, .int m_fa, .int m_f, .ref mw, .int m_p, .int m_is])), (mt, .inl (cI, 6000, .inl (upd m_t (Int32.toNatClampNeg m_tl) (Int64.toInt32 ((a2 >>> ((8 * v4).toInt64 &&& 63)) &&& 255))))), (md, .inl (cI, 12000, .inl m_d)), (mk, .inl (cI, 61, .inl m_k)), (ms, .inl (cI, 61, .inl m_s)), (mu, .inl (cI, 41, .inl m_u)), (mn, .inl (cJ, 41, .inr (.inl m_n))), (mm, .inl (cI, 41, .inl m_m)), (mo, .inl (cI, 14000, .inl m_o)), (mw, .inl (cI, 61, .inl m_w))] rfl dX10_feed_59 ?_
      refine J_aload_n O (i := 0) (k0 := 0) (pc := 60) 0 rfl rfl dX10_feed_60 ?_
      refine J_dup O (pc := 61) rfl dX10_feed_61 ?_
      refine J_get O (pc := 62) in_X10_feed_X10 0 rfl rfl 1 (by decide) mb_X10_feed_2 rfl dX10_feed_62 ?_
      refine J_iconst O (v := 1) (pc := 65) (by decide) dX10_feed_65 ?_
      refine J_iadd O (pc := 66) dX10_feed_66 ?_
      refine J_put O (pc := 67) in_X10_feed_X10 tyX10 tyX10_ok nmX10 0 rfl rfl 1 (by decide) mb_X10_feed_2 rfl rfl rfl (Nat.le_of_ble_eq_true rfl) [(m, .inr (6, [.ref mt, .int (m_tl + 1), .ref md, .int m_dl, .ref mk, .ref ms, .int m_c, .ref mu, .ref mn, .ref mm, .int m_e, .ref mo, .int m_ol, .int m_fa, .int m_f, .ref mw, .int m_p, .int m_is])), (mt, .inl (cI, 6000, .inl (upd m_t (Int32.toNatClampNeg m_tl) (Int64.toInt32 ((a2 >>> ((8 * v4).toInt64 &&& 63)) &&& 255))))), (md, .inl (cI, 12000, .inl m_d)), (mk, .inl (cI, 61, .inl m_k)), (ms, .inl (cI, 61, .inl m_s)), (mu, .inl (cI, 41, .inl m_u)), (mn, .inl (cJ, 41, .inr (.inl m_n))), (mm, .inl (cI, 41, .inl m_m)), (mo, .inl (cI, 14000, .inl m_o)), (mw, .inl (cI, 61, .inl m_w))] rfl dX10_feed_67 ?_
      refine J_iinc O (i := 4) (n := (-1)) (v := v4 + (-1)) (pc := 70) 2 rfl [(4, .int (v4 + (-1))), (0, .ref m), (2, .long a2)] (by decide) (congrArg (_ + ·) (by decide)) rfl dX10_feed_70 ?_
      refine J_goto O (tgt := 34) (pc := 73) dX10_feed_73 (by decide) ?_
      refine J_sub [1, 2, 0] (lv' := [(0, .ref m), (2, .long a2), (4, .int (v4 + (-1)))]) rfl ?_
      exact ih (v4 + (-1)) (m_tl + 1) (upd m_t (Int32.toNatClampNeg m_tl) (Int64.toInt32 ((a2 >>> ((8 * v4).toInt64 &&& 63)) &&& 255))) hf
set_option maxHeartbeats 4000000 in
set_option maxRecDepth 100000 in
theorem c_X10_feed (l : Launch) (D : va_G) (cB cI cJ : ClassId) (m mt md mk ms mu mn mm mo mw : Nat) (m_tl : Int32) (m_dl : Int32) (m_c : Int32) (m_e : Int32) (m_ol : Int32) (m_fa : Int32) (m_f : Int32) (m_p : Int32) (m_is : Int32) (m_t : Nat → Int32) (m_d : Nat → Int32) (m_k : Nat → Int32) (m_s : Nat → Int32) (m_u : Nat → Int32) (m_n : Nat → Int64) (m_m : Nat → Int32) (m_o : Nat → Int32) (m_w : Nat → Int32) (a1 : Int32) (a2 : Int64) (fu : Nat) {z : Int32 × Int32 × (Nat → Int32)} (hf : p_X10_feed fu m_tl m_t a1 a2 = some z) : Ci (l, D, cB, cI, cJ) yX10_feed wsX10_feed rmX10_feed [.ref m, .int a1, .long a2] [(m, .inr (6, [.ref mt, .int m_tl, .ref md, .int m_dl, .ref mk, .ref ms, .int m_c, .ref mu, .ref mn, .ref mm, .int m_e, .ref mo, .int m_ol, .int m_fa, .int m_f, .ref mw, .int m_p, .int m_is])), (mt, .inl (cI, 6000, .inl m_t)), (md, .inl (cI, 12000, .inl m_d)), (mk, .inl (cI, 61, .inl m_k)), (ms, .inl (cI, 61, .inl m_s)), (mu, .inl (cI, 41, .inl m_u)), (mn, .inl (cJ, 41, .inr (.inl m_n))), (mm, .inl (cI, 41, .inl m_m)), (mo, .inl (cI, 14000, .inl m_o)), (mw, .inl (cI, 61, .inl m_w))] [(m, .inr (6, [.ref mt, .int z.2.1, .ref md, .int m_dl, .ref mk, .ref ms, .int m_c, .ref mu, .ref mn, .ref mm, .int m_e, .ref mo, .int m_ol, .int m_fa, .int m_f, .ref mw, .int m_p, .int m_is])), (mt, .inl (cI, 6000, .inl z.2.2)), (md, .inl (cI, 12000, .inl m_d)), (mk, .inl (cI, 61, .inl m_k)), (ms, .inl (cI, 61, .inl m_s)), (mu, .inl (cI, 41, .inl m_u)), (mn, .inl (cJ, 41, .inr (.inl m_n))), (mm, .inl (cI, 41, .inl m_m)), (mo, .inl (cI, 14000, .inl m_o)), (mw, .inl (cI, 61, .inl m_w))] z.1 := by
  refine Ci_of (cc := cX10_feed) (nL := 5) (own := RX10) (ret := (some .int)) (by decide) rfl rfl (Nat.le_of_ble_eq_true rfl) (fun X O hnm0 => ?_)
  rw [p_X10_feed] at hf
  show J X 5 (JQi X [(m, .inr (6, [.ref mt, .int z.2.1, .ref md, .int m_dl, .ref mk, .ref ms, .int m_c, .ref mu, .ref mn, .ref mm, .int m_e, .ref mo, .int m_ol, .int m_fa, .int m_f, .ref mw, .int m_p, .int m_is])), (mt, .inl (cI, 6000, .inl z.2.2)), (md, .inl (cI, 12000, .inl m_d)), (mk, .inl (cI, 61, .inl m_k)), (ms, .inl (cI, 61, .inl m_s)), (mu, .inl (cI, 41, .inl m_u)), (mn, .inl (cJ, 41, .inr (.inl m_n))), (mm, .inl (cI, 41, .inl m_m)), (mo, .inl (cI, 14000, .inl m_o)), (mw, .inl (cI, 61, .inl m_w))] z.1 0 0) [(m, .inr (6, [.ref mt, .int m_tl, .ref md, .int m_dl, .ref mk, .ref ms, .int m_c, .ref mu, .ref mn, .ref mm, .int m_e, .ref mo, .int m_ol, .int m_fa, .int m_f, .ref mw, .int m_p, .int m_is])), (mt, .inl (cI, 6000, .inl m_t)), (md, .inl (cI, 12000, .inl m_d)), (mk, .inl (cI, 61, .inl m_k)), (ms, .inl (cI, 61, .inl m_s)), (mu, .inl (cI, 41, .inl m_u)), (mn, .inl (cJ, 41, .inr (.inl m_n))), (mm, .inl (cI, 41, .inl m_m)), (mo, .inl (cI, 14000, .inl m_o)), (mw, .inl (cI, 61, .inl m_w))] 0 0 0 [(0, .ref m), (1, .int a1), (2, .long a2)] []
  refine J_iload_n O (i := 1) (k0 := 1) (pc := 0) 1 rfl rfl dX10_feed_0 ?_
  refine J_i2l O (pc := 1) dX10_feed_1 ?_
  refine J_lconst O (v := 1) (pc := 2) (by decide) dX10_feed_2 ?_
  refine J_ldc2 O (pc := 3) mb_X10_feed_0 dX10_feed_3 ?_
  obtain ⟨z6, h6, hf⟩ := jt_b hf
  refine J_callSi O (pc := 6) (c_X10_in l D cB cI cJ (Int32.toInt64 a1) 1 8 h6) rfl gX10_feed_X10_in hdS_X10_in ⟨(Nat.le_of_ble_eq_true rfl), (Nat.le_of_ble_eq_true rfl)⟩ rfl (st := []) rfl (Nat.le_of_ble_eq_true rfl) [] [0, 1, 2, 3, 4, 5, 6, 7, 8, 9] rfl rfl rfl rfl rfl (by decide) [(m, .inr (6, [.ref mt, .int m_tl, .ref md, .int m_dl, .ref mk, .ref ms, .int m_c, .ref mu, .ref mn, .ref mm, .int m_e, .ref mo, .int m_ol, .int m_fa, .int m_f, .ref mw, .int m_p, .int m_is])), (mt, .inl (cI, 6000, .inl m_t)), (md, .inl (cI, 12000, .inl m_d)), (mk, .inl (cI, 61, .inl m_k)), (ms, .inl (cI, 61, .inl m_s)), (mu, .inl (cI, 41, .inl m_u)), (mn, .inl (cJ, 41, .inr (.inl m_n))), (mm, .inl (cI, 41, .inl m_m)), (mo, .inl (cI, 14000, .inl m_o)), (mw, .inl (cI, 61, .inl m_w))] [0, 1, 2, 3, 4, 5, 6, 7, 8, 9] rfl rfl rfl (0) (0) (Nat.le_of_ble_eq_true rfl) (Nat.le_of_ble_eq_true rfl) ⟨(Nat.le_of_ble_eq_true rfl), (Nat.le_of_ble_eq_true rfl)⟩ dX10_feed_6 ?_
  refine J_zne O (tgt := 14) (pc := 9) dX10_feed_9 (by decide) (fun c9 => ?_) (fun c9 => ?_)
  · have hf := jt_t c9 hf
    refine J_aload_n O (i := 0) (k0 := 0) (pc := 14) 0 rfl rfl dX10_feed_14 ?_
    refine J_get O (pc := 15) in_X10_feed_X10 0 rfl rfl 1 (by decide) mb_X10_feed_2 rfl dX10_feed_15 ?_
    refine J_iload_n O (i := 1) (k0 := 1) (pc := 18) 1 rfl rfl dX10_feed_18 ?_
    refine J_iadd O (pc := 19) dX10_feed_19 ?_
    refine J_sipush O (v := 6000) (pc := 20) (by decide) dX10_feed_20 ?_
    refine J_icmp_le O (tgt := 29) (pc := 23) dX10_feed_23 (by decide) (fun c23 => ?_) (fun c23 => ?_)
    · have hf := jt_t c23 hf
      refine J_iload_n O (i := 1) (k0 := 1) (pc := 29) 1 rfl rfl dX10_feed_29 ?_
      refine J_iconst O (v := 1) (pc := 30) (by decide) dX10_feed_30 ?_
      refine J_isub O (pc := 31) dX10_feed_31 ?_
      refine J_istore O (i := 4) (pc := 32) [(4, .int (a1 - 1)), (0, .ref m), (1, .int a1), (2, .long a2)] (by decide) rfl dX10_feed_32 ?_
      refine J_sub [1, 3, 0] (lv' := [(0, .ref m), (2, .long a2), (4, .int (a1 - 1))]) rfl ?_
      exact wk_X10_feed_34 O m mt md mk ms mu mn mm mo mw m_dl m_c m_e m_ol m_fa m_f m_p m_is m_d m_k m_s m_u m_n m_m m_o m_w a1 a2 fu fu (a1 - 1) m_tl m_t hf
    · have hf := jt_f c23 hf
      refine J_bipush O (v := (-4)) (pc := 26) (by decide) dX10_feed_26 ?_
      have e9 := Option.some.inj hf
      subst e9
      exact J_iret O (pc := 28) rfl dX10_feed_28
  · have hf := jt_f c9 hf
    refine J_iconst O (v := (-1)) (pc := 12) (by decide) dX10_feed_12 ?_
    have e9 := Option.some.inj hf
    subst e9
    exact J_iret O (pc := 13) rfl dX10_feed_13
theorem in_X10_cut_X10 : ∀ w ∈ u_ws RX10 TX10 18, w ∈ wsX10_cut := fun _ h => List.mem_cons_of_mem _ (List.mem_append_right _ h)
theorem mb_X10_cut_1 : Cond.fieldLink RX10 58 (TX10 1).1 (TX10 1).2.1 (TX10 1).2.2.1 ∈ wsX10_cut := by decide +kernel
abbrev rmX10_cut : Room := { frames := 1, cells := 0, slots := 0, locals := 25 }
set_option maxHeartbeats 4000000 in
set_option maxRecDepth 100000 in
theorem c_X10_cut (l : Launch) (D : va_G) (cB cI cJ : ClassId) (m mt md mk ms mu mn mm mo mw : Nat) (m_tl : Int32) (m_dl : Int32) (m_c : Int32) (m_e : Int32) (m_ol : Int32) (m_fa : Int32) (m_f : Int32) (m_p : Int32) (m_is : Int32) (m_t : Nat → Int32) (m_d : Nat → Int32) (m_k : Nat → Int32) (m_s : Nat → Int32) (m_u : Nat → Int32) (m_n : Nat → Int64) (m_m : Nat → Int32) (m_o : Nat → Int32) (m_w : Nat → Int32) (a1 : Int32) {z : Int32 × Int32} (hf : p_X10_cut m_tl a1 = some z) : Ci (l, D, cB, cI, cJ) yX10_cut wsX10_cut rmX10_cut [.ref m, .int a1] [(m, .inr (6, [.ref mt, .int m_tl, .ref md, .int m_dl, .ref mk, .ref ms, .int m_c, .ref mu, .ref mn, .ref mm, .int m_e, .ref mo, .int m_ol, .int m_fa, .int m_f, .ref mw, .int m_p, .int m_is])), (mt, .inl (cI, 6000, .inl m_t)), (md, .inl (cI, 12000, .inl m_d)), (mk, .inl (cI, 61, .inl m_k)), (ms, .inl (cI, 61, .inl m_s)), (mu, .inl (cI, 41, .inl m_u)), (mn, .inl (cJ, 41, .inr (.inl m_n))), (mm, .inl (cI, 41, .inl m_m)), (mo, .inl (cI, 14000, .inl m_o)), (mw, .inl (cI, 61, .inl m_w))] [(m, .inr (6, [.ref mt, .int z.2, .ref md, .int m_dl, .ref mk, .ref ms, .int m_c, .ref mu, .ref mn, .ref mm, .int m_e, .ref mo, .int m_ol, .int m_fa, .int m_f, .ref mw, .int m_p, .int m_is])), (mt, .inl (cI, 6000, .inl m_t)), (md, .inl (cI, 12000, .inl m_d)), (mk, .inl (cI, 61, .inl m_k)), (ms, .inl (cI, 61, .inl m_s)), (mu, .inl (cI, 41, .inl m_u)), (mn, .inl (cJ, 41, .inr (.inl m_n))), (mm, .inl (cI, 41, .inl m_m)), (mo, .inl (cI, 14000, .inl m_o)), (mw, .inl (cI, 61, .inl m_w))] z.1 := by
  refine Ci_of (cc := cX10_cut) (nL := 3) (own := RX10) (ret := (some .int)) (by decide) rfl rfl (Nat.le_of_ble_eq_true rfl) (fun X O hnm0 => ?_)
  rw [p_X10_cut] at hf
  show J X 3 (JQi X [(m, .inr (6, [.ref mt, .int z.2, .ref md, .int m_dl, .ref mk, .ref ms, .int m_c, .ref mu, .ref mn, .ref mm, .int m_e, .ref mo, .int m_ol, .int m_fa, .int m_f, .ref mw, .int m_p, .int m_is])), (mt, .inl (cI, 6000, .inl m_t)), (md, .inl (cI, 12000, .inl m_d)), (mk, .inl (cI, 61, .inl m_k)), (ms, .inl (cI, 61, .inl m_s)), (mu, .inl (cI, 41, .inl m_u)), (mn, .inl (cJ, 41, .inr (.inl m_n))), (mm, .inl (cI, 41, .inl m_m)), (mo, .inl (cI, 14000, .inl m_o)), (mw, .inl (cI, 61, .inl m_w))] z.1 0 0) [(m, .inr (6, [.ref mt, .int m_tl, .ref md, .int m_dl, .ref mk, .ref ms, .int m_c, .ref mu, .ref mn, .ref mm, .int m_e, .ref mo, .int m_ol, .int m_fa, .int m_f, .ref mw, .int m_p, .int m_is])), (mt, .inl (cI, 6000, .inl m_t)), (md, .inl (cI, 12000, .inl m_d)), (mk, .inl (cI, 61, .inl m_k)), (ms, .inl (cI, 61, .inl m_s)), (mu, .inl (cI, 41, .inl m_u)), (mn, .inl (cJ, 41, .inr (.inl m_n))), (mm, .inl (cI, 41, .inl m_m)), (mo, .inl (cI, 14000, .inl m_o)), (mw, .inl (cI, 61, .inl m_w))] 0 0 0 [(0, .ref m), (1, .int a1)] []
  refine J_iload_n O (i := 1) (k0 := 1) (pc := 0) 1 rfl rfl dX10_cut_0 ?_
  refine J_i2l O (pc := 1) dX10_cut_1 ?_
  refine J_lconst O (v := 0) (pc := 2) (by decide) dX10_cut_2 ?_
  refine J_aload_n O (i := 0) (k0 := 0) (pc := 3) 0 rfl rfl dX10_cut_3 ?_
  refine J_get O (pc := 4) in_X10_cut_X10 0 rfl rfl 1 (by decide) mb_X10_cut_1 rfl dX10_cut_4 ?_
  refine J_i2l O (pc := 7) dX10_cut_7 ?_
  obtain ⟨z8, h8, hf⟩ := jt_b hf
  refine J_callSi O (pc := 8) (c_X10_in l D cB cI cJ (Int32.toInt64 a1) 0 (Int32.toInt64 m_tl) h8) rfl gX10_cut_X10_in hdS_X10_in ⟨(Nat.le_of_ble_eq_true rfl), (Nat.le_of_ble_eq_true rfl)⟩ rfl (st := []) rfl (Nat.le_of_ble_eq_true rfl) [] [0, 1, 2, 3, 4, 5, 6, 7, 8, 9] rfl rfl rfl rfl rfl (by decide) [(m, .inr (6, [.ref mt, .int m_tl, .ref md, .int m_dl, .ref mk, .ref ms, .int m_c, .ref mu, .ref mn, .ref mm, .int m_e, .ref mo, .int m_ol, .int m_fa, .int m_f, .ref mw, .int m_p, .int m_is])), (mt, .inl (cI, 6000, .inl m_t)), (md, .inl (cI, 12000, .inl m_d)), (mk, .inl (cI, 61, .inl m_k)), (ms, .inl (cI, 61, .inl m_s)), (mu, .inl (cI, 41, .inl m_u)), (mn, .inl (cJ, 41, .inr (.inl m_n))), (mm, .inl (cI, 41, .inl m_m)), (mo, .inl (cI, 14000, .inl m_o)), (mw, .inl (cI, 61, .inl m_w))] [0, 1, 2, 3, 4, 5, 6, 7, 8, 9] rfl rfl rfl (0) (0) (Nat.le_of_ble_eq_true rfl) (Nat.le_of_ble_eq_true rfl) ⟨(Nat.le_of_ble_eq_true rfl), (Nat.le_of_ble_eq_true rfl)⟩ dX10_cut_8 ?_
  refine J_zne O (tgt := 16) (pc := 11) dX10_cut_11 (by decide) (fun c11 => ?_) (fun c11 => ?_)
  · have hf := jt_t c11 hf
    refine J_aload_n O (i := 0) (k0 := 0) (pc := 16) 0 rfl rfl dX10_cut_16 ?_
    refine J_get O (pc := 17) in_X10_cut_X10 0 rfl rfl 1 (by decide) mb_X10_cut_1 rfl dX10_cut_17 ?_
    refine J_iload_n O (i := 1) (k0 := 1) (pc := 20) 1 rfl rfl dX10_cut_20 ?_
    refine J_isub O (pc := 21) dX10_cut_21 ?_
    refine J_istore_n O (i := 2) (k0 := 2) (pc := 22) rfl [(2, .int (m_tl - a1)), (0, .ref m), (1, .int a1)] (by decide) rfl dX10_cut_22 ?_
    refine J_aload_n O (i := 0) (k0 := 0) (pc := 23) 1 rfl rfl dX10_cut_23 ?_
    refine J_iload_n O (i := 1) (k0 := 1) (pc := 24) 2 rfl rfl dX10_cut_24 ?_
    refine J_put O (pc := 25) in_X10_cut_X10 tyX10 tyX10_ok nmX10 0 rfl rfl 1 (by decide) mb_X10_cut_1 rfl rfl rfl (Nat.le_of_ble_eq_true rfl) [(m, .inr (6, [.ref mt, .int a1, .ref md, .int m_dl, .ref mk, .ref ms, .int m_c, .ref mu, .ref mn, .ref mm, .int m_e, .ref mo, .int m_ol, .int m_fa, .int m_f, .ref mw, .int m_p, .int m_is])), (mt, .inl (cI, 6000, .inl m_t)), (md, .inl (cI, 12000, .inl m_d)), (mk, .inl (cI, 61, .inl m_k)), (ms, .inl (cI, 61, .inl m_s)), (mu, .inl (cI, 41, .inl m_u)), (mn, .inl (cJ, 41, .inr (.inl m_n))), (mm, .inl (cI, 41, .inl m_m)), (mo, .inl (cI, 14000, .inl m_o)), (mw, .inl (cI, 61, .inl m_w))] rfl dX10_cut_25 ?_
    refine J_iload_n O (i := 2) (k0 := 2) (pc := 28) 0 rfl rfl dX10_cut_28 ?_
    have e9 := Option.some.inj hf
    subst e9
    exact J_iret O (pc := 29) rfl dX10_cut_29
  · have hf := jt_f c11 hf
    refine J_iconst O (v := (-1)) (pc := 14) (by decide) dX10_cut_14 ?_
    have e9 := Option.some.inj hf
    subst e9
    exact J_iret O (pc := 15) rfl dX10_cut_15
