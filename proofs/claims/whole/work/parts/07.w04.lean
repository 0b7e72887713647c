theorem in_X0_setData_X3 : ∀ w ∈ u_ws RX3 TX3 3, w ∈ wsX0_setData := fun _ h => List.mem_cons_of_mem _ (List.mem_append_left _ (List.mem_append_left _ (List.mem_append_right _ h)))
theorem mb_X0_setData_1 : Cond.fieldLink RX0 80 (TX3 2).1 (TX3 2).2.1 (TX3 2).2.2.1 ∈ wsX0_setData := by decide +kernel
theorem in_X0_setData_X0 : ∀ w ∈ u_ws RX0 TX0 8, w ∈ wsX0_setData := fun _ h => List.mem_cons_of_mem _ (List.mem_append_left _ (List.mem_append_right _ h))
theorem mb_X0_setData_3 : Cond.fieldLink RX0 14 (TX0 0).1 (TX0 0).2.1 (TX0 0).2.2.1 ∈ wsX0_setData := by decide +kernel
theorem mb_X0_setData_4 : Cond.fieldLink RX0 24 (TX0 2).1 (TX0 2).2.1 (TX0 2).2.2.1 ∈ wsX0_setData := by decide +kernel
theorem mb_X0_setData_5 : Cond.fieldLink RX0 27 (TX0 3).1 (TX0 3).2.1 (TX0 3).2.2.1 ∈ wsX0_setData := by decide +kernel
abbrev rmX0_setDataA : Room := { frames := 2, cells := 0, slots := 0, locals := 64 }
set_option maxHeartbeats 4000000 in
set_option maxRecDepth 100000 in
theorem wk_X0_setDataA_55 {X : JC} {l : Launch} {D : va_G} {cB cI cJ : ClassId} (O : Jo X (l, D, cB, cI, cJ) cX0_setData 5 RX0 wsX0_setData rmX0_setDataA none) (h d db hk hs hu hn hg q t tb : Nat) (t_n : Nat) (h_c : Int32) (h_e : Int32) (h_k : Nat → Int32) (h_u : Nat → Int32) (h_n : Nat → Int64) (h_g : Nat → Int32) (q_o : Int32) (q_l : Int32) (t_l : Int32) (t_f : Nat → Int8) (a1 : Int32) (fu : Nat) {z : Int32 × (Nat → Int8) × (Nat → Int32)} : ∀ (fn : Nat) (v3 : Int32) (v4 : Int32) (d_l : Int32) (d_f : Nat → Int8) (h_s : Nat → Int32), p_X0_setDataA_55 fu t_n h_c q_o q_l t_f a1 fn v3 v4 d_l d_f h_s = some z → J X 5 (JQv X [(h, .inr (0, [.ref d, .ref hk, .ref hs, .int h_c, .ref hu, .ref hn, .ref hg, .int h_e])), (d, .inr (4, [.ref db, .int z.1])), (db, .inl (cB, 12000, .inl (b8 z.2.1))), (hk, .inl (cI, 60, .inl h_k)), (hs, .inl (cI, 61, .inl z.2.2)), (hu, .inl (cI, 40, .inl h_u)), (hn, .inl (cJ, 40, .inr (.inl h_n))), (hg, .inl (cI, 40, .inl h_g)), (q, .inr (2, [.ref t, .int q_o, .int q_l])), (t, .inr (4, [.ref tb, .int t_l])), (tb, .inl (cB, t_n, .inl (b8 t_f)))] 0 0) [(h, .inr (0, [.ref d, .ref hk, .ref hs, .int h_c, .ref hu, .ref hn, .ref hg, .int h_e])), (d, .inr (4, [.ref db, .int d_l])), (db, .inl (cB, 12000, .inl (b8 d_f))), (hk, .inl (cI, 60, .inl h_k)), (hs, .inl (cI, 61, .inl h_s)), (hu, .inl (cI, 40, .inl h_u)), (hn, .inl (cJ, 40, .inr (.inl h_n))), (hg, .inl (cI, 40, .inl h_g)), (q, .inr (2, [.ref t, .int q_o, .int q_l])), (t, .inr (4, [.ref tb, .int t_l])), (tb, .inl (cB, t_n, .inl (b8 t_f)))] 0 0 55 [(0, .ref h), (3, .int v3), (4, .int v4)] [] := by
  intro fn
  induction fn with
  | zero =>
    intro v3 v4 d_l d_f h_s hf
    rw [p_X0_setDataA_55] at hf
    exact jt_n hf
  | succ fn ih =>
    intro v3 v4 d_l d_f h_s hf
    rw [p_X0_setDataA_55] at hf
    refine J_iload O (i := 4) (pc := 55) 2 rfl dX0_setData_55 ?_
    refine J_aload_n O (i := 0) (k0 := 0) (pc := 57) 0 rfl rfl dX0_setData_57 ?_
    refine J_get O (pc := 58) in_X0_setData_X0 0 rfl rfl 3 (by decide) mb_X0_setData_5 rfl dX0_setData_58 ?_
    refine J_icmp_gt O (tgt := 81) (pc := 61) dX0_setData_61 (by decide) (fun c61 => ?_) (fun c61 => ?_)
    · have hf := jt_t c61 hf
      cases hf
      exact J_vret O (pc := 81) dX0_setData_81
    · have hf := jt_f c61 hf
      refine J_aload_n O (i := 0) (k0 := 0) (pc := 64) 0 rfl rfl dX0_setData_64 ?_
      refine J_get O (pc := 65) in_X0_setData_X0 0 rfl rfl 2 (by decide) mb_X0_setData_4 rfl dX0_setData_65 ?_
      refine J_iload O (i := 4) (pc := 68) 2 rfl dX0_setData_68 ?_
      refine J_dup2 O (pc := 70) rfl rfl dX0_setData_70 ?_
      obtain ⟨h71, hf⟩ := jt_g hf
      refine J_iald O (pc := 71) 4 1 rfl rfl h71 dX0_setData_71 ?_
      refine J_iload_n O (i := 3) (k0 := 3) (pc := 72) 1 rfl rfl dX0_setData_72 ?_
      refine J_iadd O (pc := 73) dX0_setData_73 ?_
      obtain ⟨h74, hf⟩ := jt_g hf
      refine J_iast O (pc := 74) 4 1 rfl rfl h74 [(h, .inr (0, [.ref d, .ref hk, .ref hs, .int h_c, .ref hu, .ref hn, .ref hg, .int h_e])), (d, .inr (4, [.ref db, .int d_l])), (db, .inl (cB, 12000, .inl (b8 d_f))), (hk, .inl (cI, 60, .inl h_k)), (hs, .inl (cI, 61, .inl (upd h_s (Int32.toNatClampNeg v4) ((h_s (Int32.toNatClampNeg v4)) + v3)))), (hu, .inl (cI, 40, .inl h_u)), (hn, .inl (cJ, 40, .inr (.inl h_n))), (hg, .inl (cI, 40, .inl h_g)), (q, .inr (2, [.ref t, .int q_o, .int q_l])), (t, .inr (4, [.ref tb, .int t_l])), (tb, .inl (cB, t_n, .inl (b8 t_f)))] rfl dX0_setData_74 ?_
      refine J_iinc O (i := 4) (n := 1) (v := v4 + 1) (pc := 75) 2 rfl [(4, .int (v4 + 1)), (0, .ref h), (3, .int v3)] (by decide) (congrArg (_ + ·) (by decide)) rfl dX0_setData_75 ?_
      refine J_goto O (tgt := 55) (pc := 78) dX0_setData_78 (by decide) ?_
      refine J_sub [1, 2, 0] (lv' := [(0, .ref h), (3, .int v3), (4, .int (v4 + 1))]) rfl ?_
      exact ih v3 (v4 + 1) d_l d_f (upd h_s (Int32.toNatClampNeg v4) ((h_s (Int32.toNatClampNeg v4)) + v3)) hf
set_option maxHeartbeats 4000000 in
set_option maxRecDepth 100000 in
theorem c_X0_setDataA (l : Launch) (D : va_G) (cB cI cJ : ClassId) (h d db hk hs hu hn hg q t tb t_n : Nat) (h_c : Int32) (h_e : Int32) (d_l : Int32) (d_f : Nat → Int8) (h_k : Nat → Int32) (h_s : Nat → Int32) (h_u : Nat → Int32) (h_n : Nat → Int64) (h_g : Nat → Int32) (q_o : Int32) (q_l : Int32) (t_l : Int32) (t_f : Nat → Int8) (a1 : Int32) (fu : Nat) {z : Int32 × (Nat → Int8) × (Nat → Int32)} (hf : p_X0_setDataA fu t_n h_c d_l d_f h_s q_o q_l t_f a1 = some z) : Cv (l, D, cB, cI, cJ) yX0_setData wsX0_setData rmX0_setDataA [.ref h, .int a1, .ref q] [(h, .inr (0, [.ref d, .ref hk, .ref hs, .int h_c, .ref hu, .ref hn, .ref hg, .int h_e])), (d, .inr (4, [.ref db, .int d_l])), (db, .inl (cB, 12000, .inl (b8 d_f))), (hk, .inl (cI, 60, .inl h_k)), (hs, .inl (cI, 61, .inl h_s)), (hu, .inl (cI, 40, .inl h_u)), (hn, .inl (cJ, 40, .inr (.inl h_n))), (hg, .inl (cI, 40, .inl h_g)), (q, .inr (2, [.ref t, .int q_o, .int q_l])), (t, .inr (4, [.ref tb, .int t_l])), (tb, .inl (cB, t_n, .inl (b8 t_f)))] [(h, .inr (0, [.ref d, .ref hk, .ref hs, .int h_c, .ref hu, .ref hn, .ref hg, .int h_e])), (d, .inr (4, [.ref db, .int z.1])), (db, .inl (cB, 12000, .inl (b8 z.2.1))), (hk, .inl (cI, 60, .inl h_k)), (hs, .inl (cI, 61, .inl z.2.2)), (hu, .inl (cI, 40, .inl h_u)), (hn, .inl (cJ, 40, .inr (.inl h_n))), (hg, .inl (cI, 40, .inl h_g)), (q, .inr (2, [.ref t, .int q_o, .int q_l])), (t, .inr (4, [.ref tb, .int t_l])), (tb, .inl (cB, t_n, .inl (b8 t_f)))] := by
  refine Cv_of (cc := cX0_setData) (nL := 5) (own := RX0) (ret := none) (by decide) rfl rfl (Nat.le_of_ble_eq_true rfl) (fun X O hnm0 => ?_)
  rw [p_X0_setDataA] at hf
  show J X 5 (JQv X [(h, .inr (0, [.ref d, .ref hk, .ref hs, .int h_c, .ref hu, .ref hn, .ref hg, .int h_e])), (d, .inr (4, [.ref db, .int z.1])), (db, .inl (cB, 12000, .inl (b8 z.2.1))), (hk, .inl (cI, 60, .inl h_k)), (hs, .inl (cI, 61, .inl z.2.2)), (hu, .inl (cI, 40, .inl h_u)), (hn, .inl (cJ, 40, .inr (.inl h_n))), (hg, .inl (cI, 40, .inl h_g)), (q, .inr (2, [.ref t, .int q_o, .int q_l])), (t, .inr (4, [.ref tb, .int t_l])), (tb, .inl (cB, t_n, .inl (b8 t_f)))] 0 0) [(h, .inr (0, [.ref d, .ref hk, .ref hs, .int h_c, .ref hu, .ref hn, .ref hg, .int h_e])), (d, .inr (4, [.ref db, .int d_l])), (db, .inl (cB, 12000, .inl (b8 d_f))), (hk, .inl (cI, 60, .inl h_k)), (hs, .inl (cI, 61, .inl h_s)), (hu, .inl (cI, 40, .inl h_u)), (hn, .inl (cJ, 40, .inr (.inl h_n))), (hg, .inl (cI, 40, .inl h_g)), (q, .inr (2, [.ref t, .int q_o, .int q_l])), (t, .inr (4, [.ref tb, .int t_l])), (tb, .inl (cB, t_n, .inl (b8 t_f)))] 0 0 0 [(0, .ref h), (1, .int a1), (2, .ref q)] []
  refine J_aload_n O (i := 2) (k0 := 2) (pc := 0) 2 rfl rfl dX0_setData_0 ?_
  refine J_get O (pc := 1) in_X0_setData_X3 8 rfl rfl 2 (by decide) mb_X0_setData_1 rfl dX0_setData_1 ?_
  refine J_aload_n O (i := 0) (k0 := 0) (pc := 4) 0 rfl rfl dX0_setData_4 ?_
  refine J_iload_n O (i := 1) (k0 := 1) (pc := 5) 1 rfl rfl dX0_setData_5 ?_
  obtain ⟨z6, h6, hf⟩ := jt_b hf
  refine J_callVi O (pc := 6) (c_X0_lengthOf l D cB cI cJ h d db hk hs hu hn hg h_c h_e d_l d_f h_k h_s h_u h_n h_g a1 h6) rfl 0 rfl rfl gX0_setData_X0_lengthOf hdV_X0_lengthOf ⟨(Nat.le_of_ble_eq_true rfl), (Nat.le_of_ble_eq_true rfl)⟩ rfl (st := [.int q_l]) rfl (Nat.le_of_ble_eq_true rfl) [0, 1, 2, 3, 4, 5, 6, 7] [8, 9, 10] rfl rfl rfl rfl rfl (by decide) [(h, .inr (0, [.ref d, .ref hk, .ref hs, .int h_c, .ref hu, .ref hn, .ref hg, .int h_e])), (d, .inr (4, [.ref db, .int d_l])), (db, .inl (cB, 12000, .inl (b8 d_f))), (hk, .inl (cI, 60, .inl h_k)), (hs, .inl (cI, 61, .inl h_s)), (hu, .inl (cI, 40, .inl h_u)), (hn, .inl (cJ, 40, .inr (.inl h_n))), (hg, .inl (cI, 40, .inl h_g)), (q, .inr (2, [.ref t, .int q_o, .int q_l])), (t, .inr (4, [.ref tb, .int t_l])), (tb, .inl (cB, t_n, .inl (b8 t_f)))] [3, 4, 5, 6, 7, 8, 9, 10, 0, 1, 2] rfl rfl rfl (0) (0) (Nat.le_of_ble_eq_true rfl) (Nat.le_of_ble_eq_true rfl) ⟨(Nat.le_of_ble_eq_true rfl), (Nat.le_of_ble_eq_true rfl)⟩ dX0_setData_6 ?_
  refine J_isub O (pc := 9) dX0_setData_9 ?_
  refine J_istore_n O (i := 3) (k0 := 3) (pc := 10) rfl [(3, .int (q_l - z6)), (0, .ref h), (1, .int a1), (2, .ref q)] (by decide) rfl dX0_setData_10 ?_
  refine J_aload_n O (i := 0) (k0 := 0) (pc := 11) 1 rfl rfl dX0_setData_11 ?_
  refine J_iload_n O (i := 1) (k0 := 1) (pc := 12) 2 rfl rfl dX0_setData_12 ?_
  obtain ⟨z13, h13, hf⟩ := jt_b hf
  refine J_callVi O (pc := 13) (c_X0_hasChunk l D cB cI cJ h d db hk hs hu hn hg h_c h_e d_l d_f h_k h_s h_u h_n h_g a1 h13) rfl 0 rfl rfl gX0_setData_X0_hasChunk hdV_X0_hasChunk ⟨(Nat.le_of_ble_eq_true rfl), (Nat.le_of_ble_eq_true rfl)⟩ rfl (st := []) rfl (Nat.le_of_ble_eq_true rfl) [0, 1, 2, 3, 4, 5, 6, 7] [8, 9, 10] rfl rfl rfl rfl rfl (by decide) [(h, .inr (0, [.ref d, .ref hk, .ref hs, .int h_c, .ref hu, .ref hn, .ref hg, .int h_e])), (d, .inr (4, [.ref db, .int d_l])), (db, .inl (cB, 12000, .inl (b8 d_f))), (hk, .inl (cI, 60, .inl h_k)), (hs, .inl (cI, 61, .inl h_s)), (hu, .inl (cI, 40, .inl h_u)), (hn, .inl (cJ, 40, .inr (.inl h_n))), (hg, .inl (cI, 40, .inl h_g)), (q, .inr (2, [.ref t, .int q_o, .int q_l])), (t, .inr (4, [.ref tb, .int t_l])), (tb, .inl (cB, t_n, .inl (b8 t_f)))] [3, 4, 5, 6, 7, 8, 9, 10, 0, 1, 2] rfl rfl rfl (0) (0) (Nat.le_of_ble_eq_true rfl) (Nat.le_of_ble_eq_true rfl) ⟨(Nat.le_of_ble_eq_true rfl), (Nat.le_of_ble_eq_true rfl)⟩ dX0_setData_13 ?_
  refine J_zeq O (tgt := 30) (pc := 16) dX0_setData_16 (by decide) (fun c16 => ?_) (fun c16 => ?_)
  · have hf := jt_f c16 hf
    cases hf
    exact J_vret O (pc := 30) dX0_setData_30
  · have hf := jt_t c16 hf
    refine J_iload_n O (i := 3) (k0 := 3) (pc := 19) 0 rfl rfl dX0_setData_19 ?_
    refine J_aload_n O (i := 0) (k0 := 0) (pc := 20) 1 rfl rfl dX0_setData_20 ?_
    refine J_get O (pc := 21) in_X0_setData_X0 0 rfl rfl 0 (by decide) mb_X0_setData_3 rfl dX0_setData_21 ?_
    obtain ⟨z24, h24, hf⟩ := jt_b hf
    refine J_callVi O (pc := 24) (c_X6_room l D cB cI cJ d db 12000 d_l d_f h24) rfl 0 rfl rfl gX0_setData_X6_room hdV_X6_room ⟨(Nat.le_of_ble_eq_true rfl), (Nat.le_of_ble_eq_true rfl)⟩ rfl (st := [.int (q_l - z6)]) rfl (Nat.le_of_ble_eq_true rfl) [1, 2] [0, 3, 4, 5, 6, 7, 8, 9, 10] rfl rfl rfl rfl rfl (by decide) [(h, .inr (0, [.ref d, .ref hk, .ref hs, .int h_c, .ref hu, .ref hn, .ref hg, .int h_e])), (d, .inr (4, [.ref db, .int d_l])), (db, .inl (cB, 12000, .inl (b8 d_f))), (hk, .inl (cI, 60, .inl h_k)), (hs, .inl (cI, 61, .inl h_s)), (hu, .inl (cI, 40, .inl h_u)), (hn, .inl (cJ, 40, .inr (.inl h_n))), (hg, .inl (cI, 40, .inl h_g)), (q, .inr (2, [.ref t, .int q_o, .int q_l])), (t, .inr (4, [.ref tb, .int t_l])), (tb, .inl (cB, t_n, .inl (b8 t_f)))] [0, 9, 10, 1, 2, 3, 4, 5, 6, 7, 8] rfl rfl rfl (0) (0) (Nat.le_of_ble_eq_true rfl) (Nat.le_of_ble_eq_true rfl) ⟨(Nat.le_of_ble_eq_true rfl), (Nat.le_of_ble_eq_true rfl)⟩ dX0_setData_24 ?_
    refine J_icmp_le O (tgt := 31) (pc := 27) dX0_setData_27 (by decide) (fun c27 => ?_) (fun c27 => ?_)
    · have hf := jt_t c27 hf
      refine J_aload_n O (i := 0) (k0 := 0) (pc := 31) 1 rfl rfl dX0_setData_31 ?_
      refine J_get O (pc := 32) in_X0_setData_X0 0 rfl rfl 0 (by decide) mb_X0_setData_3 rfl dX0_setData_32 ?_
      refine J_aload_n O (i := 0) (k0 := 0) (pc := 35) 1 rfl rfl dX0_setData_35 ?_
      refine J_get O (pc := 36) in_X0_setData_X0 0 rfl rfl 2 (by decide) mb_X0_setData_4 rfl dX0_setData_36 ?_
      refine J_iload_n O (i := 1) (k0 := 1) (pc := 39) 2 rfl rfl dX0_setData_39 ?_
      obtain ⟨h40, hf⟩ := jt_g hf
      refine J_iald O (pc := 40) 4 1 rfl rfl h40 dX0_setData_40 ?_
      refine J_aload_n O (i := 0) (k0 := 0) (pc := 41) 1 rfl rfl dX0_setData_41 ?_
      refine J_iload_n O (i := 1) (k0 := 1) (pc := 42) 2 rfl rfl dX0_setData_42 ?_
      obtain ⟨z43, h43, hf⟩ := jt_b hf
      refine J_callVi O (pc := 43) (c_X0_lengthOf l D cB cI cJ h d db hk hs hu hn hg h_c h_e d_l d_f h_k h_s h_u h_n h_g a1 h43) rfl 0 rfl rfl gX0_setData_X0_lengthOf hdV_X0_lengthOf ⟨(Nat.le_of_ble_eq_true rfl), (Nat.le_of_ble_eq_true rfl)⟩ rfl (st := [.int (h_s (Int32.toNatClampNeg a1)), .ref d]) rfl (Nat.le_of_ble_eq_true rfl) [0, 1, 2, 3, 4, 5, 6, 7] [8, 9, 10] rfl rfl rfl rfl rfl (by decide) [(h, .inr (0, [.ref d, .ref hk, .ref hs, .int h_c, .ref hu, .ref hn, .ref hg, .int h_e])), (d, .inr (4, [.ref db, .int d_l])), (db, .inl (cB, 12000, .inl (b8 d_f))), (hk, .inl (cI, 60, .inl h_k)), (hs, .inl (cI, 61, .inl h_s)), (hu, .inl (cI, 40, .inl h_u)), (hn, .inl (cJ, 40, .inr (.inl h_n))), (hg, .inl (cI, 40, .inl h_g)), (q, .inr (2, [.ref t, .int q_o, .int q_l])), (t, .inr (4, [.ref tb, .int t_l])), (tb, .inl (cB, t_n, .inl (b8 t_f)))] [3, 4, 5, 6, 7, 8, 9, 10, 0, 1, 2] rfl rfl rfl (0) (0) (Nat.le_of_ble_eq_true rfl) (Nat.le_of_ble_eq_true rfl) ⟨(Nat.le_of_ble_eq_true rfl), (Nat.le_of_ble_eq_true rfl)⟩ dX0_setData_43 ?_
      refine J_aload_n O (i := 2) (k0 := 2) (pc := 46) 3 rfl rfl dX0_setData_46 ?_
      obtain ⟨z47, h47, hf⟩ := jt_b hf
      refine J_callVv O (pc := 47) (c_X6_spliceA l D cB cI cJ d db q t tb 12000 t_n d_l d_f q_o q_l t_l t_f (h_s (Int32.toNatClampNeg a1)) z43 h47) rfl 0 rfl rfl gX0_setData_X6_splice hdV_X6_splice ⟨(Nat.le_of_ble_eq_true rfl), (Nat.le_of_ble_eq_true rfl)⟩ rfl (st := []) rfl (Nat.le_of_ble_eq_true rfl) [1, 2, 8, 9, 10] [0, 3, 4, 5, 6, 7] rfl rfl rfl rfl rfl (by decide) [(h, .inr (0, [.ref d, .ref hk, .ref hs, .int h_c, .ref hu, .ref hn, .ref hg, .int h_e])), (d, .inr (4, [.ref db, .int z47.1])), (db, .inl (cB, 12000, .inl (b8 z47.2))), (hk, .inl (cI, 60, .inl h_k)), (hs, .inl (cI, 61, .inl h_s)), (hu, .inl (cI, 40, .inl h_u)), (hn, .inl (cJ, 40, .inr (.inl h_n))), (hg, .inl (cI, 40, .inl h_g)), (q, .inr (2, [.ref t, .int q_o, .int q_l])), (t, .inr (4, [.ref tb, .int t_l])), (tb, .inl (cB, t_n, .inl (b8 t_f)))] [0, 6, 7, 1, 2, 3, 4, 5, 8, 9, 10] rfl rfl rfl (0) (0) (Nat.le_of_ble_eq_true rfl) (Nat.le_of_ble_eq_true rfl) ⟨(Nat.le_of_ble_eq_true rfl), (Nat.le_of_ble_eq_true rfl)⟩ dX0_setData_47 ?_
      refine J_iload_n O (i := 1) (k0 := 1) (pc := 50) 2 rfl rfl dX0_setData_50 ?_
      refine J_iconst O (v := 1) (pc := 51) (by decide) dX0_setData_51 ?_
      refine J_iadd O (pc := 52) dX0_setData_52 ?_
      refine J_istore O (i := 4) (pc := 53) [(4, .int (a1 + 1)), (3, .int (q_l - z6)), (0, .ref h), (1, .int a1), (2, .ref q)] (by decide) rfl dX0_setData_53 ?_
      refine J_sub [2, 1, 0] (lv' := [(0, .ref h), (3, .int (q_l - z6)), (4, .int (a1 + 1))]) rfl ?_
      exact wk_X0_setDataA_55 O h d db hk hs hu hn hg q t tb t_n h_c h_e h_k h_u h_n h_g q_o q_l t_l t_f a1 fu fu (q_l - z6) (a1 + 1) z47.1 z47.2 h_s hf
    · have hf := jt_f c27 hf
      cases hf
      exact J_vret O (pc := 30) dX0_setData_30
abbrev rmX0_setDataB : Room := { frames := 2, cells := 0, slots := 0, locals := 64 }
set_option maxHeartbeats 4000000 in
set_option maxRecDepth 100000 in
theorem wk_X0_setDataB_55 {X : JC} {l : Launch} {D : va_G} {cB cI cJ : ClassId} (O : Jo X (l, D, cB, cI, cJ) cX0_setData 5 RX0 wsX0_setData rmX0_setDataB none) (h d db hk hs hu hn hg q : Nat) (h_c : Int32) (h_e : Int32) (h_k : Nat → Int32) (h_u : Nat → Int32) (h_n : Nat → Int64) (h_g : Nat → Int32) (q_o : Int32) (q_l : Int32) (a1 : Int32) (fu : Nat) {z : Int32 × (Nat → Int8) × (Nat → Int32)} : ∀ (fn : Nat) (v3 : Int32) (v4 : Int32) (d_l : Int32) (d_f : Nat → Int8) (h_s : Nat → Int32), p_X0_setDataB_55 fu h_c q_o q_l a1 fn v3 v4 d_l d_f h_s = some z → J X 5 (JQv X [(h, .inr (0, [.ref d, .ref hk, .ref hs, .int h_c, .ref hu, .ref hn, .ref hg, .int h_e])), (d, .inr (4, [.ref db, .int z.1])), (db, .inl (cB, 12000, .inl (b8 z.2.1))), (hk, .inl (cI, 60, .inl h_k)), (hs, .inl (cI, 61, .inl z.2.2)), (hu, .inl (cI, 40, .inl h_u)), (hn, .inl (cJ, 40, .inr (.inl h_n))), (hg, .inl (cI, 40, .inl h_g)), (q, .inr (2, [.ref d, .int q_o, .int q_l]))] 0 0) [(h, .inr (0, [.ref d, .ref hk, .ref hs, .int h_c, .ref hu, .ref hn, .ref hg, .int h_e])), (d, .inr (4, [.ref db, .int d_l])), (db, .inl (cB, 12000, .inl (b8 d_f))), (hk, .inl (cI, 60, .inl h_k)), (hs, .inl (cI, 61, .inl h_s)), (hu, .inl (cI, 40, .inl h_u)), (hn, .inl (cJ, 40, .inr (.inl h_n))), (hg, .inl (cI, 40, .inl h_g)), (q, .inr (2, [.ref d, .int q_o, .int q_l]))] 0 0 55 [(0, .ref h), (3, .int v3), (4, .int v4)] [] := by
  intro fn
  induction fn with
  | zero =>
    intro v3 v4 d_l d_f h_s hf
    rw [p_X0_setDataB_55] at hf
    exact jt_n hf
  | succ fn ih =>
    intro v3 v4 d_l d_f h_s hf
    rw [p_X0_setDataB_55] at hf
    refine J_iload O (i := 4) (pc := 55) 2 rfl dX0_setData_55 ?_
    refine J_aload_n O (i := 0) (k0 := 0) (pc := 57) 0 rfl rfl dX0_setData_57 ?_
    refine J_get O (pc := 58) in_X0_setData_X0 0 rfl rfl 3 (by decide) mb_X0_setData_5 rfl dX0_setData_58 ?_
    refine J_icmp_gt O (tgt := 81) (pc := 61) dX0_setData_61 (by decide) (fun c61 => ?_) (fun c61 => ?_)
    · have hf := jt_t c61 hf
      cases hf
      exact J_vret O (pc := 81) dX0_setData_81
    · have hf := jt_f c61 hf
      refine J_aload_n O (i := 0) (k0 := 0) (pc := 64) 0 rfl rfl dX0_setData_64 ?_
      refine J_get O (pc := 65) in_X0_setData_X0 0 rfl rfl 2 (by decide) mb_X0_setData_4 rfl dX0_setData_65 ?_
      refine J_iload O (i := 4) (pc := 68) 2 rfl dX0_setData_68 ?_
      refine J_dup2 O (pc := 70) rfl rfl dX0_setData_70 ?_
      obtain ⟨h71, hf⟩ := jt_g hf
      refine J_iald O (pc := 71) 4 1 rfl rfl h71 dX0_setData_71 ?_
      refine J_iload_n O (i := 3) (k0 := 3) (pc := 72) 1 rfl rfl dX0_setData_72 ?_
      refine J_iadd O (pc := 73) dX0_setData_73 ?_
      obtain ⟨h74, hf⟩ := jt_g hf
      refine J_iast O (pc := 74) 4 1 rfl rfl h74 [(h, .inr (0, [.ref d, .ref hk, .ref hs, .int h_c, .ref hu, .ref hn, .ref hg, .int h_e])), (d, .inr (4, [.ref db, .int d_l])), (db, .inl (cB, 12000, .inl (b8 d_f))), (hk, .inl (cI, 60, .inl h_k)), (hs, .inl (cI, 61, .inl (upd h_s (Int32.toNatClampNeg v4) ((h_s (Int32.toNatClampNeg v4)) + v3)))), (hu, .inl (cI, 40, .inl h_u)), (hn, .inl (cJ, 40, .inr (.inl h_n))), (hg, .inl (cI, 40, .inl h_g)), (q, .inr (2, [.ref d, .int q_o, .int q_l]))] rfl dX0_setData_74 ?_
      refine J_iinc O (i := 4) (n := 1) (v := v4 + 1) (pc := 75) 2 rfl [(4, .int (v4 + 1)), (0, .ref h), (3, .int v3)] (by decide) (congrArg (_ + ·) (by decide)) rfl dX0_setData_75 ?_
      refine J_goto O (tgt := 55) (pc := 78) dX0_setData_78 (by decide) ?_
      refine J_sub [1, 2, 0] (lv' := [(0, .ref h), (3, .int v3), (4, .int (v4 + 1))]) rfl ?_
      exact ih v3 (v4 + 1) d_l d_f (upd h_s (Int32.toNatClampNeg v4) ((h_s (Int32.toNatClampNeg v4)) + v3)) hf
set_option maxHeartbeats 4000000 in
set_option maxRecDepth 100000 in
theorem c_X0_setDataB (l : Launch) (D : va_G) (cB cI cJ : ClassId) (h d db hk hs hu hn hg q : Nat) (h_c : Int32) (h_e : Int32) (d_l : Int32) (d_f : Nat → Int8) (h_k : Nat → Int32) (h_s : Nat → Int32) (h_u : Nat → Int32) (h_n : Nat → Int64) (h_g : Nat → Int32) (q_o : Int32) (q_l : Int32) (a1 : Int32) (fu : Nat) {z : Int32 × (Nat → Int8) × (Nat → Int32)} (hf : p_X0_setDataB fu h_c d_l d_f h_s q_o q_l a1 = some z) : Cv (l, D, cB, cI, cJ) yX0_setData wsX0_setData rmX0_setDataB [.ref h, .int a1, .ref q] [(h, .inr (0, [.ref d, .ref hk, .ref hs, .int h_c, .ref hu, .ref hn, .ref hg, .int h_e])), (d, .inr (4, [.ref db, .int d_l])), (db, .inl (cB, 12000, .inl (b8 d_f))), (hk, .inl (cI, 60, .inl h_k)), (hs, .inl (cI, 61, .inl h_s)), (hu, .inl (cI, 40, .inl h_u)), (hn, .inl (cJ, 40, .inr (.inl h_n))), (hg, .inl (cI, 40, .inl h_g)), (q, .inr (2, [.ref d, .int q_o, .int q_l]))] [(h, .inr (0, [.ref d, .ref hk, .ref hs, .int h_c, .ref hu, .ref hn, .ref hg, .int h_e])), (d, .inr (4, [.ref db, .int z.1])), (db, .inl (cB, 12000, .inl (b8 z.2.1))), (hk, .inl (cI, 60, .inl h_k)), (hs, .inl (cI, 61, .inl z.2.2)), (hu, .inl (cI, 40, .inl h_u)), (hn, .inl (cJ, 40, .inr (.inl h_n))), (hg, .inl (cI, 40, .inl h_g)), (q, .inr (2, [.ref d, .int q_o, .int q_l]))] := by
  refine Cv_of (cc := cX0_setData) (nL := 5) (own := RX0) (ret := none) (by decide) rfl rfl (Nat.le_of_ble_eq_true rfl) (fun X O hnm0 => ?_)
  rw [p_X0_setDataB] at hf
  show J X 5 (JQv X [(h, .inr (0, [.ref d, .ref hk, .ref hs, .int h_c, .ref hu, .ref hn, .ref hg, .int h_e])), (d, .inr (4, [.ref db, .int z.1])), (db, .inl (cB, 12000, .inl (b8 z.2.1))), (hk, .inl (cI, 60, .inl h_k)), (hs, .inl (cI, 61, .inl z.2.2)), (hu, .inl (cI, 40, .inl h_u)), (hn, .inl (cJ, 40, .inr (.inl h_n))), (hg, .inl (cI, 40, .inl h_g)), (q, .inr (2, [.ref d, .int q_o, .int q_l]))] 0 0) [(h, .inr (0, [.ref d, .ref hk, .ref hs, .int h_c, .ref hu, .ref hn, .ref hg, .int h_e])), (d, .inr (4, [.ref db, .int d_l])), (db, .inl (cB, 12000, .inl (b8 d_f))), (hk, .inl (cI, 60, .inl h_k)), (hs, .inl (cI, 61, .inl h_s)), (hu, .inl (cI, 40, .inl h_u)), (hn, .inl (cJ, 40, .inr (.inl h_n))), (hg, .inl (cI, 40, .inl h_g)), (q, .inr (2, [.ref d, .int q_o, .int q_l]))] 0 0 0 [(0, .ref h), (1, .int a1), (2, .ref q)] []
  refine J_aload_n O (i := 2) (k0 := 2) (pc := 0) 2 rfl rfl dX0_setData_0 ?_
  refine J_get O (pc := 1) in_X0_setData_X3 8 rfl rfl 2 (by decide) mb_X0_setData_1 rfl dX0_setData_1 ?_
  refine J_aload_n O (i := 0) (k0 := 0) (pc := 4) 0 rfl rfl dX0_setData_4 ?_
  refine J_iload_n O (i := 1) (k0 := 1) (pc := 5) 1 rfl rfl dX0_setData_5 ?_
  obtain ⟨z6, h6, hf⟩ := jt_b hf
  refine J_callVi O (pc := 6) (c_X0_lengthOf l D cB cI cJ h d db hk hs hu hn hg h_c h_e d_l d_f h_k h_s h_u h_n h_g a1 h6) rfl 0 rfl rfl gX0_setData_X0_lengthOf hdV_X0_lengthOf ⟨(Nat.le_of_ble_eq_true rfl), (Nat.le_of_ble_eq_true rfl)⟩ rfl (st := [.int q_l]) rfl (Nat.le_of_ble_eq_true rfl) [0, 1, 2, 3, 4, 5, 6, 7] [8] rfl rfl rfl rfl rfl (by decide) [(h, .inr (0, [.ref d, .ref hk, .ref hs, .int h_c, .ref hu, .ref hn, .ref hg, .int h_e])), (d, .inr (4, [.ref db, .int d_l])), (db, .inl (cB, 12000, .inl (b8 d_f))), (hk, .inl (cI, 60, .inl h_k)), (hs, .inl (cI, 61, .inl h_s)), (hu, .inl (cI, 40, .inl h_u)), (hn, .inl (cJ, 40, .inr (.inl h_n))), (hg, .inl (cI, 40, .inl h_g)), (q, .inr (2, [.ref d, .int q_o, .int q_l]))] [1, 2, 3, 4, 5, 6, 7, 8, 0] rfl rfl rfl (0) (0) (Nat.le_of_ble_eq_true rfl) (Nat.le_of_ble_eq_true rfl) ⟨(Nat.le_of_ble_eq_true rfl), (Nat.le_of_ble_eq_true rfl)⟩ dX0_setData_6 ?_
  refine J_isub O (pc := 9) dX0_setData_9 ?_
  refine J_istore_n O (i := 3) (k0 := 3) (pc := 10) rfl [(3, .int (q_l - z6)), (0, .ref h), (1, .int a1), (2, .ref q)] (by decide) rfl dX0_setData_10 ?_
  refine J_aload_n O (i := 0) (k0 := 0) (pc := 11) 1 rfl rfl dX0_setData_11 ?_
  refine J_iload_n O (i := 1) (k0 := 1) (pc := 12) 2 rfl rfl dX0_setData_12 ?_
  obtain ⟨z13, h13, hf⟩ := jt_b hf
  refine J_callVi O (pc := 13) (c_X0_hasChunk l D cB cI cJ h d db hk hs hu hn hg h_c h_e d_l d_f h_k h_s h_u h_n h_g a1 h13) rfl 0 rfl rfl gX0_setData_X0_hasChunk hdV_X0_hasChunk ⟨(Nat.le_of_ble_eq_true rfl), (Nat.le_of_ble_eq_true rfl)⟩ rfl (st := []) rfl (Nat.le_of_ble_eq_true rfl) [0, 1, 2, 3, 4, 5, 6, 7] [8] rfl rfl rfl rfl rfl (by decide) [(h, .inr (0, [.ref d, .ref hk, .ref hs, .int h_c, .ref hu, .ref hn, .ref hg, .int h_e])), (d, .inr (4, [.ref db, .int d_l])), (db, .inl (cB, 12000, .inl (b8 d_f))), (hk, .inl (cI, 60, .inl h_k)), (hs, .inl (cI, 61, .inl h_s)), (hu, .inl (cI, 40, .inl h_u)), (hn, .inl (cJ, 40, .inr (.inl h_n))), (hg, .inl (cI, 40, .inl h_g)), (q, .inr (2, [.ref d, .int q_o, .int q_l]))] [1, 2, 3, 4, 5, 6, 7, 8, 0] rfl rfl rfl (0) (0) (Nat.le_of_ble_eq_true rfl) (Nat.le_of_ble_eq_true rfl) ⟨(Nat.le_of_ble_eq_true rfl), (Nat.le_of_ble_eq_true rfl)⟩ dX0_setData_13 ?_
  refine J_zeq O (tgt := 30) (pc := 16) dX0_setData_16 (by decide) (fun c16 => ?_) (fun c16 => ?_)
  · have hf := jt_f c16 hf
    cases hf
    exact J_vret O (pc := 30) dX0_setData_30
  · have hf := jt_t c16 hf
    refine J_iload_n O (i := 3) (k0 := 3) (pc := 19) 0 rfl rfl dX0_setData_19 ?_
    refine J_aload_n O (i := 0) (k0 := 0) (pc := 20) 1 rfl rfl dX0_setData_20 ?_
    refine J_get O (pc := 21) in_X0_setData_X0 0 rfl rfl 0 (by decide) mb_X0_setData_3 rfl dX0_setData_21 ?_
    obtain ⟨z24, h24, hf⟩ := jt_b hf
    refine J_callVi O (pc := 24) (c_X6_room l D cB cI cJ d db 12000 d_l d_f h24) rfl 0 rfl rfl gX0_setData_X6_room hdV_X6_room ⟨(Nat.le_of_ble_eq_true rfl), (Nat.le_of_ble_eq_true rfl)⟩ rfl (st := [.int (q_l - z6)]) rfl (Nat.le_of_ble_eq_true rfl) [1, 2] [0, 3, 4, 5, 6, 7, 8] rfl rfl rfl rfl rfl (by decide) [(h, .inr (0, [.ref d, .ref hk, .ref hs, .int h_c, .ref hu, .ref hn, .ref hg, .int h_e])), (d, .inr (4, [.ref db, .int d_l])), (db, .inl (cB, 12000, .inl (b8 d_f))), (hk, .inl (cI, 60, .inl h_k)), (hs, .inl (cI, 61, .inl h_s)), (hu, .inl (cI, 40, .inl h_u)), (hn, .inl (cJ, 40, .inr (.inl h_n))), (hg, .inl (cI, 40, .inl h_g)), (q, .inr (2, [.ref d, .int q_o, .int q_l]))] [0, 7, 8, 1, 2, 3, 4, 5, 6] rfl rfl rfl (0) (0) (Nat.le_of_ble_eq_true rfl) (Nat.le_of_ble_eq_true rfl) ⟨(Nat.le_of_ble_eq_true rfl), (Nat.le_of_ble_eq_true rfl)⟩ dX0_setData_24 ?_
    refine J_icmp_le O (tgt := 31) (pc := 27) dX0_setData_27 (by decide) (fun c27 => ?_) (fun c27 => ?_)
    · have hf := jt_t c27 hf
      refine J_aload_n O (i := 0) (k0 := 0) (pc := 31) 1 rfl rfl dX0_setData_31 ?_
      refine J_get O (pc := 32) in_X0_setData_X0 0 rfl rfl 0 (by decide) mb_X0_setData_3 rfl dX0_setData_32 ?_
      refine J_aload_n O (i := 0) (k0 := 0) (pc := 35) 1 rfl rfl dX0_setData_35 ?_
      refine J_get O (pc := 36) in_X0_setData_X0 0 rfl rfl 2 (by decide) mb_X0_setData_4 rfl dX0_setData_36 ?_
      refine J_iload_n O (i := 1) (k0 := 1) (pc := 39) 2 rfl rfl dX0_setData_39 ?_
      obtain ⟨h40, hf⟩ := jt_g hf
      refine J_iald O (pc := 40) 4 1 rfl rfl h40 dX0_setData_40 ?_
      refine J_aload_n O (i := 0) (k0 := 0) (pc := 41) 1 rfl rfl dX0_setData_41 ?_
      refine J_iload_n O (i := 1) (k0 := 1) (pc := 42) 2 rfl rfl dX0_setData_42 ?_
      obtain ⟨z43, h43, hf⟩ := jt_b hf
      refine J_callVi O (pc := 43) (c_X0_lengthOf l D cB cI cJ h d db hk hs hu hn hg h_c h_e d_l d_f h_k h_s h_u h_n h_g a1 h43) rfl 0 rfl rfl gX0_setData_X0_lengthOf hdV_X0_lengthOf ⟨(Nat.le_of_ble_eq_true rfl), (Nat.le_of_ble_eq_true rfl)⟩ rfl (st := [.int (h_s (Int32.toNatClampNeg a1)), .ref d]) rfl (Nat.le_of_ble_eq_true rfl) [0, 1, 2, 3, 4, 5, 6, 7] [8] rfl rfl rfl rfl rfl (by decide) [(h, .inr (0, [.ref d, .ref hk, .ref hs, .int h_c, .ref hu, .ref hn, .ref hg, .int h_e])), (d, .inr (4, [.ref db, .int d_l])), (db, .inl (cB, 12000, .inl (b8 d_f))), (hk, .inl (cI, 60, .inl h_k)), (hs, .inl (cI, 61, .inl h_s)), (hu, .inl (cI, 40, .inl h_u)), (hn, .inl (cJ, 40, .inr (.inl h_n))), (hg, .inl (cI, 40, .inl h_g)), (q, .inr (2, [.ref d, .int q_o, .int q_l]))] [1, 2, 3, 4, 5, 6, 7, 8, 0] rfl rfl rfl (0) (0) (Nat.le_of_ble_eq_true rfl) (Nat.le_of_ble_eq_true rfl) ⟨(Nat.le_of_ble_eq_true rfl), (Nat.le_of_ble_eq_true rfl)⟩ dX0_setData_43 ?_
      refine J_aload_n O (i := 2) (k0 := 2) (pc := 46) 3 rfl rfl dX0_setData_46 ?_
      obtain ⟨z47, h47, hf⟩ := jt_b hf
      refine J_callVv O (pc := 47) (c_X6_spliceB l D cB cI cJ d db q 12000 d_l d_f q_o q_l (h_s (Int32.toNatClampNeg a1)) z43 h47) rfl 0 rfl rfl gX0_setData_X6_splice hdV_X6_splice ⟨(Nat.le_of_ble_eq_true rfl), (Nat.le_of_ble_eq_true rfl)⟩ rfl (st := []) rfl (Nat.le_of_ble_eq_true rfl) [1, 2, 8] [0, 3, 4, 5, 6, 7] rfl rfl rfl rfl rfl (by decide) [(h, .inr (0, [.ref d, .ref hk, .ref hs, .int h_c, .ref hu, .ref hn, .ref hg, .int h_e])), (d, .inr (4, [.ref db, .int z47.1])), (db, .inl (cB, 12000, .inl (b8 z47.2))), (hk, .inl (cI, 60, .inl h_k)), (hs, .inl (cI, 61, .inl h_s)), (hu, .inl (cI, 40, .inl h_u)), (hn, .inl (cJ, 40, .inr (.inl h_n))), (hg, .inl (cI, 40, .inl h_g)), (q, .inr (2, [.ref d, .int q_o, .int q_l]))] [0, 6, 7, 1, 2, 3, 4, 5, 8] rfl rfl rfl (0) (0) (Nat.le_of_ble_eq_true rfl) (Nat.le_of_ble_eq_true rfl) ⟨(Nat.le_of_ble_eq_true rfl), (Nat.le_of_ble_eq_true rfl)⟩ dX0_setData_47 ?_
      refine J_iload_n O (i := 1) (k0 := 1) (pc := 50) 2 rfl rfl dX0_setData_50 ?_
      refine J_iconst O (v := 1) (pc := 51) (by decide) dX0_setData_51 ?_
      refine J_iadd O (pc := 52) dX0_setData_52 ?_
      refine J_istore O (i := 4) (pc := 53) [(4, .int (a1 + 1)), (3, .int (q_l - z6)), (0, .ref h), (1, .int a1), (2, .ref q)] (by decide) rfl dX0_setData_53 ?_
      refine J_sub [2, 1, 0] (lv' := [(0, .ref h), (3, .int (q_l - z6)), (4, .int (a1 + 1))]) rfl ?_
      exact wk_X0_setDataB_55 O h d db hk hs hu hn hg q h_c h_e h_k h_u h_n h_g q_o q_l a1 fu fu (q_l - z6) (a1 + 1) z47.1 z47.2 h_s hf
    · have hf := jt_f c27 hf
      cases hf
      exact J_vret O (pc := 30) dX0_setData_30
theorem in_X0_takeChunk_X3 : ∀ w ∈ u_ws RX3 TX3 3, w ∈ wsX0_takeChunk := fun _ h => List.mem_cons_of_mem _ (List.mem_append_left _ (List.mem_append_left _ (List.mem_append_right _ h)))
theorem mb_X0_takeChunk_1 : Cond.classLink RX0 55 RX3 ∈ wsX0_takeChunk := by decide +kernel
theorem mb_X0_takeChunk_2 : Cond.instantiable RX3 3 ∈ wsX0_takeChunk := by decide +kernel
theorem mb_X0_takeChunk_3 : Cond.initialized RX3 ∈ wsX0_takeChunk := by decide +kernel
theorem in_X0_takeChunk_X0 : ∀ w ∈ u_ws RX0 TX0 8, w ∈ wsX0_takeChunk := fun _ h => List.mem_cons_of_mem _ (List.mem_append_left _ (List.mem_append_right _ h))
theorem mb_X0_takeChunk_5 : Cond.fieldLink RX0 14 (TX0 0).1 (TX0 0).2.1 (TX0 0).2.2.1 ∈ wsX0_takeChunk := by decide +kernel
theorem mb_X0_takeChunk_6 : Cond.initialized yX3_init.cls ∈ wsX0_takeChunk := by decide +kernel
theorem mb_X0_takeChunk_7 : Cond.methodLink RX0 61 yX3_init ∈ wsX0_takeChunk := by decide +kernel
theorem mb_X0_takeChunk_8 : Cond.instanceMethod yX3_init ∈ wsX0_takeChunk := by decide +kernel
theorem hdV_X0_setData : yX0_setData.cls = RX0 ∧ yX0_setData.cls ≠ "java/lang/invoke/MethodHandle" ∧ yX0_setData.cls ≠ "java/lang/invoke/VarHandle" ∧ (parseMethodDescriptor yX0_setData.desc).map (fun d => d.parameters.length) = some 2 := by decide +kernel
theorem mb_X0_takeChunk_9 : Cond.fieldLink RX0 27 (TX0 3).1 (TX0 3).2.1 (TX0 3).2.2.1 ∈ wsX0_takeChunk := by decide +kernel
theorem mb_X0_takeChunk_10 : Cond.fieldLink RX0 24 (TX0 2).1 (TX0 2).2.1 (TX0 2).2.2.1 ∈ wsX0_takeChunk := by decide +kernel
theorem in_X0_takeChunk_X6 : ∀ w ∈ u_ws RX6 TX6 2, w ∈ wsX0_takeChunk := fun _ h => List.mem_cons_of_mem _ (List.mem_append_right _ h)
theorem mb_X0_takeChunk_12 : Cond.fieldLink RX0 86 (TX6 1).1 (TX6 1).2.1 (TX6 1).2.2.1 ∈ wsX0_takeChunk := by decide +kernel
theorem mb_X0_takeChunk_13 : Cond.fieldLink RX0 41 (TX0 7).1 (TX0 7).2.1 (TX0 7).2.2.1 ∈ wsX0_takeChunk := by decide +kernel
theorem mb_X0_takeChunk_14 : Cond.fieldLink RX0 38 (TX0 6).1 (TX0 6).2.1 (TX0 6).2.2.1 ∈ wsX0_takeChunk := by decide +kernel
theorem mb_X0_takeChunk_15 : Cond.fieldLink RX0 20 (TX0 1).1 (TX0 1).2.1 (TX0 1).2.2.1 ∈ wsX0_takeChunk := by decide +kernel
abbrev rmX0_takeChunk : Room := { frames := 3, cells := 1, slots := 3, locals := 88 }
set_option maxHeartbeats 4000000 in
set_option maxRecDepth 100000 in
theorem wk_X0_takeChunk_99 {X : JC} {l : Launch} {D : va_G} {cB cI cJ : ClassId} (O : Jo X (l, D, cB, cI, cJ) cX0_takeChunk 3 RX0 wsX0_takeChunk rmX0_takeChunk none) (h d db hk hs hu hn hg : Nat) (h_e : Int32) (h_u : Nat → Int32) (h_n : Nat → Int64) (a1 : Int32) (fu : Nat) {z : Int32 × Int32 × (Nat → Int8) × (Nat → Int32) × (Nat → Int32) × (Nat → Int32)} : ∀ (fn : Nat) (v2 : Int32) (h_c : Int32) (d_l : Int32) (d_f : Nat → Int8) (h_k : Nat → Int32) (h_s : Nat → Int32) (h_g : Nat → Int32), p_X0_takeChunk_99 fu h_e a1 fn v2 h_c d_l d_f h_k h_s h_g = some z → J X 3 (JQv X [(h, .inr (0, [.ref d, .ref hk, .ref hs, .int z.1, .ref hu, .ref hn, .ref hg, .int h_e])), (d, .inr (4, [.ref db, .int z.2.1])), (db, .inl (cB, 12000, .inl (b8 z.2.2.1))), (hk, .inl (cI, 60, .inl z.2.2.2.1)), (hs, .inl (cI, 61, .inl z.2.2.2.2.1)), (hu, .inl (cI, 40, .inl h_u)), (hn, .inl (cJ, 40, .inr (.inl h_n))), (hg, .inl (cI, 40, .inl z.2.2.2.2.2))] 1 3) [(h, .inr (0, [.ref d, .ref hk, .ref hs, .int h_c, .ref hu, .ref hn, .ref hg, .int h_e])), (d, .inr (4, [.ref db, .int d_l])), (db, .inl (cB, 12000, .inl (b8 d_f))), (hk, .inl (cI, 60, .inl h_k)), (hs, .inl (cI, 61, .inl h_s)), (hu, .inl (cI, 40, .inl h_u)), (hn, .inl (cJ, 40, .inr (.inl h_n))), (hg, .inl (cI, 40, .inl h_g))] 1 3 99 [(0, .ref h), (1, .int a1), (2, .int v2)] [] := by
  intro fn
  induction fn with
  | zero =>
    intro v2 h_c d_l d_f h_k h_s h_g hf
    rw [p_X0_takeChunk_99] at hf
    exact jt_n hf
  | succ fn ih =>
    intro v2 h_c d_l d_f h_k h_s h_g hf
    rw [p_X0_takeChunk_99] at hf
    refine J_iload_n O (i := 2) (k0 := 2) (pc := 99) 2 rfl rfl dX0_takeChunk_99 ?_
    refine J_aload_n O (i := 0) (k0 := 0) (pc := 100) 0 rfl rfl dX0_takeChunk_100 ?_
    refine J_get O (pc := 101) in_X0_takeChunk_X0 0 rfl rfl 7 (by decide) mb_X0_takeChunk_13 rfl dX0_takeChunk_101 ?_
    refine J_icmp_ge O (tgt := 133) (pc := 104) dX0_takeChunk_104 (by decide) (fun c104 => ?_) (fun c104 => ?_)
    · have hf := jt_t c104 hf
      cases hf
      exact J_vret O (pc := 133) dX0_takeChunk_133
    · have hf := jt_f c104 hf
      refine J_aload_n O (i := 0) (k0 := 0) (pc := 107) 0 rfl rfl dX0_takeChunk_107 ?_
      refine J_get O (pc := 108) in_X0_takeChunk_X0 0 rfl rfl 6 (by decide) mb_X0_takeChunk_14 rfl dX0_takeChunk_108 ?_
      refine J_iload_n O (i := 2) (k0 := 2) (pc := 111) 2 rfl rfl dX0_takeChunk_111 ?_
      obtain ⟨h112, hf⟩ := jt_g hf
      refine J_iald O (pc := 112) 7 1 rfl rfl h112 dX0_takeChunk_112 ?_
      refine J_iload_n O (i := 1) (k0 := 1) (pc := 113) 1 rfl rfl dX0_takeChunk_113 ?_
      refine J_icmp_le O (tgt := 127) (pc := 114) dX0_takeChunk_114 (by decide) (fun c114 => ?_) (fun c114 => ?_)
      · have hf := jt_t c114 hf
        refine J_iinc O (i := 2) (n := 1) (v := v2 + 1) (pc := 127) 2 rfl [(2, .int (v2 + 1)), (0, .ref h), (1, .int a1)] (by decide) (congrArg (_ + ·) (by decide)) rfl dX0_takeChunk_127 ?_
        refine J_goto O (tgt := 99) (pc := 130) dX0_takeChunk_130 (by decide) ?_
        refine J_sub [1, 2, 0] (lv' := [(0, .ref h), (1, .int a1), (2, .int (v2 + 1))]) rfl ?_
        exact ih (v2 + 1) h_c d_l d_f h_k h_s h_g hf
      · have hf := jt_f c114 hf
        refine J_aload_n O (i := 0) (k0 := 0) (pc := 117) 0 rfl rfl dX0_takeChunk_117 ?_
        refine J_get O (pc := 118) in_X0_takeChunk_X0 0 rfl rfl 6 (by decide) mb_X0_takeChunk_14 rfl dX0_takeChunk_118 ?_
        refine J_iload_n O (i := 2) (k0 := 2) (pc := 121) 2 rfl rfl dX0_takeChunk_121 ?_
        refine J_dup2 O (pc := 122) rfl rfl dX0_takeChunk_122 ?_
        obtain ⟨h123, hf⟩ := jt_g hf
        refine J_iald O (pc := 123) 7 1 rfl rfl h123 dX0_takeChunk_123 ?_
        refine J_iconst O (v := 1) (pc := 124) (by decide) dX0_takeChunk_124 ?_
        refine J_isub O (pc := 125) dX0_takeChunk_125 ?_
        obtain ⟨h126, hf⟩ := jt_g hf
        refine J_iast O (pc := 126) 7 1 rfl rfl h126 [(h, .inr (0, [.ref d, .ref hk, .ref hs, .int h_c, .ref hu, .ref hn, .ref hg, .int h_e])), (d, .inr (4, [.ref db, .int d_l])), (db, .inl (cB, 12000, .inl (b8 d_f))), (hk, .inl (cI, 60, .inl h_k)), (hs, .inl (cI, 61, .inl h_s)), (hu, .inl (cI, 40, .inl h_u)), (hn, .inl (cJ, 40, .inr (.inl h_n))), (hg, .inl (cI, 40, .inl (upd h_g (Int32.toNatClampNeg v2) ((h_g (Int32.toNatClampNeg v2)) - 1))))] rfl dX0_takeChunk_126 ?_
        refine J_iinc O (i := 2) (n := 1) (v := v2 + 1) (pc := 127) 2 rfl [(2, .int (v2 + 1)), (0, .ref h), (1, .int a1)] (by decide) (congrArg (_ + ·) (by decide)) rfl dX0_takeChunk_127 ?_
        refine J_goto O (tgt := 99) (pc := 130) dX0_takeChunk_130 (by decide) ?_
        refine J_sub [1, 2, 0] (lv' := [(0, .ref h), (1, .int a1), (2, .int (v2 + 1))]) rfl ?_
        exact ih (v2 + 1) h_c d_l d_f h_k h_s (upd h_g (Int32.toNatClampNeg v2) ((h_g (Int32.toNatClampNeg v2)) - 1)) hf
set_option maxHeartbeats 4000000 in
set_option maxRecDepth 100000 in
theorem wk_X0_takeChunk_39 {X : JC} {l : Launch} {D : va_G} {cB cI cJ : ClassId} (O : Jo X (l, D, cB, cI, cJ) cX0_takeChunk 3 RX0 wsX0_takeChunk rmX0_takeChunk none) (h d db hk hs hu hn hg : Nat) (h_e : Int32) (h_u : Nat → Int32) (h_n : Nat → Int64) (a1 : Int32) (fu : Nat) {z : Int32 × Int32 × (Nat → Int8) × (Nat → Int32) × (Nat → Int32) × (Nat → Int32)} : ∀ (fn : Nat) (v2 : Int32) (h_c : Int32) (d_l : Int32) (d_f : Nat → Int8) (h_k : Nat → Int32) (h_s : Nat → Int32) (h_g : Nat → Int32), p_X0_takeChunk_39 fu h_e a1 fn v2 h_c d_l d_f h_k h_s h_g = some z → J X 3 (JQv X [(h, .inr (0, [.ref d, .ref hk, .ref hs, .int z.1, .ref hu, .ref hn, .ref hg, .int h_e])), (d, .inr (4, [.ref db, .int z.2.1])), (db, .inl (cB, 12000, .inl (b8 z.2.2.1))), (hk, .inl (cI, 60, .inl z.2.2.2.1)), (hs, .inl (cI, 61, .inl z.2.2.2.2.1)), (hu, .inl (cI, 40, .inl h_u)), (hn, .inl (cJ, 40, .inr (.inl h_n))), (hg, .inl (cI, 40, .inl z.2.2.2.2.2))] 1 3) [(h, .inr (0, [.ref d, .ref hk, .ref hs, .int h_c, .ref hu, .ref hn, .ref hg, .int h_e])), (d, .inr (4, [.ref db, .int d_l])), (db, .inl (cB, 12000, .inl (b8 d_f))), (hk, .inl (cI, 60, .inl h_k)), (hs, .inl (cI, 61, .inl h_s)), (hu, .inl (cI, 40, .inl h_u)), (hn, .inl (cJ, 40, .inr (.inl h_n))), (hg, .inl (cI, 40, .inl h_g))] 1 3 39 [(0, .ref h), (1, .int a1), (2, .int v2)] [] := by
  intro fn
  induction fn with
  | zero =>
    intro v2 h_c d_l d_f h_k h_s h_g hf
    rw [p_X0_takeChunk_39] at hf
    exact jt_n hf
  | succ fn ih =>
    intro v2 h_c d_l d_f h_k h_s h_g hf
    rw [p_X0_takeChunk_39] at hf
    refine J_iload_n O (i := 2) (k0 := 2) (pc := 39) 2 rfl rfl dX0_takeChunk_39 ?_
    refine J_aload_n O (i := 0) (k0 := 0) (pc := 40) 0 rfl rfl dX0_takeChunk_40 ?_
    refine J_get O (pc := 41) in_X0_takeChunk_X0 0 rfl rfl 3 (by decide) mb_X0_takeChunk_9 rfl dX0_takeChunk_41 ?_
    refine J_icmp_ge O (tgt := 81) (pc := 44) dX0_takeChunk_44 (by decide) (fun c44 => ?_) (fun c44 => ?_)
    · have hf := jt_t c44 hf
      refine J_aload_n O (i := 0) (k0 := 0) (pc := 81) 0 rfl rfl dX0_takeChunk_81 ?_
      refine J_get O (pc := 82) in_X0_takeChunk_X0 0 rfl rfl 2 (by decide) mb_X0_takeChunk_10 rfl dX0_takeChunk_82 ?_
      refine J_aload_n O (i := 0) (k0 := 0) (pc := 85) 0 rfl rfl dX0_takeChunk_85 ?_
      refine J_get O (pc := 86) in_X0_takeChunk_X0 0 rfl rfl 3 (by decide) mb_X0_takeChunk_9 rfl dX0_takeChunk_86 ?_
      refine J_aload_n O (i := 0) (k0 := 0) (pc := 89) 0 rfl rfl dX0_takeChunk_89 ?_
      refine J_get O (pc := 90) in_X0_takeChunk_X0 0 rfl rfl 0 (by decide) mb_X0_takeChunk_5 rfl dX0_takeChunk_90 ?_
      refine J_get O (pc := 93) in_X0_takeChunk_X6 1 rfl rfl 1 (by decide) mb_X0_takeChunk_12 rfl dX0_takeChunk_93 ?_
      obtain ⟨h96, hf⟩ := jt_g hf
      refine J_iast O (pc := 96) 4 1 rfl rfl h96 [(h, .inr (0, [.ref d, .ref hk, .ref hs, .int h_c, .ref hu, .ref hn, .ref hg, .int h_e])), (d, .inr (4, [.ref db, .int d_l])), (db, .inl (cB, 12000, .inl (b8 d_f))), (hk, .inl (cI, 60, .inl h_k)), (hs, .inl (cI, 61, .inl (upd h_s (Int32.toNatClampNeg h_c) d_l))), (hu, .inl (cI, 40, .inl h_u)), (hn, .inl (cJ, 40, .inr (.inl h_n))), (hg, .inl (cI, 40, .inl h_g))] rfl dX0_takeChunk_96 ?_
      refine J_iconst O (v := 0) (pc := 97) (by decide) dX0_takeChunk_97 ?_
      refine J_istore_n O (i := 2) (k0 := 2) (pc := 98) rfl [(2, .int 0), (0, .ref h), (1, .int a1)] (by decide) rfl dX0_takeChunk_98 ?_
      refine J_sub [1, 2, 0] (lv' := [(0, .ref h), (1, .int a1), (2, .int 0)]) rfl ?_
      exact wk_X0_takeChunk_99 O h d db hk hs hu hn hg h_e h_u h_n a1 fu fu 0 h_c d_l d_f h_k (upd h_s (Int32.toNatClampNeg h_c) d_l) h_g hf
    · have hf := jt_f c44 hf
      refine J_aload_n O (i := 0) (k0 := 0) (pc := 47) 0 rfl rfl dX0_takeChunk_47 ?_
      refine J_get O (pc := 48) in_X0_takeChunk_X0 0 rfl rfl 1 (by decide) mb_X0_takeChunk_15 rfl dX0_takeChunk_48 ?_
      refine J_iload_n O (i := 2) (k0 := 2) (pc := 51) 2 rfl rfl dX0_takeChunk_51 ?_
      refine J_aload_n O (i := 0) (k0 := 0) (pc := 52) 0 rfl rfl dX0_takeChunk_52 ?_
      refine J_get O (pc := 53) in_X0_takeChunk_X0 0 rfl rfl 1 (by decide) mb_X0_takeChunk_15 rfl dX0_takeChunk_53 ?_
      refine J_iload_n O (i := 2) (k0 := 2) (pc := 56) 2 rfl rfl dX0_takeChunk_56 ?_
      refine J_iconst O (v := 1) (pc := 57) (by decide) dX0_takeChunk_57 ?_
      refine J_iadd O (pc := 58) dX0_takeChunk_58 ?_
      obtain ⟨h59, hf⟩ := jt_g hf
      refine J_iald O (pc := 59) 3 1 rfl rfl h59 dX0_takeChunk_59 ?_
      obtain ⟨h60, hf⟩ := jt_g hf
      refine J_iast O (pc := 60) 3 1 rfl rfl h60 [(h, .inr (0, [.ref d, .ref hk, .ref hs, .int h_c, .ref hu, .ref hn, .ref hg, .int h_e])), (d, .inr (4, [.ref db, .int d_l])), (db, .inl (cB, 12000, .inl (b8 d_f))), (hk, .inl (cI, 60, .inl (upd h_k (Int32.toNatClampNeg v2) (h_k (Int32.toNatClampNeg (v2 + 1)))))), (hs, .inl (cI, 61, .inl h_s)), (hu, .inl (cI, 40, .inl h_u)), (hn, .inl (cJ, 40, .inr (.inl h_n))), (hg, .inl (cI, 40, .inl h_g))] rfl dX0_takeChunk_60 ?_
      refine J_aload_n O (i := 0) (k0 := 0) (pc := 61) 0 rfl rfl dX0_takeChunk_61 ?_
      refine J_get O (pc := 62) in_X0_takeChunk_X0 0 rfl rfl 2 (by decide) mb_X0_takeChunk_10 rfl dX0_takeChunk_62 ?_
      refine J_iload_n O (i := 2) (k0 := 2) (pc := 65) 2 rfl rfl dX0_takeChunk_65 ?_
      refine J_aload_n O (i := 0) (k0 := 0) (pc := 66) 0 rfl rfl dX0_takeChunk_66 ?_
      refine J_get O (pc := 67) in_X0_takeChunk_X0 0 rfl rfl 2 (by decide) mb_X0_takeChunk_10 rfl dX0_takeChunk_67 ?_
      refine J_iload_n O (i := 2) (k0 := 2) (pc := 70) 2 rfl rfl dX0_takeChunk_70 ?_
      refine J_iconst O (v := 1) (pc := 71) (by decide) dX0_takeChunk_71 ?_
      refine J_iadd O (pc := 72) dX0_takeChunk_72 ?_
      obtain ⟨h73, hf⟩ := jt_g hf
      refine J_iald O (pc := 73) 4 1 rfl rfl h73 dX0_takeChunk_73 ?_
      obtain ⟨h74, hf⟩ := jt_g hf
      refine J_iast O (pc := 74) 4 1 rfl rfl h74 [(h, .inr (0, [.ref d, .ref hk, .ref hs, .int h_c, .ref hu, .ref hn, .ref hg, .int h_e])), (d, .inr (4, [.ref db, .int d_l])), (db, .inl (cB, 12000, .inl (b8 d_f))), (hk, .inl (cI, 60, .inl (upd h_k (Int32.toNatClampNeg v2) (h_k (Int32.toNatClampNeg (v2 + 1)))))), (hs, .inl (cI, 61, .inl (upd h_s (Int32.toNatClampNeg v2) (h_s (Int32.toNatClampNeg (v2 + 1)))))), (hu, .inl (cI, 40, .inl h_u)), (hn, .inl (cJ, 40, .inr (.inl h_n))), (hg, .inl (cI, 40, .inl h_g))] rfl dX0_takeChunk_74 ?_
      refine J_iinc O (i := 2) (n := 1) (v := v2 + 1) (pc := 75) 2 rfl [(2, .int (v2 + 1)), (0, .ref h), (1, .int a1)] (by decide) (congrArg (_ + ·) (by decide)) rfl dX0_takeChunk_75 ?_
      refine J_goto O (tgt := 39) (pc := 78) dX0_takeChunk_78 (by decide) ?_
      refine J_sub [1, 2, 0] (lv' := [(0, .ref h), (1, .int a1), (2, .int (v2 + 1))]) rfl ?_
      exact ih (v2 + 1) h_c d_l d_f (upd h_k (Int32.toNatClampNeg v2) (h_k (Int32.toNatClampNeg (v2 + 1)))) (upd h_s (Int32.toNatClampNeg v2) (h_s (Int32.toNatClampNeg (v2 + 1)))) h_g hf
set_option maxHeartbeats 4000000 in
set_option maxRecDepth 100000 in
theorem c_X0_takeChunk (l : Launch) (D : va_G) (cB cI cJ : ClassId) (h d db hk hs hu hn hg : Nat) (h_c : Int32) (h_e : Int32) (d_l : Int32) (d_f : Nat → Int8) (h_k : Nat → Int32) (h_s : Nat → Int32) (h_u : Nat → Int32) (h_n : Nat → Int64) (h_g : Nat → Int32) (a1 : Int32) (fu : Nat) {z : Int32 × Int32 × (Nat → Int8) × (Nat → Int32) × (Nat → Int32) × (Nat → Int32)} (hf : p_X0_takeChunk fu h_c h_e d_l d_f h_k h_s h_g a1 = some z) : Cv (l, D, cB, cI, cJ) yX0_takeChunk wsX0_takeChunk rmX0_takeChunk [.ref h, .int a1] [(h, .inr (0, [.ref d, .ref hk, .ref hs, .int h_c, .ref hu, .ref hn, .ref hg, .int h_e])), (d, .inr (4, [.ref db, .int d_l])), (db, .inl (cB, 12000, .inl (b8 d_f))), (hk, .inl (cI, 60, .inl h_k)), (hs, .inl (cI, 61, .inl h_s)), (hu, .inl (cI, 40, .inl h_u)), (hn, .inl (cJ, 40, .inr (.inl h_n))), (hg, .inl (cI, 40, .inl h_g))] [(h, .inr (0, [.ref d, .ref hk, .ref hs, .int z.1, .ref hu, .ref hn, .ref hg, .int h_e])), (d, .inr (4, [.ref db, .int z.2.1])), (db, .inl (cB, 12000, .inl (b8 z.2.2.1))), (hk, .inl (cI, 60, .inl z.2.2.2.1)), (hs, .inl (cI, 61, .inl z.2.2.2.2.1)), (hu, .inl (cI, 40, .inl h_u)), (hn, .inl (cJ, 40, .inr (.inl h_n))), (hg, .inl (cI, 40, .inl z.2.2.2.2.2))] := by
  refine Cv_of (cc := cX0_takeChunk) (nL := 3) (own := RX0) (ret := none) (by decide) rfl rfl (Nat.le_of_ble_eq_true rfl) (fun X O hnm0 => ?_)
  rw [p_X0_takeChunk] at hf
  show J X 3 (JQv X [(h, .inr (0, [.ref d, .ref hk, .ref hs, .int z.1, .ref hu, .ref hn, .ref hg, .int h_e])), (d, .inr (4, [.ref db, .int z.2.1])), (db, .inl (cB, 12000, .inl (b8 z.2.2.1))), (hk, .inl (cI, 60, .inl z.2.2.2.1)), (hs, .inl (cI, 61, .inl z.2.2.2.2.1)), (hu, .inl (cI, 40, .inl h_u)), (hn, .inl (cJ, 40, .inr (.inl h_n))), (hg, .inl (cI, 40, .inl z.2.2.2.2.2))] 1 3) [(h, .inr (0, [.ref d, .ref hk, .ref hs, .int h_c, .ref hu, .ref hn, .ref hg, .int h_e])), (d, .inr (4, [.ref db, .int d_l])), (db, .inl (cB, 12000, .inl (b8 d_f))), (hk, .inl (cI, 60, .inl h_k)), (hs, .inl (cI, 61, .inl h_s)), (hu, .inl (cI, 40, .inl h_u)), (hn, .inl (cJ, 40, .inr (.inl h_n))), (hg, .inl (cI, 40, .inl h_g))] 0 0 0 [(0, .ref h), (1, .int a1)] []
  refine J_aload_n O (i := 0) (k0 := 0) (pc := 0) 0 rfl rfl dX0_takeChunk_0 ?_
  refine J_iload_n O (i := 1) (k0 := 1) (pc := 1) 1 rfl rfl dX0_takeChunk_1 ?_
  obtain ⟨z2, h2, hf⟩ := jt_b hf
  refine J_callVi O (pc := 2) (c_X0_hasChunk l D cB cI cJ h d db hk hs hu hn hg h_c h_e d_l d_f h_k h_s h_u h_n h_g a1 h2) rfl 0 rfl rfl gX0_takeChunk_X0_hasChunk hdV_X0_hasChunk ⟨(Nat.le_of_ble_eq_true rfl), (Nat.le_of_ble_eq_true rfl)⟩ rfl (st := []) rfl (Nat.le_of_ble_eq_true rfl) [0, 1, 2, 3, 4, 5, 6, 7] [] rfl rfl rfl rfl rfl (by decide) [(h, .inr (0, [.ref d, .ref hk, .ref hs, .int h_c, .ref hu, .ref hn, .ref hg, .int h_e])), (d, .inr (4, [.ref db, .int d_l])), (db, .inl (cB, 12000, .inl (b8 d_f))), (hk, .inl (cI, 60, .inl h_k)), (hs, .inl (cI, 61, .inl h_s)), (hu, .inl (cI, 40, .inl h_u)), (hn, .inl (cJ, 40, .inr (.inl h_n))), (hg, .inl (cI, 40, .inl h_g))] [0, 1, 2, 3, 4, 5, 6, 7] rfl rfl rfl (0) (0) (Nat.le_of_ble_eq_true rfl) (Nat.le_of_ble_eq_true rfl) ⟨(Nat.le_of_ble_eq_true rfl), (Nat.le_of_ble_eq_true rfl)⟩ dX0_takeChunk_2 ?_
  refine J_zne O (tgt := 9) (pc := 5) dX0_takeChunk_5 (by decide) (fun c5 => ?_) (fun c5 => ?_)
  · have hf := jt_t c5 hf
    refine J_aload_n O (i := 0) (k0 := 0) (pc := 9) 0 rfl rfl dX0_takeChunk_9 ?_
    refine J_iload_n O (i := 1) (k0 := 1) (pc := 10) 1 rfl rfl dX0_takeChunk_10 ?_
    refine J_new O (pc := 11) in_X0_takeChunk_X3 tyX3 tyX3_ok mb_X0_takeChunk_1 mb_X0_takeChunk_2 mb_X0_takeChunk_3 rfl [.null, .int 0, .int 0] fs_X3 (Nat.le_of_ble_eq_true rfl) (Nat.le_of_ble_eq_true rfl) (fun q11 => [(h, .inr (0, [.ref d, .ref hk, .ref hs, .int h_c, .ref hu, .ref hn, .ref hg, .int h_e])), (d, .inr (4, [.ref db, .int d_l])), (db, .inl (cB, 12000, .inl (b8 d_f))), (hk, .inl (cI, 60, .inl h_k)), (hs, .inl (cI, 61, .inl h_s)), (hu, .inl (cI, 40, .inl h_u)), (hn, .inl (cJ, 40, .inr (.inl h_n))), (hg, .inl (cI, 40, .inl h_g)), (q11, .inr (2, [.null, .int 0, .int 0]))]) (fun _ => rfl) (1) (3) rfl rfl dX0_takeChunk_11 (fun q11 => ?_)
    refine J_dup O (pc := 14) rfl dX0_takeChunk_14 ?_
    refine J_aload_n O (i := 0) (k0 := 0) (pc := 15) 0 rfl rfl dX0_takeChunk_15 ?_
    refine J_get O (pc := 16) in_X0_takeChunk_X0 0 rfl rfl 0 (by decide) mb_X0_takeChunk_5 rfl dX0_takeChunk_16 ?_
    refine J_iconst O (v := 0) (pc := 19) (by decide) dX0_takeChunk_19 ?_
    refine J_iconst O (v := 0) (pc := 20) (by decide) dX0_takeChunk_20 ?_
    obtain ⟨z21, h21, hf⟩ := jt_b hf
    refine J_callIv O (pc := 21) (ret' := none) (c_X3_init l D cB cI cJ q11 d db 12000 d_l d_f 0 0 h21) rfl gX0_takeChunk_X3_init mb_X0_takeChunk_6 mb_X0_takeChunk_7 mb_X0_takeChunk_8 rfl hdS_X3_init ⟨(Nat.le_of_ble_eq_true rfl), (Nat.le_of_ble_eq_true rfl)⟩ rfl (st := [.ref q11, .int a1, .ref h]) rfl (Nat.le_of_ble_eq_true rfl) [8, 1, 2] [0, 3, 4, 5, 6, 7] rfl rfl rfl rfl rfl (by decide) [(h, .inr (0, [.ref d, .ref hk, .ref hs, .int h_c, .ref hu, .ref hn, .ref hg, .int h_e])), (d, .inr (4, [.ref db, .int d_l])), (db, .inl (cB, 12000, .inl (b8 d_f))), (hk, .inl (cI, 60, .inl h_k)), (hs, .inl (cI, 61, .inl h_s)), (hu, .inl (cI, 40, .inl h_u)), (hn, .inl (cJ, 40, .inr (.inl h_n))), (hg, .inl (cI, 40, .inl h_g)), (q11, .inr (2, [.ref d, .int z21.1, .int z21.2]))] [0, 7, 8, 1, 2, 3, 4, 5, 6] rfl rfl rfl (1) (3) (Nat.le_of_ble_eq_true rfl) (Nat.le_of_ble_eq_true rfl) ⟨(Nat.le_of_ble_eq_true rfl), (Nat.le_of_ble_eq_true rfl)⟩ dX0_takeChunk_21 ?_
    obtain ⟨z24, h24, hf⟩ := jt_b hf
    refine J_callVv O (pc := 24) (c_X0_setDataB l D cB cI cJ h d db hk hs hu hn hg q11 h_c h_e d_l d_f h_k h_s h_u h_n h_g z21.1 z21.2 a1 fu h24) rfl 0 rfl rfl gX0_takeChunk_X0_setData hdV_X0_setData ⟨(Nat.le_of_ble_eq_true rfl), (Nat.le_of_ble_eq_true rfl)⟩ rfl (st := []) rfl (Nat.le_of_ble_eq_true rfl) [0, 1, 2, 3, 4, 5, 6, 7, 8] [] rfl rfl rfl rfl rfl (by decide) [(h, .inr (0, [.ref d, .ref hk, .ref hs, .int h_c, .ref hu, .ref hn, .ref hg, .int h_e])), (d, .inr (4, [.ref db, .int z24.1])), (db, .inl (cB, 12000, .inl (b8 z24.2.1))), (hk, .inl (cI, 60, .inl h_k)), (hs, .inl (cI, 61, .inl z24.2.2)), (hu, .inl (cI, 40, .inl h_u)), (hn, .inl (cJ, 40, .inr (.inl h_n))), (hg, .inl (cI, 40, .inl h_g)), (q11, .inr (2, [.ref d, .int z21.1, .int z21.2]))] [0, 1, 2, 3, 4, 5, 6, 7, 8] rfl rfl rfl (1) (3) (Nat.le_of_ble_eq_true rfl) (Nat.le_of_ble_eq_true rfl) ⟨(Nat.le_of_ble_eq_true rfl), (Nat.le_of_ble_eq_true rfl)⟩ dX0_takeChunk_24 ?_
    refine J_aload_n O (i := 0) (k0 := 0) (pc := 27) 0 rfl rfl dX0_takeChunk_27 ?_
    refine J_dup O (pc := 28) rfl dX0_takeChunk_28 ?_
    refine J_get O (pc := 29) in_X0_takeChunk_X0 0 rfl rfl 3 (by decide) mb_X0_takeChunk_9 rfl dX0_takeChunk_29 ?_
    refine J_iconst O (v := 1) (pc := 32) (by decide) dX0_takeChunk_32 ?_
    refine J_isub O (pc := 33) dX0_takeChunk_33 ?_
    refine J_put O (pc := 34) in_X0_takeChunk_X0 tyX0 tyX0_ok nmX0 0 rfl rfl 3 (by decide) mb_X0_takeChunk_9 rfl rfl rfl (Nat.le_of_ble_eq_true rfl) [(h, .inr (0, [.ref d, .ref hk, .ref hs, .int (h_c - 1), .ref hu, .ref hn, .ref hg, .int h_e])), (d, .inr (4, [.ref db, .int z24.1])), (db, .inl (cB, 12000, .inl (b8 z24.2.1))), (hk, .inl (cI, 60, .inl h_k)), (hs, .inl (cI, 61, .inl z24.2.2)), (hu, .inl (cI, 40, .inl h_u)), (hn, .inl (cJ, 40, .inr (.inl h_n))), (hg, .inl (cI, 40, .inl h_g)), (q11, .inr (2, [.ref d, .int z21.1, .int z21.2]))] rfl dX0_takeChunk_34 ?_
    refine J_iload_n O (i := 1) (k0 := 1) (pc := 37) 1 rfl rfl dX0_takeChunk_37 ?_
    refine J_istore_n O (i := 2) (k0 := 2) (pc := 38) rfl [(2, .int a1), (0, .ref h), (1, .int a1)] (by decide) rfl dX0_takeChunk_38 ?_
    refine J_wsub [0, 1, 2, 3, 4, 5, 6, 7] [(h, .inr (0, [.ref d, .ref hk, .ref hs, .int (h_c - 1), .ref hu, .ref hn, .ref hg, .int h_e])), (d, .inr (4, [.ref db, .int z24.1])), (db, .inl (cB, 12000, .inl (b8 z24.2.1))), (hk, .inl (cI, 60, .inl h_k)), (hs, .inl (cI, 61, .inl z24.2.2)), (hu, .inl (cI, 40, .inl h_u)), (hn, .inl (cJ, 40, .inr (.inl h_n))), (hg, .inl (cI, 40, .inl h_g))] rfl rfl rfl ?_
    refine J_sub [1, 2, 0] (lv' := [(0, .ref h), (1, .int a1), (2, .int a1)]) rfl ?_
    exact wk_X0_takeChunk_39 O h d db hk hs hu hn hg h_e h_u h_n a1 fu fu a1 (h_c - 1) z24.1 z24.2.1 h_k z24.2.2 h_g hf
  · have hf := jt_f c5 hf
    cases hf
    refine J_widen 1 3 (Nat.le_of_ble_eq_true rfl) (Nat.le_of_ble_eq_true rfl) ?_
    exact J_vret O (pc := 8) dX0_takeChunk_8
theorem in_X0_takeEntry_X0 : ∀ w ∈ u_ws RX0 TX0 8, w ∈ wsX0_takeEntry := fun _ h => List.mem_cons_of_mem _ (List.mem_append_right _ h)
theorem mb_X0_takeEntry_1 : Cond.fieldLink RX0 41 (TX0 7).1 (TX0 7).2.1 (TX0 7).2.2.1 ∈ wsX0_takeEntry := by decide +kernel
theorem mb_X0_takeEntry_2 : Cond.fieldLink RX0 31 (TX0 4).1 (TX0 4).2.1 (TX0 4).2.2.1 ∈ wsX0_takeEntry := by decide +kernel
theorem mb_X0_takeEntry_3 : Cond.fieldLink RX0 34 (TX0 5).1 (TX0 5).2.1 (TX0 5).2.2.1 ∈ wsX0_takeEntry := by decide +kernel
theorem mb_X0_takeEntry_4 : Cond.fieldLink RX0 38 (TX0 6).1 (TX0 6).2.1 (TX0 6).2.2.1 ∈ wsX0_takeEntry := by decide +kernel
abbrev rmX0_takeEntry : Room := { frames := 1, cells := 0, slots := 0, locals := 21 }
set_option maxHeartbeats 4000000 in
set_option maxRecDepth 100000 in
theorem wk_X0_takeEntry_21 {X : JC} {l : Launch} {D : va_G} {cB cI cJ : ClassId} (O : Jo X (l, D, cB, cI, cJ) cX0_takeEntry 3 RX0 wsX0_takeEntry rmX0_takeEntry none) (h d db hk hs hu hn hg : Nat) (h_c : Int32) (d_l : Int32) (d_f : Nat → Int8) (h_k : Nat → Int32) (h_s : Nat → Int32) (a1 : Int32) (fu : Nat) {z : Int32 × (Nat → Int32) × (Nat → Int64) × (Nat → Int32)} : ∀ (fn : Nat) (v2 : Int32) (h_e : Int32) (h_u : Nat → Int32) (h_n : Nat → Int64) (h_g : Nat → Int32), p_X0_takeEntry_21 fu a1 fn v2 h_e h_u h_n h_g = some z → J X 3 (JQv X [(h, .inr (0, [.ref d, .ref hk, .ref hs, .int h_c, .ref hu, .ref hn, .ref hg, .int z.1])), (d, .inr (4, [.ref db, .int d_l])), (db, .inl (cB, 12000, .inl (b8 d_f))), (hk, .inl (cI, 60, .inl h_k)), (hs, .inl (cI, 61, .inl h_s)), (hu, .inl (cI, 40, .inl z.2.1)), (hn, .inl (cJ, 40, .inr (.inl z.2.2.1))), (hg, .inl (cI, 40, .inl z.2.2.2))] 0 0) [(h, .inr (0, [.ref d, .ref hk, .ref hs, .int h_c, .ref hu, .ref hn, .ref hg, .int h_e])), (d, .inr (4, [.ref db, .int d_l])), (db, .inl (cB, 12000, .inl (b8 d_f))), (hk, .inl (cI, 60, .inl h_k)), (hs, .inl (cI, 61, .inl h_s)), (hu, .inl (cI, 40, .inl h_u)), (hn, .inl (cJ, 40, .inr (.inl h_n))), (hg, .inl (cI, 40, .inl h_g))] 0 0 21 [(0, .ref h), (2, .int v2)] [] := by
  intro fn
  induction fn with
  | zero =>
    intro v2 h_e h_u h_n h_g hf
    rw [p_X0_takeEntry_21] at hf
    exact jt_n hf
  | succ fn ih =>
    intro v2 h_e h_u h_n h_g hf
    rw [p_X0_takeEntry_21] at hf
    refine J_iload_n O (i := 2) (k0 := 2) (pc := 21) 1 rfl rfl dX0_takeEntry_21 ?_
    refine J_aload_n O (i := 0) (k0 := 0) (pc := 22) 0 rfl rfl dX0_takeEntry_22 ?_
    refine J_get O (pc := 23) in_X0_takeEntry_X0 0 rfl rfl 7 (by decide) mb_X0_takeEntry_1 rfl dX0_takeEntry_23 ?_
    refine J_icmp_ge O (tgt := 77) (pc := 26) dX0_takeEntry_26 (by decide) (fun c26 => ?_) (fun c26 => ?_)
    · have hf := jt_t c26 hf
      cases hf
      exact J_vret O (pc := 77) dX0_takeEntry_77
    · have hf := jt_f c26 hf
      refine J_aload_n O (i := 0) (k0 := 0) (pc := 29) 0 rfl rfl dX0_takeEntry_29 ?_
      refine J_get O (pc := 30) in_X0_takeEntry_X0 0 rfl rfl 4 (by decide) mb_X0_takeEntry_2 rfl dX0_takeEntry_30 ?_
      refine J_iload_n O (i := 2) (k0 := 2) (pc := 33) 1 rfl rfl dX0_takeEntry_33 ?_
      refine J_aload_n O (i := 0) (k0 := 0) (pc := 34) 0 rfl rfl dX0_takeEntry_34 ?_
      refine J_get O (pc := 35) in_X0_takeEntry_X0 0 rfl rfl 4 (by decide) mb_X0_takeEntry_2 rfl dX0_takeEntry_35 ?_
      refine J_iload_n O (i := 2) (k0 := 2) (pc := 38) 1 rfl rfl dX0_takeEntry_38 ?_
      refine J_iconst O (v := 1) (pc := 39) (by decide) dX0_takeEntry_39 ?_
      refine J_iadd O (pc := 40) dX0_takeEntry_40 ?_
      obtain ⟨h41, hf⟩ := jt_g hf
      refine J_iald O (pc := 41) 5 1 rfl rfl h41 dX0_takeEntry_41 ?_
      obtain ⟨h42, hf⟩ := jt_g hf
      refine J_iast O (pc := 42) 5 1 rfl rfl h42 [(h, .inr (0, [.ref d, .ref hk, .ref hs, .int h_c, .ref hu, .ref hn, .ref hg, .int h_e])), (d, .inr (4, [.ref db, .int d_l])), (db, .inl (cB, 12000, .inl (b8 d_f))), (hk, .inl (cI, 60, .inl h_k)), (hs, .inl (cI, 61, .inl h_s)), (hu, .inl (cI, 40, .inl (upd h_u (Int32.toNatClampNeg v2) (h_u (Int32.toNatClampNeg (v2 + 1)))))), (hn, .inl (cJ, 40, .inr (.inl h_n))), (hg, .inl (cI, 40, .inl h_g))] rfl dX0_takeEntry_42 ?_
      refine J_aload_n O (i := 0) (k0 := 0) (pc := 43) 0 rfl rfl dX0_takeEntry_43 ?_
      refine J_get O (pc := 44) in_X0_takeEntry_X0 0 rfl rfl 5 (by decide) mb_X0_takeEntry_3 rfl dX0_takeEntry_44 ?_
      refine J_iload_n O (i := 2) (k0 := 2) (pc := 47) 1 rfl rfl dX0_takeEntry_47 ?_
      refine J_aload_n O (i := 0) (k0 := 0) (pc := 48) 0 rfl rfl dX0_takeEntry_48 ?_
      refine J_get O (pc := 49) in_X0_takeEntry_X0 0 rfl rfl 5 (by decide) mb_X0_takeEntry_3 rfl dX0_takeEntry_49 ?_
      refine J_iload_n O (i := 2) (k0 := 2) (pc := 52) 1 rfl rfl dX0_takeEntry_52 ?_
      refine J_iconst O (v := 1) (pc := 53) (by decide) dX0_takeEntry_53 ?_
      refine J_iadd O (pc := 54) dX0_takeEntry_54 ?_
      obtain ⟨h55, hf⟩ := jt_g hf
      refine J_lald O (pc := 55) 6 2 rfl rfl h55 dX0_takeEntry_55 ?_
      obtain ⟨h56, hf⟩ := jt_g hf
      refine J_last O (pc := 56) 6 2 rfl rfl h56 [(h, .inr (0, [.ref d, .ref hk, .ref hs, .int h_c, .ref hu, .ref hn, .ref hg, .int h_e])), (d, .inr (4, [.ref db, .int d_l])), (db, .inl (cB, 12000, .inl (b8 d_f))), (hk, .inl (cI, 60, .inl h_k)), (hs, .inl (cI, 61, .inl h_s)), (hu, .inl (cI, 40, .inl (upd h_u (Int32.toNatClampNeg v2) (h_u (Int32.toNatClampNeg (v2 + 1)))))), (hn, .inl (cJ, 40, .inr (.inl (vp_updL h_n (Int32.toNatClampNeg v2) (h_n (Int32.toNatClampNeg (v2 + 1))))))), (hg, .inl (cI, 40, .inl h_g))] rfl dX0_takeEntry_56 ?_
      refine J_aload_n O (i := 0) (k0 := 0) (pc := 57) 0 rfl rfl dX0_takeEntry_57 ?_
      refine J_get O (pc := 58) in_X0_takeEntry_X0 0 rfl rfl 6 (by decide) mb_X0_takeEntry_4 rfl dX0_takeEntry_58 ?_
      refine J_iload_n O (i := 2) (k0 := 2) (pc := 61) 1 rfl rfl dX0_takeEntry_61 ?_
      refine J_aload_n O (i := 0) (k0 := 0) (pc := 62) 0 rfl rfl dX0_takeEntry_62 ?_
      refine J_get O (pc := 63) in_X0_takeEntry_X0 0 rfl rfl 6 (by decide) mb_X0_takeEntry_4 rfl dX0_takeEntry_63 ?_
      refine J_iload_n O (i := 2) (k0 := 2) (pc := 66) 1 rfl rfl dX0_takeEntry_66 ?_
      refine J_iconst O (v := 1) (pc := 67) (by decide) dX0_takeEntry_67 ?_
      refine J_iadd O (pc := 68) dX0_takeEntry_68 ?_
      obtain ⟨h69, hf⟩ := jt_g hf
      refine J_iald O (pc := 69) 7 1 rfl rfl h69 dX0_takeEntry_69 ?_
      obtain ⟨h70, hf⟩ := jt_g hf
      refine J_iast O (pc := 70) 7 1 rfl rfl h70 [(h, .inr (0, [.ref d, .ref hk, .ref hs, .int h_c, .ref hu, .ref hn, .ref hg, .int h_e])), (d, .inr (4, [.ref db, .int d_l])), (db, .inl (cB, 12000, .inl (b8 d_f))), (hk, .inl (cI, 60, .inl h_k)), (hs, .inl (cI, 61, .inl h_s)), (hu, .inl (cI, 40, .inl (upd h_u (Int32.toNatClampNeg v2) (h_u (Int32.toNatClampNeg (v2 + 1)))))), (hn, .inl (cJ, 40, .inr (.inl (vp_updL h_n (Int32.toNatClampNeg v2) (h_n (Int32.toNatClampNeg (v2 + 1))))))), (hg, .inl (cI, 40, .inl (upd h_g (Int32.toNatClampNeg v2) (h_g (Int32.toNatClampNeg (v2 + 1))))))] rfl dX0_takeEntry_70 ?_
      refine J_iinc O (i := 2) (n := 1) (v := v2 + 1) (pc := 71) 1 rfl [(2, .int (v2 + 1)), (0, .ref h)] (by decide) (congrArg (_ + ·) (by decide)) rfl dX0_takeEntry_71 ?_
      refine J_goto O (tgt := 21) (pc := 74) dX0_takeEntry_74 (by decide) ?_
      refine J_sub [1, 0] (lv' := [(0, .ref h), (2, .int (v2 + 1))]) rfl ?_
      exact ih (v2 + 1) h_e (upd h_u (Int32.toNatClampNeg v2) (h_u (Int32.toNatClampNeg (v2 + 1)))) (vp_updL h_n (Int32.toNatClampNeg v2) (h_n (Int32.toNatClampNeg (v2 + 1)))) (upd h_g (Int32.toNatClampNeg v2) (h_g (Int32.toNatClampNeg (v2 + 1)))) hf
set_option maxHeartbeats 4000000 in
set_option maxRecDepth 100000 in
theorem c_X0_takeEntry (l : Launch) (D : va_G) (cB cI cJ : ClassId) (h d db hk hs hu hn hg : Nat) (h_c : Int32) (h_e : Int32) (d_l : Int32) (d_f : Nat → Int8) (h_k : Nat → Int32) (h_s : Nat → Int32) (h_u : Nat → Int32) (h_n : Nat → Int64) (h_g : Nat → Int32) (a1 : Int32) (fu : Nat) {z : Int32 × (Nat → Int32) × (Nat → Int64) × (Nat → Int32)} (hf : p_X0_takeEntry fu h_e h_u h_n h_g a1 = some z) : Cv (l, D, cB, cI, cJ) yX0_takeEntry wsX0_takeEntry rmX0_takeEntry [.ref h, .int a1] [(h, .inr (0, [.ref d, .ref hk, .ref hs, .int h_c, .ref hu, .ref hn, .ref hg, .int h_e])), (d, .inr (4, [.ref db, .int d_l])), (db, .inl (cB, 12000, .inl (b8 d_f))), (hk, .inl (cI, 60, .inl h_k)), (hs, .inl (cI, 61, .inl h_s)), (hu, .inl (cI, 40, .inl h_u)), (hn, .inl (cJ, 40, .inr (.inl h_n))), (hg, .inl (cI, 40, .inl h_g))] [(h, .inr (0, [.ref d, .ref hk, .ref hs, .int h_c, .ref hu, .ref hn, .ref hg, .int z.1])), (d, .inr (4, [.ref db, .int d_l])), (db, .inl (cB, 12000, .inl (b8 d_f))), (hk, .inl (cI, 60, .inl h_k)), (hs, .inl (cI, 61, .inl h_s)), (hu, .inl (cI, 40, .inl z.2.1)), (hn, .inl (cJ, 40, .inr (.inl z.2.2.1))), (hg, .inl (cI, 40, .inl z.2.2.2))] := by
  refine Cv_of (cc := cX0_takeEntry) (nL := 3) (own := RX0) (ret := none) (by decide) rfl rfl (Nat.le_of_ble_eq_true rfl) (fun X O hnm0 => ?_)
  rw [p_X0_takeEntry] at hf
  show J X 3 (JQv X [(h, .inr (0, [.ref d, .ref hk, .ref hs, .int h_c, .ref hu, .ref hn, .ref hg, .int z.1])), (d, .inr (4, [.ref db, .int d_l])), (db, .inl (cB, 12000, .inl (b8 d_f))), (hk, .inl (cI, 60, .inl h_k)), (hs, .inl (cI, 61, .inl h_s)), (hu, .inl (cI, 40, .inl z.2.1)), (hn, .inl (cJ, 40, .inr (.inl z.2.2.1))), (hg, .inl (cI, 40, .inl z.2.2.2))] 0 0) [(h, .inr (0, [.ref d, .ref hk, .ref hs, .int h_c, .ref hu, .ref hn, .ref hg, .int h_e])), (d, .inr (4, [.ref db, .int d_l])), (db, .inl (cB, 12000, .inl (b8 d_f))), (hk, .inl (cI, 60, .inl h_k)), (hs, .inl (cI, 61, .inl h_s)), (hu, .inl (cI, 40, .inl h_u)), (hn, .inl (cJ, 40, .inr (.inl h_n))), (hg, .inl (cI, 40, .inl h_g))] 0 0 0 [(0, .ref h), (1, .int a1)] []
  refine J_aload_n O (i := 0) (k0 := 0) (pc := 0) 0 rfl rfl dX0_takeEntry_0 ?_
  refine J_iload_n O (i := 1) (k0 := 1) (pc := 1) 1 rfl rfl dX0_takeEntry_1 ?_
  obtain ⟨z2, h2, hf⟩ := jt_b hf
  refine J_callVi O (pc := 2) (c_X0_hasEntry l D cB cI cJ h d db hk hs hu hn hg h_c h_e d_l d_f h_k h_s h_u h_n h_g a1 h2) rfl 0 rfl rfl gX0_takeEntry_X0_hasEntry hdV_X0_hasEntry ⟨(Nat.le_of_ble_eq_true rfl), (Nat.le_of_ble_eq_true rfl)⟩ rfl (st := []) rfl (Nat.le_of_ble_eq_true rfl) [0, 1, 2, 3, 4, 5, 6, 7] [] rfl rfl rfl rfl rfl (by decide) [(h, .inr (0, [.ref d, .ref hk, .ref hs, .int h_c, .ref hu, .ref hn, .ref hg, .int h_e])), (d, .inr (4, [.ref db, .int d_l])), (db, .inl (cB, 12000, .inl (b8 d_f))), (hk, .inl (cI, 60, .inl h_k)), (hs, .inl (cI, 61, .inl h_s)), (hu, .inl (cI, 40, .inl h_u)), (hn, .inl (cJ, 40, .inr (.inl h_n))), (hg, .inl (cI, 40, .inl h_g))] [0, 1, 2, 3, 4, 5, 6, 7] rfl rfl rfl (0) (0) (Nat.le_of_ble_eq_true rfl) (Nat.le_of_ble_eq_true rfl) ⟨(Nat.le_of_ble_eq_true rfl), (Nat.le_of_ble_eq_true rfl)⟩ dX0_takeEntry_2 ?_
  refine J_zne O (tgt := 9) (pc := 5) dX0_takeEntry_5 (by decide) (fun c5 => ?_) (fun c5 => ?_)
  · have hf := jt_t c5 hf
    refine J_aload_n O (i := 0) (k0 := 0) (pc := 9) 0 rfl rfl dX0_takeEntry_9 ?_
    refine J_dup O (pc := 10) rfl dX0_takeEntry_10 ?_
    refine J_get O (pc := 11) in_X0_takeEntry_X0 0 rfl rfl 7 (by decide) mb_X0_takeEntry_1 rfl dX0_takeEntry_11 ?_
    refine J_iconst O (v := 1) (pc := 14) (by decide) dX0_takeEntry_14 ?_
    refine J_isub O (pc := 15) dX0_takeEntry_15 ?_
    refine J_put O (pc := 16) in_X0_takeEntry_X0 tyX0 tyX0_ok nmX0 0 rfl rfl 7 (by decide) mb_X0_takeEntry_1 rfl rfl rfl (Nat.le_of_ble_eq_true rfl) [(h, .inr (0, [.ref d, .ref hk, .ref hs, .int h_c, .ref hu, .ref hn, .ref hg, .int (h_e - 1)])), (d, .inr (4, [.ref db, .int d_l])), (db, .inl (cB, 12000, .inl (b8 d_f))), (hk, .inl (cI, 60, .inl h_k)), (hs, .inl (cI, 61, .inl h_s)), (hu, .inl (cI, 40, .inl h_u)), (hn, .inl (cJ, 40, .inr (.inl h_n))), (hg, .inl (cI, 40, .inl h_g))] rfl dX0_takeEntry_16 ?_
    refine J_iload_n O (i := 1) (k0 := 1) (pc := 19) 1 rfl rfl dX0_takeEntry_19 ?_
    refine J_istore_n O (i := 2) (k0 := 2) (pc := 20) rfl [(2, .int a1), (0, .ref h), (1, .int a1)] (by decide) rfl dX0_takeEntry_20 ?_
    refine J_sub [1, 0] (lv' := [(0, .ref h), (2, .int a1)]) rfl ?_
    exact wk_X0_takeEntry_21 O h d db hk hs hu hn hg h_c d_l d_f h_k h_s a1 fu fu a1 (h_e - 1) h_u h_n h_g hf
  · have hf := jt_f c5 hf
    cases hf
    exact J_vret O (pc := 8) dX0_takeEntry_8
