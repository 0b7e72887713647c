theorem in_X9_change_X9 : ∀ w ∈ u_ws RX9 TX9 5, w ∈ wsX9_change := fun _ h => List.mem_cons_of_mem _ (List.mem_append_left _ (List.mem_append_left _ (List.mem_append_left _ (List.mem_append_right _ h))))
theorem mb_X9_change_1 : Cond.fieldLink RX9 24 (TX9 2).1 (TX9 2).2.1 (TX9 2).2.2.1 ∈ wsX9_change := by decide +kernel
theorem mb_X9_change_2 : Cond.fieldLink RX9 14 (TX9 0).1 (TX9 0).2.1 (TX9 0).2.2.1 ∈ wsX9_change := by decide +kernel
theorem in_X9_change_X6 : ∀ w ∈ u_ws RX6 TX6 2, w ∈ wsX9_change := fun _ h => List.mem_cons_of_mem _ (List.mem_append_left _ (List.mem_append_left _ (List.mem_append_right _ h)))
theorem mb_X9_change_4 : Cond.fieldLink RX9 47 (TX6 1).1 (TX6 1).2.1 (TX6 1).2.2.1 ∈ wsX9_change := by decide +kernel
theorem in_X9_change_X0 : ∀ w ∈ u_ws RX0 TX0 8, w ∈ wsX9_change := fun _ h => List.mem_cons_of_mem _ (List.mem_append_left _ (List.mem_append_right _ h))
theorem mb_X9_change_6 : Cond.fieldLink RX9 74 (TX0 0).1 (TX0 0).2.1 (TX0 0).2.2.1 ∈ wsX9_change := by decide +kernel
abbrev rmX9_change : Room := { frames := 3, cells := 1, slots := 3, locals := 88 }
set_option maxHeartbeats 4000000 in
set_option maxRecDepth 100000 in
theorem c_X9_change (l : Launch) (D : va_G) (cB cI cJ : ClassId) (x t tb o ob h d db hk hs hu hn hg j jp : Nat) (x_p : Int32) (t_l : Int32) (t_f : Nat → Int8) (o_l : Int32) (o_f : Nat → Int8) (h_c : Int32) (h_e : Int32) (d_l : Int32) (d_f : Nat → Int8) (h_k : Nat → Int32) (h_s : Nat → Int32) (h_u : Nat → Int32) (h_n : Nat → Int64) (h_g : Nat → Int32) (j_c : Int32) (j_a : Int32) (j_p : Nat → Int32) (a1 : Int32) (fu : Nat) {z : Int32 × Int32 × Int32 × (Nat → Int8) × (Nat → Int32)} (hf : p_X9_change fu t_l t_f h_c d_l d_f h_s a1 = some z) : Ci (l, D, cB, cI, cJ) yX9_change wsX9_change rmX9_change [.ref x, .int a1] [(x, .inr (5, [.ref t, .ref o, .ref h, .ref j, .int x_p])), (t, .inr (4, [.ref tb, .int t_l])), (tb, .inl (cB, 6000, .inl (b8 t_f))), (o, .inr (4, [.ref ob, .int o_l])), (ob, .inl (cB, 13044, .inl (b8 o_f))), (h, .inr (0, [.ref d, .ref hk, .ref hs, .int h_c, .ref hu, .ref hn, .ref hg, .int h_e])), (d, .inr (4, [.ref db, .int d_l])), (db, .inl (cB, 12000, .inl (b8 d_f))), (hk, .inl (cI, 60, .inl h_k)), (hs, .inl (cI, 61, .inl h_s)), (hu, .inl (cI, 40, .inl h_u)), (hn, .inl (cJ, 40, .inr (.inl h_n))), (hg, .inl (cI, 40, .inl h_g)), (j, .inr (1, [.ref jp, .int j_c, .int j_a])), (jp, .inl (cI, 60, .inl j_p))] [(x, .inr (5, [.ref t, .ref o, .ref h, .ref j, .int x_p])), (t, .inr (4, [.ref tb, .int z.2.1])), (tb, .inl (cB, 6000, .inl (b8 t_f))), (o, .inr (4, [.ref ob, .int o_l])), (ob, .inl (cB, 13044, .inl (b8 o_f))), (h, .inr (0, [.ref d, .ref hk, .ref hs, .int h_c, .ref hu, .ref hn, .ref hg, .int h_e])), (d, .inr (4, [.ref db, .int z.2.2.1])), (db, .inl (cB, 12000, .inl (b8 z.2.2.2.1))), (hk, .inl (cI, 60, .inl h_k)), (hs, .inl (cI, 61, .inl z.2.2.2.2)), (hu, .inl (cI, 40, .inl h_u)), (hn, .inl (cJ, 40, .inr (.inl h_n))), (hg, .inl (cI, 40, .inl h_g)), (j, .inr (1, [.ref jp, .int j_c, .int j_a])), (jp, .inl (cI, 60, .inl j_p))] z.1 := by
  refine Ci_of (cc := cX9_change) (nL := 3) (own := RX9) (ret := (some .int)) (by decide) rfl rfl (Nat.le_of_ble_eq_true rfl) (fun X O hnm0 => ?_)
  rw [p_X9_change] at hf
  show J X 3 (JQi X [(x, .inr (5, [.ref t, .ref o, .ref h, .ref j, .int x_p])), (t, .inr (4, [.ref tb, .int z.2.1])), (tb, .inl (cB, 6000, .inl (b8 t_f))), (o, .inr (4, [.ref ob, .int o_l])), (ob, .inl (cB, 13044, .inl (b8 o_f))), (h, .inr (0, [.ref d, .ref hk, .ref hs, .int h_c, .ref hu, .ref hn, .ref hg, .int h_e])), (d, .inr (4, [.ref db, .int z.2.2.1])), (db, .inl (cB, 12000, .inl (b8 z.2.2.2.1))), (hk, .inl (cI, 60, .inl h_k)), (hs, .inl (cI, 61, .inl z.2.2.2.2)), (hu, .inl (cI, 40, .inl h_u)), (hn, .inl (cJ, 40, .inr (.inl h_n))), (hg, .inl (cI, 40, .inl h_g)), (j, .inr (1, [.ref jp, .int j_c, .int j_a])), (jp, .inl (cI, 60, .inl j_p))] z.1 1 3) [(x, .inr (5, [.ref t, .ref o, .ref h, .ref j, .int x_p])), (t, .inr (4, [.ref tb, .int t_l])), (tb, .inl (cB, 6000, .inl (b8 t_f))), (o, .inr (4, [.ref ob, .int o_l])), (ob, .inl (cB, 13044, .inl (b8 o_f))), (h, .inr (0, [.ref d, .ref hk, .ref hs, .int h_c, .ref hu, .ref hn, .ref hg, .int h_e])), (d, .inr (4, [.ref db, .int d_l])), (db, .inl (cB, 12000, .inl (b8 d_f))), (hk, .inl (cI, 60, .inl h_k)), (hs, .inl (cI, 61, .inl h_s)), (hu, .inl (cI, 40, .inl h_u)), (hn, .inl (cJ, 40, .inr (.inl h_n))), (hg, .inl (cI, 40, .inl h_g)), (j, .inr (1, [.ref jp, .int j_c, .int j_a])), (jp, .inl (cI, 60, .inl j_p))] 0 0 0 [(0, .ref x), (1, .int a1)] []
  refine J_aload_n O (i := 0) (k0 := 0) (pc := 0) 0 rfl rfl dX9_change_0 ?_
  refine J_get O (pc := 1) in_X9_change_X9 0 rfl rfl 2 (by decide) mb_X9_change_1 rfl dX9_change_1 ?_
  refine J_iload_n O (i := 1) (k0 := 1) (pc := 4) 1 rfl rfl dX9_change_4 ?_
  obtain ⟨z5, h5, hf⟩ := jt_b hf
  refine J_callVi O (pc := 5) (c_X0_hasChunk l D cB cI cJ h d db hk hs hu hn hg h_c h_e d_l d_f h_k h_s h_u h_n h_g a1 h5) rfl 0 rfl rfl gX9_change_X0_hasChunk hdV_X0_hasChunk ⟨(Nat.le_of_ble_eq_true rfl), (Nat.le_of_ble_eq_true rfl)⟩ rfl (st := []) rfl (Nat.le_of_ble_eq_true rfl) [5, 6, 7, 8, 9, 10, 11, 12] [0, 1, 2, 3, 4, 13, 14] rfl rfl rfl rfl rfl (by decide) [(x, .inr (5, [.ref t, .ref o, .ref h, .ref j, .int x_p])), (t, .inr (4, [.ref tb, .int t_l])), (tb, .inl (cB, 6000, .inl (b8 t_f))), (o, .inr (4, [.ref ob, .int o_l])), (ob, .inl (cB, 13044, .inl (b8 o_f))), (h, .inr (0, [.ref d, .ref hk, .ref hs, .int h_c, .ref hu, .ref hn, .ref hg, .int h_e])), (d, .inr (4, [.ref db, .int d_l])), (db, .inl (cB, 12000, .inl (b8 d_f))), (hk, .inl (cI, 60, .inl h_k)), (hs, .inl (cI, 61, .inl h_s)), (hu, .inl (cI, 40, .inl h_u)), (hn, .inl (cJ, 40, .inr (.inl h_n))), (hg, .inl (cI, 40, .inl h_g)), (j, .inr (1, [.ref jp, .int j_c, .int j_a])), (jp, .inl (cI, 60, .inl j_p))] [0, 1, 2, 3, 4, 7, 8, 9, 10, 11, 12, 13, 14, 5, 6] rfl rfl rfl (0) (0) (Nat.le_of_ble_eq_true rfl) (Nat.le_of_ble_eq_true rfl) ⟨(Nat.le_of_ble_eq_true rfl), (Nat.le_of_ble_eq_true rfl)⟩ dX9_change_5 ?_
  refine J_zne O (tgt := 13) (pc := 8) dX9_change_8 (by decide) (fun c8 => ?_) (fun c8 => ?_)
  · have hf := jt_t c8 hf
    refine J_aload_n O (i := 0) (k0 := 0) (pc := 13) 0 rfl rfl dX9_change_13 ?_
    refine J_get O (pc := 14) in_X9_change_X9 0 rfl rfl 2 (by decide) mb_X9_change_1 rfl dX9_change_14 ?_
    refine J_iload_n O (i := 1) (k0 := 1) (pc := 17) 1 rfl rfl dX9_change_17 ?_
    obtain ⟨z18, h18, hf⟩ := jt_b hf
    refine J_callVi O (pc := 18) (c_X0_lengthOf l D cB cI cJ h d db hk hs hu hn hg h_c h_e d_l d_f h_k h_s h_u h_n h_g a1 h18) rfl 0 rfl rfl gX9_change_X0_lengthOf hdV_X0_lengthOf ⟨(Nat.le_of_ble_eq_true rfl), (Nat.le_of_ble_eq_true rfl)⟩ rfl (st := []) rfl (Nat.le_of_ble_eq_true rfl) [5, 6, 7, 8, 9, 10, 11, 12] [0, 1, 2, 3, 4, 13, 14] rfl rfl rfl rfl rfl (by decide) [(x, .inr (5, [.ref t, .ref o, .ref h, .ref j, .int x_p])), (t, .inr (4, [.ref tb, .int t_l])), (tb, .inl (cB, 6000, .inl (b8 t_f))), (o, .inr (4, [.ref ob, .int o_l])), (ob, .inl (cB, 13044, .inl (b8 o_f))), (h, .inr (0, [.ref d, .ref hk, .ref hs, .int h_c, .ref hu, .ref hn, .ref hg, .int h_e])), (d, .inr (4, [.ref db, .int d_l])), (db, .inl (cB, 12000, .inl (b8 d_f))), (hk, .inl (cI, 60, .inl h_k)), (hs, .inl (cI, 61, .inl h_s)), (hu, .inl (cI, 40, .inl h_u)), (hn, .inl (cJ, 40, .inr (.inl h_n))), (hg, .inl (cI, 40, .inl h_g)), (j, .inr (1, [.ref jp, .int j_c, .int j_a])), (jp, .inl (cI, 60, .inl j_p))] [0, 1, 2, 3, 4, 7, 8, 9, 10, 11, 12, 13, 14, 5, 6] rfl rfl rfl (0) (0) (Nat.le_of_ble_eq_true rfl) (Nat.le_of_ble_eq_true rfl) ⟨(Nat.le_of_ble_eq_true rfl), (Nat.le_of_ble_eq_true rfl)⟩ dX9_change_18 ?_
    refine J_istore_n O (i := 2) (k0 := 2) (pc := 21) rfl [(2, .int z18), (0, .ref x), (1, .int a1)] (by decide) rfl dX9_change_21 ?_
    refine J_aload_n O (i := 0) (k0 := 0) (pc := 22) 1 rfl rfl dX9_change_22 ?_
    refine J_get O (pc := 23) in_X9_change_X9 0 rfl rfl 0 (by decide) mb_X9_change_2 rfl dX9_change_23 ?_
    refine J_get O (pc := 26) in_X9_change_X6 1 rfl rfl 1 (by decide) mb_X9_change_4 rfl dX9_change_26 ?_
    refine J_iload_n O (i := 2) (k0 := 2) (pc := 29) 0 rfl rfl dX9_change_29 ?_
    refine J_isub O (pc := 30) dX9_change_30 ?_
    refine J_aload_n O (i := 0) (k0 := 0) (pc := 31) 1 rfl rfl dX9_change_31 ?_
    refine J_get O (pc := 32) in_X9_change_X9 0 rfl rfl 2 (by decide) mb_X9_change_1 rfl dX9_change_32 ?_
    refine J_get O (pc := 35) in_X9_change_X0 5 rfl rfl 0 (by decide) mb_X9_change_6 rfl dX9_change_35 ?_
    obtain ⟨z38, h38, hf⟩ := jt_b hf
    refine J_callVi O (pc := 38) (c_X6_room l D cB cI cJ d db 12000 d_l d_f h38) rfl 0 rfl rfl gX9_change_X6_room hdV_X6_room ⟨(Nat.le_of_ble_eq_true rfl), (Nat.le_of_ble_eq_true rfl)⟩ rfl (st := [.int (t_l - z18)]) rfl (Nat.le_of_ble_eq_true rfl) [6, 7] [0, 1, 2, 3, 4, 5, 8, 9, 10, 11, 12, 13, 14] rfl rfl rfl rfl rfl (by decide) [(x, .inr (5, [.ref t, .ref o, .ref h, .ref j, .int x_p])), (t, .inr (4, [.ref tb, .int t_l])), (tb, .inl (cB, 6000, .inl (b8 t_f))), (o, .inr (4, [.ref ob, .int o_l])), (ob, .inl (cB, 13044, .inl (b8 o_f))), (h, .inr (0, [.ref d, .ref hk, .ref hs, .int h_c, .ref hu, .ref hn, .ref hg, .int h_e])), (d, .inr (4, [.ref db, .int d_l])), (db, .inl (cB, 12000, .inl (b8 d_f))), (hk, .inl (cI, 60, .inl h_k)), (hs, .inl (cI, 61, .inl h_s)), (hu, .inl (cI, 40, .inl h_u)), (hn, .inl (cJ, 40, .inr (.inl h_n))), (hg, .inl (cI, 40, .inl h_g)), (j, .inr (1, [.ref jp, .int j_c, .int j_a])), (jp, .inl (cI, 60, .inl j_p))] [0, 1, 2, 3, 4, 5, 13, 14, 6, 7, 8, 9, 10, 11, 12] rfl rfl rfl (0) (0) (Nat.le_of_ble_eq_true rfl) (Nat.le_of_ble_eq_true rfl) ⟨(Nat.le_of_ble_eq_true rfl), (Nat.le_of_ble_eq_true rfl)⟩ dX9_change_38 ?_
    refine J_icmp_le O (tgt := 47) (pc := 41) dX9_change_41 (by decide) (fun c41 => ?_) (fun c41 => ?_)
    · have hf := jt_t c41 hf
      refine J_aload_n O (i := 0) (k0 := 0) (pc := 47) 1 rfl rfl dX9_change_47 ?_
      refine J_get O (pc := 48) in_X9_change_X9 0 rfl rfl 2 (by decide) mb_X9_change_1 rfl dX9_change_48 ?_
      refine J_iload_n O (i := 1) (k0 := 1) (pc := 51) 2 rfl rfl dX9_change_51 ?_
      refine J_aload_n O (i := 0) (k0 := 0) (pc := 52) 1 rfl rfl dX9_change_52 ?_
      refine J_get O (pc := 53) in_X9_change_X9 0 rfl rfl 0 (by decide) mb_X9_change_2 rfl dX9_change_53 ?_
      obtain ⟨z56, h56, hf⟩ := jt_b hf
      refine J_callVr O (pc := 56) (c_X6_whole l D cB cI cJ t tb 6000 t_l t_f h56) rfl 0 rfl rfl gX9_change_X6_whole hdV_X6_whole ⟨(Nat.le_of_ble_eq_true rfl), (Nat.le_of_ble_eq_true rfl)⟩ rfl (st := [.int a1, .ref h]) rfl (Nat.le_of_ble_eq_true rfl) [1, 2] [0, 3, 4, 5, 6, 7, 8, 9, 10, 11, 12, 13, 14] rfl rfl rfl rfl rfl (by decide) (fun q56 => [(x, .inr (5, [.ref t, .ref o, .ref h, .ref j, .int x_p])), (t, .inr (4, [.ref tb, .int t_l])), (tb, .inl (cB, 6000, .inl (b8 t_f))), (o, .inr (4, [.ref ob, .int o_l])), (ob, .inl (cB, 13044, .inl (b8 o_f))), (h, .inr (0, [.ref d, .ref hk, .ref hs, .int h_c, .ref hu, .ref hn, .ref hg, .int h_e])), (d, .inr (4, [.ref db, .int d_l])), (db, .inl (cB, 12000, .inl (b8 d_f))), (hk, .inl (cI, 60, .inl h_k)), (hs, .inl (cI, 61, .inl h_s)), (hu, .inl (cI, 40, .inl h_u)), (hn, .inl (cJ, 40, .inr (.inl h_n))), (hg, .inl (cI, 40, .inl h_g)), (j, .inr (1, [.ref jp, .int j_c, .int j_a])), (jp, .inl (cI, 60, .inl j_p)), (q56, .inr (2, [.ref t, .int z56.1, .int z56.2]))]) [0, 13, 14, 1, 2, 3, 4, 5, 6, 7, 8, 9, 10, 11, 12, 15] rfl (fun _ => rfl) (fun _ => rfl) (1) (3) (Nat.le_of_ble_eq_true rfl) (Nat.le_of_ble_eq_true rfl) ⟨(Nat.le_of_ble_eq_true rfl), (Nat.le_of_ble_eq_true rfl)⟩ dX9_change_56 (fun q56 => ?_)
      obtain ⟨z59, h59, hf⟩ := jt_b hf
      refine J_callVv O (pc := 59) (c_X0_setDataA l D cB cI cJ h d db hk hs hu hn hg q56 t tb 6000 h_c h_e d_l d_f h_k h_s h_u h_n h_g z56.1 z56.2 t_l t_f a1 fu h59) rfl 0 rfl rfl gX9_change_X0_setData hdV_X0_setData ⟨(Nat.le_of_ble_eq_true rfl), (Nat.le_of_ble_eq_true rfl)⟩ rfl (st := []) rfl (Nat.le_of_ble_eq_true rfl) [5, 6, 7, 8, 9, 10, 11, 12, 15, 1, 2] [0, 3, 4, 13, 14] rfl rfl rfl rfl rfl (by decide) [(x, .inr (5, [.ref t, .ref o, .ref h, .ref j, .int x_p])), (t, .inr (4, [.ref tb, .int t_l])), (tb, .inl (cB, 6000, .inl (b8 t_f))), (o, .inr (4, [.ref ob, .int o_l])), (ob, .inl (cB, 13044, .inl (b8 o_f))), (h, .inr (0, [.ref d, .ref hk, .ref hs, .int h_c, .ref hu, .ref hn, .ref hg, .int h_e])), (d, .inr (4, [.ref db, .int z59.1])), (db, .inl (cB, 12000, .inl (b8 z59.2.1))), (hk, .inl (cI, 60, .inl h_k)), (hs, .inl (cI, 61, .inl z59.2.2)), (hu, .inl (cI, 40, .inl h_u)), (hn, .inl (cJ, 40, .inr (.inl h_n))), (hg, .inl (cI, 40, .inl h_g)), (j, .inr (1, [.ref jp, .int j_c, .int j_a])), (jp, .inl (cI, 60, .inl j_p)), (q56, .inr (2, [.ref t, .int z56.1, .int z56.2]))] [0, 14, 15, 1, 2, 5, 6, 7, 8, 9, 10, 11, 12, 3, 4, 13] rfl rfl rfl (1) (3) (Nat.le_of_ble_eq_true rfl) (Nat.le_of_ble_eq_true rfl) ⟨(Nat.le_of_ble_eq_true rfl), (Nat.le_of_ble_eq_true rfl)⟩ dX9_change_59 ?_
      refine J_aload_n O (i := 0) (k0 := 0) (pc := 62) 1 rfl rfl dX9_change_62 ?_
      refine J_get O (pc := 63) in_X9_change_X9 0 rfl rfl 0 (by decide) mb_X9_change_2 rfl dX9_change_63 ?_
      refine J_iconst O (v := 0) (pc := 66) (by decide) dX9_change_66 ?_
      obtain ⟨z67, h67, hf⟩ := jt_b hf
      refine J_callVv O (pc := 67) (c_X6_keep l D cB cI cJ t tb 6000 t_l t_f 0 h67) rfl 0 rfl rfl gX9_change_X6_keep hdV_X6_keep ⟨(Nat.le_of_ble_eq_true rfl), (Nat.le_of_ble_eq_true rfl)⟩ rfl (st := []) rfl (Nat.le_of_ble_eq_true rfl) [1, 2] [0, 3, 4, 5, 6, 7, 8, 9, 10, 11, 12, 13, 14, 15] rfl rfl rfl rfl rfl (by decide) [(x, .inr (5, [.ref t, .ref o, .ref h, .ref j, .int x_p])), (t, .inr (4, [.ref tb, .int z67])), (tb, .inl (cB, 6000, .inl (b8 t_f))), (o, .inr (4, [.ref ob, .int o_l])), (ob, .inl (cB, 13044, .inl (b8 o_f))), (h, .inr (0, [.ref d, .ref hk, .ref hs, .int h_c, .ref hu, .ref hn, .ref hg, .int h_e])), (d, .inr (4, [.ref db, .int z59.1])), (db, .inl (cB, 12000, .inl (b8 z59.2.1))), (hk, .inl (cI, 60, .inl h_k)), (hs, .inl (cI, 61, .inl z59.2.2)), (hu, .inl (cI, 40, .inl h_u)), (hn, .inl (cJ, 40, .inr (.inl h_n))), (hg, .inl (cI, 40, .inl h_g)), (j, .inr (1, [.ref jp, .int j_c, .int j_a])), (jp, .inl (cI, 60, .inl j_p)), (q56, .inr (2, [.ref t, .int z56.1, .int z56.2]))] [0, 14, 15, 1, 2, 3, 4, 5, 6, 7, 8, 9, 10, 11, 12, 13] rfl rfl rfl (1) (3) (Nat.le_of_ble_eq_true rfl) (Nat.le_of_ble_eq_true rfl) ⟨(Nat.le_of_ble_eq_true rfl), (Nat.le_of_ble_eq_true rfl)⟩ dX9_change_67 ?_
      refine J_iload_n O (i := 2) (k0 := 2) (pc := 70) 0 rfl rfl dX9_change_70 ?_
      have e9 := Option.some.inj hf
      subst e9
      refine J_wsub [0, 1, 2, 3, 4, 5, 6, 7, 8, 9, 10, 11, 12, 13, 14] [(x, .inr (5, [.ref t, .ref o, .ref h, .ref j, .int x_p])), (t, .inr (4, [.ref tb, .int z67])), (tb, .inl (cB, 6000, .inl (b8 t_f))), (o, .inr (4, [.ref ob, .int o_l])), (ob, .inl (cB, 13044, .inl (b8 o_f))), (h, .inr (0, [.ref d, .ref hk, .ref hs, .int h_c, .ref hu, .ref hn, .ref hg, .int h_e])), (d, .inr (4, [.ref db, .int z59.1])), (db, .inl (cB, 12000, .inl (b8 z59.2.1))), (hk, .inl (cI, 60, .inl h_k)), (hs, .inl (cI, 61, .inl z59.2.2)), (hu, .inl (cI, 40, .inl h_u)), (hn, .inl (cJ, 40, .inr (.inl h_n))), (hg, .inl (cI, 40, .inl h_g)), (j, .inr (1, [.ref jp, .int j_c, .int j_a])), (jp, .inl (cI, 60, .inl j_p))] rfl rfl rfl ?_
      exact J_iret O (pc := 71) rfl dX9_change_71
    · have hf := jt_f c41 hf
      refine J_bipush O (v := (-4)) (pc := 44) (by decide) dX9_change_44 ?_
      have e9 := Option.some.inj hf
      subst e9
      refine J_widen 1 3 (Nat.le_of_ble_eq_true rfl) (Nat.le_of_ble_eq_true rfl) ?_
      exact J_iret O (pc := 46) rfl dX9_change_46
  · have hf := jt_f c8 hf
    refine J_iconst O (v := (-1)) (pc := 11) (by decide) dX9_change_11 ?_
    have e9 := Option.some.inj hf
    subst e9
    refine J_widen 1 3 (Nat.le_of_ble_eq_true rfl) (Nat.le_of_ble_eq_true rfl) ?_
    exact J_iret O (pc := 12) rfl dX9_change_12
theorem in_X9_drop_X9 : ∀ w ∈ u_ws RX9 TX9 5, w ∈ wsX9_drop := fun _ h => List.mem_cons_of_mem _ (List.mem_append_left _ (List.mem_append_left _ (List.mem_append_left _ (List.mem_append_right _ h))))
theorem mb_X9_drop_1 : Cond.fieldLink RX9 24 (TX9 2).1 (TX9 2).2.1 (TX9 2).2.2.1 ∈ wsX9_drop := by decide +kernel
theorem in_X9_drop_X0 : ∀ w ∈ u_ws RX0 TX0 8, w ∈ wsX9_drop := fun _ h => List.mem_cons_of_mem _ (List.mem_append_left _ (List.mem_append_left _ (List.mem_append_right _ h)))
theorem mb_X9_drop_3 : Cond.fieldLink RX9 120 (TX0 6).1 (TX0 6).2.1 (TX0 6).2.2.1 ∈ wsX9_drop := by decide +kernel
theorem hdV_X0_takeEntry : yX0_takeEntry.cls = RX0 ∧ yX0_takeEntry.cls ≠ "java/lang/invoke/MethodHandle" ∧ yX0_takeEntry.cls ≠ "java/lang/invoke/VarHandle" ∧ (parseMethodDescriptor yX0_takeEntry.desc).map (fun d => d.parameters.length) = some 1 := by decide +kernel
theorem hdV_X0_takeChunk : yX0_takeChunk.cls = RX0 ∧ yX0_takeChunk.cls ≠ "java/lang/invoke/MethodHandle" ∧ yX0_takeChunk.cls ≠ "java/lang/invoke/VarHandle" ∧ (parseMethodDescriptor yX0_takeChunk.desc).map (fun d => d.parameters.length) = some 1 := by decide +kernel
abbrev rmX9_drop : Room := { frames := 4, cells := 1, slots := 3, locals := 110 }
set_option maxHeartbeats 4000000 in
set_option maxRecDepth 100000 in
theorem c_X9_drop (l : Launch) (D : va_G) (cB cI cJ : ClassId) (x t tb o ob h d db hk hs hu hn hg j jp : Nat) (x_p : Int32) (t_l : Int32) (t_f : Nat → Int8) (o_l : Int32) (o_f : Nat → Int8) (h_c : Int32) (h_e : Int32) (d_l : Int32) (d_f : Nat → Int8) (h_k : Nat → Int32) (h_s : Nat → Int32) (h_u : Nat → Int32) (h_n : Nat → Int64) (h_g : Nat → Int32) (j_c : Int32) (j_a : Int32) (j_p : Nat → Int32) (a1 : Int32) (a2 : Int64) (fu : Nat) {z : Int32 × Int32 × Int32 × Int32 × (Nat → Int8) × (Nat → Int32) × (Nat → Int32) × (Nat → Int32) × (Nat → Int64) × (Nat → Int32)} (hf : p_X9_drop fu h_c h_e d_l d_f h_k h_s h_u h_n h_g a1 a2 = some z) : Ci (l, D, cB, cI, cJ) yX9_drop wsX9_drop rmX9_drop [.ref x, .int a1, .long a2] [(x, .inr (5, [.ref t, .ref o, .ref h, .ref j, .int x_p])), (t, .inr (4, [.ref tb, .int t_l])), (tb, .inl (cB, 6000, .inl (b8 t_f))), (o, .inr (4, [.ref ob, .int o_l])), (ob, .inl (cB, 13044, .inl (b8 o_f))), (h, .inr (0, [.ref d, .ref hk, .ref hs, .int h_c, .ref hu, .ref hn, .ref hg, .int h_e])), (d, .inr (4, [.ref db, .int d_l])), (db, .inl (cB, 12000, .inl (b8 d_f))), (hk, .inl (cI, 60, .inl h_k)), (hs, .inl (cI, 61, .inl h_s)), (hu, .inl (cI, 40, .inl h_u)), (hn, .inl (cJ, 40, .inr (.inl h_n))), (hg, .inl (cI, 40, .inl h_g)), (j, .inr (1, [.ref jp, .int j_c, .int j_a])), (jp, .inl (cI, 60, .inl j_p))] [(x, .inr (5, [.ref t, .ref o, .ref h, .ref j, .int x_p])), (t, .inr (4, [.ref tb, .int t_l])), (tb, .inl (cB, 6000, .inl (b8 t_f))), (o, .inr (4, [.ref ob, .int o_l])), (ob, .inl (cB, 13044, .inl (b8 o_f))), (h, .inr (0, [.ref d, .ref hk, .ref hs, .int z.2.1, .ref hu, .ref hn, .ref hg, .int z.2.2.1])), (d, .inr (4, [.ref db, .int z.2.2.2.1])), (db, .inl (cB, 12000, .inl (b8 z.2.2.2.2.1))), (hk, .inl (cI, 60, .inl z.2.2.2.2.2.1)), (hs, .inl (cI, 61, .inl z.2.2.2.2.2.2.1)), (hu, .inl (cI, 40, .inl z.2.2.2.2.2.2.2.1)), (hn, .inl (cJ, 40, .inr (.inl z.2.2.2.2.2.2.2.2.1))), (hg, .inl (cI, 40, .inl z.2.2.2.2.2.2.2.2.2)), (j, .inr (1, [.ref jp, .int j_c, .int j_a])), (jp, .inl (cI, 60, .inl j_p))] z.1 := by
  refine Ci_of (cc := cX9_drop) (nL := 6) (own := RX9) (ret := (some .int)) (by decide) rfl rfl (Nat.le_of_ble_eq_true rfl) (fun X O hnm0 => ?_)
  rw [p_X9_drop] at hf
  show J X 6 (JQi X [(x, .inr (5, [.ref t, .ref o, .ref h, .ref j, .int x_p])), (t, .inr (4, [.ref tb, .int t_l])), (tb, .inl (cB, 6000, .inl (b8 t_f))), (o, .inr (4, [.ref ob, .int o_l])), (ob, .inl (cB, 13044, .inl (b8 o_f))), (h, .inr (0, [.ref d, .ref hk, .ref hs, .int z.2.1, .ref hu, .ref hn, .ref hg, .int z.2.2.1])), (d, .inr (4, [.ref db, .int z.2.2.2.1])), (db, .inl (cB, 12000, .inl (b8 z.2.2.2.2.1))), (hk, .inl (cI, 60, .inl z.2.2.2.2.2.1)), (hs, .inl (cI, 61, .inl z.2.2.2.2.2.2.1)), (hu, .inl (cI, 40, .inl z.2.2.2.2.2.2.2.1)), (hn, .inl (cJ, 40, .inr (.inl z.2.2.2.2.2.2.2.2.1))), (hg, .inl (cI, 40, .inl z.2.2.2.2.2.2.2.2.2)), (j, .inr (1, [.ref jp, .int j_c, .int j_a])), (jp, .inl (cI, 60, .inl j_p))] z.1 1 3) [(x, .inr (5, [.ref t, .ref o, .ref h, .ref j, .int x_p])), (t, .inr (4, [.ref tb, .int t_l])), (tb, .inl (cB, 6000, .inl (b8 t_f))), (o, .inr (4, [.ref ob, .int o_l])), (ob, .inl (cB, 13044, .inl (b8 o_f))), (h, .inr (0, [.ref d, .ref hk, .ref hs, .int h_c, .ref hu, .ref hn, .ref hg, .int h_e])), (d, .inr (4, [.ref db, .int d_l])), (db, .inl (cB, 12000, .inl (b8 d_f))), (hk, .inl (cI, 60, .inl h_k)), (hs, .inl (cI, 61, .inl h_s)), (hu, .inl (cI, 40, .inl h_u)), (hn, .inl (cJ, 40, .inr (.inl h_n))), (hg, .inl (cI, 40, .inl h_g)), (j, .inr (1, [.ref jp, .int j_c, .int j_a])), (jp, .inl (cI, 60, .inl j_p))] 0 0 0 [(0, .ref x), (1, .int a1), (2, .long a2)] []
  refine J_iload_n O (i := 1) (k0 := 1) (pc := 0) 1 rfl rfl dX9_drop_0 ?_
  refine J_lload_n O (i := 2) (k0 := 2) (pc := 1) 2 rfl rfl dX9_drop_1 ?_
  obtain ⟨z2, h2, hf⟩ := jt_b hf
  refine J_callSi O (pc := 2) (c_X9_isName l D cB cI cJ a1 a2 h2) rfl gX9_drop_X9_isName hdS_X9_isName ⟨(Nat.le_of_ble_eq_true rfl), (Nat.le_of_ble_eq_true rfl)⟩ rfl (st := []) rfl (Nat.le_of_ble_eq_true rfl) [] [0, 1, 2, 3, 4, 5, 6, 7, 8, 9, 10, 11, 12, 13, 14] rfl rfl rfl rfl rfl (by decide) [(x, .inr (5, [.ref t, .ref o, .ref h, .ref j, .int x_p])), (t, .inr (4, [.ref tb, .int t_l])), (tb, .inl (cB, 6000, .inl (b8 t_f))), (o, .inr (4, [.ref ob, .int o_l])), (ob, .inl (cB, 13044, .inl (b8 o_f))), (h, .inr (0, [.ref d, .ref hk, .ref hs, .int h_c, .ref hu, .ref hn, .ref hg, .int h_e])), (d, .inr (4, [.ref db, .int d_l])), (db, .inl (cB, 12000, .inl (b8 d_f))), (hk, .inl (cI, 60, .inl h_k)), (hs, .inl (cI, 61, .inl h_s)), (hu, .inl (cI, 40, .inl h_u)), (hn, .inl (cJ, 40, .inr (.inl h_n))), (hg, .inl (cI, 40, .inl h_g)), (j, .inr (1, [.ref jp, .int j_c, .int j_a])), (jp, .inl (cI, 60, .inl j_p))] [0, 1, 2, 3, 4, 5, 6, 7, 8, 9, 10, 11, 12, 13, 14] rfl rfl rfl (0) (0) (Nat.le_of_ble_eq_true rfl) (Nat.le_of_ble_eq_true rfl) ⟨(Nat.le_of_ble_eq_true rfl), (Nat.le_of_ble_eq_true rfl)⟩ dX9_drop_2 ?_
  refine J_zne O (tgt := 10) (pc := 5) dX9_drop_5 (by decide) (fun c5 => ?_) (fun c5 => ?_)
  · have hf := jt_t c5 hf
    refine J_aload_n O (i := 0) (k0 := 0) (pc := 10) 0 rfl rfl dX9_drop_10 ?_
    refine J_get O (pc := 11) in_X9_drop_X9 0 rfl rfl 2 (by decide) mb_X9_drop_1 rfl dX9_drop_11 ?_
    refine J_iload_n O (i := 1) (k0 := 1) (pc := 14) 1 rfl rfl dX9_drop_14 ?_
    refine J_lload_n O (i := 2) (k0 := 2) (pc := 15) 2 rfl rfl dX9_drop_15 ?_
    obtain ⟨z16, h16, hf⟩ := jt_b hf
    refine J_callVi O (pc := 16) (c_X0_entryOf l D cB cI cJ h d db hk hs hu hn hg h_c h_e d_l d_f h_k h_s h_u h_n h_g a1 a2 fu h16) rfl 0 rfl rfl gX9_drop_X0_entryOf hdV_X0_entryOf ⟨(Nat.le_of_ble_eq_true rfl), (Nat.le_of_ble_eq_true rfl)⟩ rfl (st := []) rfl (Nat.le_of_ble_eq_true rfl) [5, 6, 7, 8, 9, 10, 11, 12] [0, 1, 2, 3, 4, 13, 14] rfl rfl rfl rfl rfl (by decide) [(x, .inr (5, [.ref t, .ref o, .ref h, .ref j, .int x_p])), (t, .inr (4, [.ref tb, .int t_l])), (tb, .inl (cB, 6000, .inl (b8 t_f))), (o, .inr (4, [.ref ob, .int o_l])), (ob, .inl (cB, 13044, .inl (b8 o_f))), (h, .inr (0, [.ref d, .ref hk, .ref hs, .int h_c, .ref hu, .ref hn, .ref hg, .int h_e])), (d, .inr (4, [.ref db, .int d_l])), (db, .inl (cB, 12000, .inl (b8 d_f))), (hk, .inl (cI, 60, .inl h_k)), (hs, .inl (cI, 61, .inl h_s)), (hu, .inl (cI, 40, .inl h_u)), (hn, .inl (cJ, 40, .inr (.inl h_n))), (hg, .inl (cI, 40, .inl h_g)), (j, .inr (1, [.ref jp, .int j_c, .int j_a])), (jp, .inl (cI, 60, .inl j_p))] [0, 1, 2, 3, 4, 7, 8, 9, 10, 11, 12, 13, 14, 5, 6] rfl rfl rfl (0) (0) (Nat.le_of_ble_eq_true rfl) (Nat.le_of_ble_eq_true rfl) ⟨(Nat.le_of_ble_eq_true rfl), (Nat.le_of_ble_eq_true rfl)⟩ dX9_drop_16 ?_
    refine J_istore O (i := 4) (pc := 19) [(4, .int z16), (0, .ref x), (1, .int a1), (2, .long a2)] (by decide) rfl dX9_drop_19 ?_
    refine J_aload_n O (i := 0) (k0 := 0) (pc := 21) 1 rfl rfl dX9_drop_21 ?_
    refine J_get O (pc := 22) in_X9_drop_X9 0 rfl rfl 2 (by decide) mb_X9_drop_1 rfl dX9_drop_22 ?_
    refine J_iload O (i := 4) (pc := 25) 0 rfl dX9_drop_25 ?_
    obtain ⟨z27, h27, hf⟩ := jt_b hf
    refine J_callVi O (pc := 27) (c_X0_hasEntry l D cB cI cJ h d db hk hs hu hn hg h_c h_e d_l d_f h_k h_s h_u h_n h_g z16 h27) rfl 0 rfl rfl gX9_drop_X0_hasEntry hdV_X0_hasEntry ⟨(Nat.le_of_ble_eq_true rfl), (Nat.le_of_ble_eq_true rfl)⟩ rfl (st := []) rfl (Nat.le_of_ble_eq_true rfl) [5, 6, 7, 8, 9, 10, 11, 12] [0, 1, 2, 3, 4, 13, 14] rfl rfl rfl rfl rfl (by decide) [(x, .inr (5, [.ref t, .ref o, .ref h, .ref j, .int x_p])), (t, .inr (4, [.ref tb, .int t_l])), (tb, .inl (cB, 6000, .inl (b8 t_f))), (o, .inr (4, [.ref ob, .int o_l])), (ob, .inl (cB, 13044, .inl (b8 o_f))), (h, .inr (0, [.ref d, .ref hk, .ref hs, .int h_c, .ref hu, .ref hn, .ref hg, .int h_e])), (d, .inr (4, [.ref db, .int d_l])), (db, .inl (cB, 12000, .inl (b8 d_f))), (hk, .inl (cI, 60, .inl h_k)), (hs, .inl (cI, 61, .inl h_s)), (hu, .inl (cI, 40, .inl h_u)), (hn, .inl (cJ, 40, .inr (.inl h_n))), (hg, .inl (cI, 40, .inl h_g)), (j, .inr (1, [.ref jp, .int j_c, .int j_a])), (jp, .inl (cI, 60, .inl j_p))] [0, 1, 2, 3, 4, 7, 8, 9, 10, 11, 12, 13, 14, 5, 6] rfl rfl rfl (0) (0) (Nat.le_of_ble_eq_true rfl) (Nat.le_of_ble_eq_true rfl) ⟨(Nat.le_of_ble_eq_true rfl), (Nat.le_of_ble_eq_true rfl)⟩ dX9_drop_27 ?_
    refine J_zne O (tgt := 36) (pc := 30) dX9_drop_30 (by decide) (fun c30 => ?_) (fun c30 => ?_)
    · have hf := jt_t c30 hf
      refine J_aload_n O (i := 0) (k0 := 0) (pc := 36) 1 rfl rfl dX9_drop_36 ?_
      refine J_get O (pc := 37) in_X9_drop_X9 0 rfl rfl 2 (by decide) mb_X9_drop_1 rfl dX9_drop_37 ?_
      refine J_get O (pc := 40) in_X9_drop_X0 5 rfl rfl 6 (by decide) mb_X9_drop_3 rfl dX9_drop_40 ?_
      refine J_iload O (i := 4) (pc := 43) 0 rfl dX9_drop_43 ?_
      obtain ⟨h45, hf⟩ := jt_g hf
      refine J_iald O (pc := 45) 12 1 rfl rfl h45 dX9_drop_45 ?_
      refine J_istore O (i := 5) (pc := 46) [(5, .int (h_g (Int32.toNatClampNeg z16))), (4, .int z16), (0, .ref x), (1, .int a1), (2, .long a2)] (by decide) rfl dX9_drop_46 ?_
      refine J_aload_n O (i := 0) (k0 := 0) (pc := 48) 2 rfl rfl dX9_drop_48 ?_
      refine J_get O (pc := 49) in_X9_drop_X9 0 rfl rfl 2 (by decide) mb_X9_drop_1 rfl dX9_drop_49 ?_
      refine J_iload O (i := 4) (pc := 52) 1 rfl dX9_drop_52 ?_
      obtain ⟨z54, h54, hf⟩ := jt_b hf
      refine J_callVv O (pc := 54) (c_X0_takeEntry l D cB cI cJ h d db hk hs hu hn hg h_c h_e d_l d_f h_k h_s h_u h_n h_g z16 fu h54) rfl 0 rfl rfl gX9_drop_X0_takeEntry hdV_X0_takeEntry ⟨(Nat.le_of_ble_eq_true rfl), (Nat.le_of_ble_eq_true rfl)⟩ rfl (st := []) rfl (Nat.le_of_ble_eq_true rfl) [5, 6, 7, 8, 9, 10, 11, 12] [0, 1, 2, 3, 4, 13, 14] rfl rfl rfl rfl rfl (by decide) [(x, .inr (5, [.ref t, .ref o, .ref h, .ref j, .int x_p])), (t, .inr (4, [.ref tb, .int t_l])), (tb, .inl (cB, 6000, .inl (b8 t_f))), (o, .inr (4, [.ref ob, .int o_l])), (ob, .inl (cB, 13044, .inl (b8 o_f))), (h, .inr (0, [.ref d, .ref hk, .ref hs, .int h_c, .ref hu, .ref hn, .ref hg, .int z54.1])), (d, .inr (4, [.ref db, .int d_l])), (db, .inl (cB, 12000, .inl (b8 d_f))), (hk, .inl (cI, 60, .inl h_k)), (hs, .inl (cI, 61, .inl h_s)), (hu, .inl (cI, 40, .inl z54.2.1)), (hn, .inl (cJ, 40, .inr (.inl z54.2.2.1))), (hg, .inl (cI, 40, .inl z54.2.2.2)), (j, .inr (1, [.ref jp, .int j_c, .int j_a])), (jp, .inl (cI, 60, .inl j_p))] [0, 1, 2, 3, 4, 7, 8, 9, 10, 11, 12, 13, 14, 5, 6] rfl rfl rfl (0) (0) (Nat.le_of_ble_eq_true rfl) (Nat.le_of_ble_eq_true rfl) ⟨(Nat.le_of_ble_eq_true rfl), (Nat.le_of_ble_eq_true rfl)⟩ dX9_drop_54 ?_
      refine J_aload_n O (i := 0) (k0 := 0) (pc := 57) 2 rfl rfl dX9_drop_57 ?_
      refine J_get O (pc := 58) in_X9_drop_X9 0 rfl rfl 2 (by decide) mb_X9_drop_1 rfl dX9_drop_58 ?_
      refine J_iload O (i := 5) (pc := 61) 0 rfl dX9_drop_61 ?_
      obtain ⟨z63, h63, hf⟩ := jt_b hf
      refine J_callVi O (pc := 63) (c_X0_meaningsOf l D cB cI cJ h d db hk hs hu hn hg h_c z54.1 d_l d_f h_k h_s z54.2.1 z54.2.2.1 z54.2.2.2 (h_g (Int32.toNatClampNeg z16)) fu h63) rfl 0 rfl rfl gX9_drop_X0_meaningsOf hdV_X0_meaningsOf ⟨(Nat.le_of_ble_eq_true rfl), (Nat.le_of_ble_eq_true rfl)⟩ rfl (st := []) rfl (Nat.le_of_ble_eq_true rfl) [5, 6, 7, 8, 9, 10, 11, 12] [0, 1, 2, 3, 4, 13, 14] rfl rfl rfl rfl rfl (by decide) [(x, .inr (5, [.ref t, .ref o, .ref h, .ref j, .int x_p])), (t, .inr (4, [.ref tb, .int t_l])), (tb, .inl (cB, 6000, .inl (b8 t_f))), (o, .inr (4, [.ref ob, .int o_l])), (ob, .inl (cB, 13044, .inl (b8 o_f))), (h, .inr (0, [.ref d, .ref hk, .ref hs, .int h_c, .ref hu, .ref hn, .ref hg, .int z54.1])), (d, .inr (4, [.ref db, .int d_l])), (db, .inl (cB, 12000, .inl (b8 d_f))), (hk, .inl (cI, 60, .inl h_k)), (hs, .inl (cI, 61, .inl h_s)), (hu, .inl (cI, 40, .inl z54.2.1)), (hn, .inl (cJ, 40, .inr (.inl z54.2.2.1))), (hg, .inl (cI, 40, .inl z54.2.2.2)), (j, .inr (1, [.ref jp, .int j_c, .int j_a])), (jp, .inl (cI, 60, .inl j_p))] [0, 1, 2, 3, 4, 7, 8, 9, 10, 11, 12, 13, 14, 5, 6] rfl rfl rfl (0) (0) (Nat.le_of_ble_eq_true rfl) (Nat.le_of_ble_eq_true rfl) ⟨(Nat.le_of_ble_eq_true rfl), (Nat.le_of_ble_eq_true rfl)⟩ dX9_drop_63 ?_
      refine J_if_le O (tgt := 71) (pc := 66) dX9_drop_66 (by decide) (fun c66 => ?_) (fun c66 => ?_)
      · have hf := jt_t c66 hf
        refine J_aload_n O (i := 0) (k0 := 0) (pc := 71) 2 rfl rfl dX9_drop_71 ?_
        refine J_get O (pc := 72) in_X9_drop_X9 0 rfl rfl 2 (by decide) mb_X9_drop_1 rfl dX9_drop_72 ?_
        refine J_iload O (i := 5) (pc := 75) 0 rfl dX9_drop_75 ?_
        obtain ⟨z77, h77, hf⟩ := jt_b hf
        refine J_callVv O (pc := 77) (c_X0_takeChunk l D cB cI cJ h d db hk hs hu hn hg h_c z54.1 d_l d_f h_k h_s z54.2.1 z54.2.2.1 z54.2.2.2 (h_g (Int32.toNatClampNeg z16)) fu h77) rfl 0 rfl rfl gX9_drop_X0_takeChunk hdV_X0_takeChunk ⟨(Nat.le_of_ble_eq_true rfl), (Nat.le_of_ble_eq_true rfl)⟩ rfl (st := []) rfl (Nat.le_of_ble_eq_true rfl) [5, 6, 7, 8, 9, 10, 11, 12] [0, 1, 2, 3, 4, 13, 14] rfl rfl rfl rfl rfl (by decide) [(x, .inr (5, [.ref t, .ref o, .ref h, .ref j, .int x_p])), (t, .inr (4, [.ref tb, .int t_l])), (tb, .inl (cB, 6000, .inl (b8 t_f))), (o, .inr (4, [.ref ob, .int o_l])), (ob, .inl (cB, 13044, .inl (b8 o_f))), (h, .inr (0, [.ref d, .ref hk, .ref hs, .int z77.1, .ref hu, .ref hn, .ref hg, .int z54.1])), (d, .inr (4, [.ref db, .int z77.2.1])), (db, .inl (cB, 12000, .inl (b8 z77.2.2.1))), (hk, .inl (cI, 60, .inl z77.2.2.2.1)), (hs, .inl (cI, 61, .inl z77.2.2.2.2.1)), (hu, .inl (cI, 40, .inl z54.2.1)), (hn, .inl (cJ, 40, .inr (.inl z54.2.2.1))), (hg, .inl (cI, 40, .inl z77.2.2.2.2.2)), (j, .inr (1, [.ref jp, .int j_c, .int j_a])), (jp, .inl (cI, 60, .inl j_p))] [0, 1, 2, 3, 4, 7, 8, 9, 10, 11, 12, 13, 14, 5, 6] rfl rfl rfl (1) (3) (Nat.le_of_ble_eq_true rfl) (Nat.le_of_ble_eq_true rfl) ⟨(Nat.le_of_ble_eq_true rfl), (Nat.le_of_ble_eq_true rfl)⟩ dX9_drop_77 ?_
        refine J_iconst O (v := 1) (pc := 80) (by decide) dX9_drop_80 ?_
        have e9 := Option.some.inj hf
        subst e9
        exact J_iret O (pc := 81) rfl dX9_drop_81
      · have hf := jt_f c66 hf
        refine J_iconst O (v := 0) (pc := 69) (by decide) dX9_drop_69 ?_
        have e9 := Option.some.inj hf
        subst e9
        refine J_widen 1 3 (Nat.le_of_ble_eq_true rfl) (Nat.le_of_ble_eq_true rfl) ?_
        exact J_iret O (pc := 70) rfl dX9_drop_70
    · have hf := jt_f c30 hf
      refine J_bipush O (v := (-2)) (pc := 33) (by decide) dX9_drop_33 ?_
      have e9 := Option.some.inj hf
      subst e9
      refine J_widen 1 3 (Nat.le_of_ble_eq_true rfl) (Nat.le_of_ble_eq_true rfl) ?_
      exact J_iret O (pc := 35) rfl dX9_drop_35
  · have hf := jt_f c5 hf
    refine J_iconst O (v := (-1)) (pc := 8) (by decide) dX9_drop_8 ?_
    have e9 := Option.some.inj hf
    subst e9
    refine J_widen 1 3 (Nat.le_of_ble_eq_true rfl) (Nat.le_of_ble_eq_true rfl) ?_
    exact J_iret O (pc := 9) rfl dX9_drop_9
theorem in_X9_remove_X9 : ∀ w ∈ u_ws RX9 TX9 5, w ∈ wsX9_remove := fun _ h => List.mem_cons_of_mem _ (List.mem_append_left _ (List.mem_append_left _ (List.mem_append_left _ (List.mem_append_right _ h))))
theorem mb_X9_remove_1 : Cond.fieldLink RX9 24 (TX9 2).1 (TX9 2).2.1 (TX9 2).2.2.1 ∈ wsX9_remove := by decide +kernel
abbrev rmX9_remove : Room := { frames := 4, cells := 1, slots := 3, locals := 110 }
set_option maxHeartbeats 4000000 in
set_option maxRecDepth 100000 in
theorem c_X9_remove (l : Launch) (D : va_G) (cB cI cJ : ClassId) (x t tb o ob h d db hk hs hu hn hg j jp : Nat) (x_p : Int32) (t_l : Int32) (t_f : Nat → Int8) (o_l : Int32) (o_f : Nat → Int8) (h_c : Int32) (h_e : Int32) (d_l : Int32) (d_f : Nat → Int8) (h_k : Nat → Int32) (h_s : Nat → Int32) (h_u : Nat → Int32) (h_n : Nat → Int64) (h_g : Nat → Int32) (j_c : Int32) (j_a : Int32) (j_p : Nat → Int32) (a1 : Int32) (fu : Nat) {z : Int32 × Int32 × Int32 × (Nat → Int8) × (Nat → Int32) × (Nat → Int32) × (Nat → Int32)} (hf : p_X9_remove fu h_c h_e d_l d_f h_k h_s h_g a1 = some z) : Ci (l, D, cB, cI, cJ) yX9_remove wsX9_remove rmX9_remove [.ref x, .int a1] [(x, .inr (5, [.ref t, .ref o, .ref h, .ref j, .int x_p])), (t, .inr (4, [.ref tb, .int t_l])), (tb, .inl (cB, 6000, .inl (b8 t_f))), (o, .inr (4, [.ref ob, .int o_l])), (ob, .inl (cB, 13044, .inl (b8 o_f))), (h, .inr (0, [.ref d, .ref hk, .ref hs, .int h_c, .ref hu, .ref hn, .ref hg, .int h_e])), (d, .inr (4, [.ref db, .int d_l])), (db, .inl (cB, 12000, .inl (b8 d_f))), (hk, .inl (cI, 60, .inl h_k)), (hs, .inl (cI, 61, .inl h_s)), (hu, .inl (cI, 40, .inl h_u)), (hn, .inl (cJ, 40, .inr (.inl h_n))), (hg, .inl (cI, 40, .inl h_g)), (j, .inr (1, [.ref jp, .int j_c, .int j_a])), (jp, .inl (cI, 60, .inl j_p))] [(x, .inr (5, [.ref t, .ref o, .ref h, .ref j, .int x_p])), (t, .inr (4, [.ref tb, .int t_l])), (tb, .inl (cB, 6000, .inl (b8 t_f))), (o, .inr (4, [.ref ob, .int o_l])), (ob, .inl (cB, 13044, .inl (b8 o_f))), (h, .inr (0, [.ref d, .ref hk, .ref hs, .int z.2.1, .ref hu, .ref hn, .ref hg, .int h_e])), (d, .inr (4, [.ref db, .int z.2.2.1])), (db, .inl (cB, 12000, .inl (b8 z.2.2.2.1))), (hk, .inl (cI, 60, .inl z.2.2.2.2.1)), (hs, .inl (cI, 61, .inl z.2.2.2.2.2.1)), (hu, .inl (cI, 40, .inl h_u)), (hn, .inl (cJ, 40, .inr (.inl h_n))), (hg, .inl (cI, 40, .inl z.2.2.2.2.2.2)), (j, .inr (1, [.ref jp, .int j_c, .int j_a])), (jp, .inl (cI, 60, .inl j_p))] z.1 := by
  refine Ci_of (cc := cX9_remove) (nL := 3) (own := RX9) (ret := (some .int)) (by decide) rfl rfl (Nat.le_of_ble_eq_true rfl) (fun X O hnm0 => ?_)
  rw [p_X9_remove] at hf
  show J X 3 (JQi X [(x, .inr (5, [.ref t, .ref o, .ref h, .ref j, .int x_p])), (t, .inr (4, [.ref tb, .int t_l])), (tb, .inl (cB, 6000, .inl (b8 t_f))), (o, .inr (4, [.ref ob, .int o_l])), (ob, .inl (cB, 13044, .inl (b8 o_f))), (h, .inr (0, [.ref d, .ref hk, .ref hs, .int z.2.1, .ref hu, .ref hn, .ref hg, .int h_e])), (d, .inr (4, [.ref db, .int z.2.2.1])), (db, .inl (cB, 12000, .inl (b8 z.2.2.2.1))), (hk, .inl (cI, 60, .inl z.2.2.2.2.1)), (hs, .inl (cI, 61, .inl z.2.2.2.2.2.1)), (hu, .inl (cI, 40, .inl h_u)), (hn, .inl (cJ, 40, .inr (.inl h_n))), (hg, .inl (cI, 40, .inl z.2.2.2.2.2.2)), (j, .inr (1, [.ref jp, .int j_c, .int j_a])), (jp, .inl (cI, 60, .inl j_p))] z.1 1 3) [(x, .inr (5, [.ref t, .ref o, .ref h, .ref j, .int x_p])), (t, .inr (4, [.ref tb, .int t_l])), (tb, .inl (cB, 6000, .inl (b8 t_f))), (o, .inr (4, [.ref ob, .int o_l])), (ob, .inl (cB, 13044, .inl (b8 o_f))), (h, .inr (0, [.ref d, .ref hk, .ref hs, .int h_c, .ref hu, .ref hn, .ref hg, .int h_e])), (d, .inr (4, [.ref db, .int d_l])), (db, .inl (cB, 12000, .inl (b8 d_f))), (hk, .inl (cI, 60, .inl h_k)), (hs, .inl (cI, 61, .inl h_s)), (hu, .inl (cI, 40, .inl h_u)), (hn, .inl (cJ, 40, .inr (.inl h_n))), (hg, .inl (cI, 40, .inl h_g)), (j, .inr (1, [.ref jp, .int j_c, .int j_a])), (jp, .inl (cI, 60, .inl j_p))] 0 0 0 [(0, .ref x), (1, .int a1)] []
  refine J_aload_n O (i := 0) (k0 := 0) (pc := 0) 0 rfl rfl dX9_remove_0 ?_
  refine J_get O (pc := 1) in_X9_remove_X9 0 rfl rfl 2 (by decide) mb_X9_remove_1 rfl dX9_remove_1 ?_
  refine J_iload_n O (i := 1) (k0 := 1) (pc := 4) 1 rfl rfl dX9_remove_4 ?_
  obtain ⟨z5, h5, hf⟩ := jt_b hf
  refine J_callVi O (pc := 5) (c_X0_hasChunk l D cB cI cJ h d db hk hs hu hn hg h_c h_e d_l d_f h_k h_s h_u h_n h_g a1 h5) rfl 0 rfl rfl gX9_remove_X0_hasChunk hdV_X0_hasChunk ⟨(Nat.le_of_ble_eq_true rfl), (Nat.le_of_ble_eq_true rfl)⟩ rfl (st := []) rfl (Nat.le_of_ble_eq_true rfl) [5, 6, 7, 8, 9, 10, 11, 12] [0, 1, 2, 3, 4, 13, 14] rfl rfl rfl rfl rfl (by decide) [(x, .inr (5, [.ref t, .ref o, .ref h, .ref j, .int x_p])), (t, .inr (4, [.ref tb, .int t_l])), (tb, .inl (cB, 6000, .inl (b8 t_f))), (o, .inr (4, [.ref ob, .int o_l])), (ob, .inl (cB, 13044, .inl (b8 o_f))), (h, .inr (0, [.ref d, .ref hk, .ref hs, .int h_c, .ref hu, .ref hn, .ref hg, .int h_e])), (d, .inr (4, [.ref db, .int d_l])), (db, .inl (cB, 12000, .inl (b8 d_f))), (hk, .inl (cI, 60, .inl h_k)), (hs, .inl (cI, 61, .inl h_s)), (hu, .inl (cI, 40, .inl h_u)), (hn, .inl (cJ, 40, .inr (.inl h_n))), (hg, .inl (cI, 40, .inl h_g)), (j, .inr (1, [.ref jp, .int j_c, .int j_a])), (jp, .inl (cI, 60, .inl j_p))] [0, 1, 2, 3, 4, 7, 8, 9, 10, 11, 12, 13, 14, 5, 6] rfl rfl rfl (0) (0) (Nat.le_of_ble_eq_true rfl) (Nat.le_of_ble_eq_true rfl) ⟨(Nat.le_of_ble_eq_true rfl), (Nat.le_of_ble_eq_true rfl)⟩ dX9_remove_5 ?_
  refine J_zne O (tgt := 13) (pc := 8) dX9_remove_8 (by decide) (fun c8 => ?_) (fun c8 => ?_)
  · have hf := jt_t c8 hf
    refine J_aload_n O (i := 0) (k0 := 0) (pc := 13) 0 rfl rfl dX9_remove_13 ?_
    refine J_get O (pc := 14) in_X9_remove_X9 0 rfl rfl 2 (by decide) mb_X9_remove_1 rfl dX9_remove_14 ?_
    refine J_iload_n O (i := 1) (k0 := 1) (pc := 17) 1 rfl rfl dX9_remove_17 ?_
    obtain ⟨z18, h18, hf⟩ := jt_b hf
    refine J_callVi O (pc := 18) (c_X0_meaningsOf l D cB cI cJ h d db hk hs hu hn hg h_c h_e d_l d_f h_k h_s h_u h_n h_g a1 fu h18) rfl 0 rfl rfl gX9_remove_X0_meaningsOf hdV_X0_meaningsOf ⟨(Nat.le_of_ble_eq_true rfl), (Nat.le_of_ble_eq_true rfl)⟩ rfl (st := []) rfl (Nat.le_of_ble_eq_true rfl) [5, 6, 7, 8, 9, 10, 11, 12] [0, 1, 2, 3, 4, 13, 14] rfl rfl rfl rfl rfl (by decide) [(x, .inr (5, [.ref t, .ref o, .ref h, .ref j, .int x_p])), (t, .inr (4, [.ref tb, .int t_l])), (tb, .inl (cB, 6000, .inl (b8 t_f))), (o, .inr (4, [.ref ob, .int o_l])), (ob, .inl (cB, 13044, .inl (b8 o_f))), (h, .inr (0, [.ref d, .ref hk, .ref hs, .int h_c, .ref hu, .ref hn, .ref hg, .int h_e])), (d, .inr (4, [.ref db, .int d_l])), (db, .inl (cB, 12000, .inl (b8 d_f))), (hk, .inl (cI, 60, .inl h_k)), (hs, .inl (cI, 61, .inl h_s)), (hu, .inl (cI, 40, .inl h_u)), (hn, .inl (cJ, 40, .inr (.inl h_n))), (hg, .inl (cI, 40, .inl h_g)), (j, .inr (1, [.ref jp, .int j_c, .int j_a])), (jp, .inl (cI, 60, .inl j_p))] [0, 1, 2, 3, 4, 7, 8, 9, 10, 11, 12, 13, 14, 5, 6] rfl rfl rfl (0) (0) (Nat.le_of_ble_eq_true rfl) (Nat.le_of_ble_eq_true rfl) ⟨(Nat.le_of_ble_eq_true rfl), (Nat.le_of_ble_eq_true rfl)⟩ dX9_remove_18 ?_
    refine J_if_le O (tgt := 27) (pc := 21) dX9_remove_21 (by decide) (fun c21 => ?_) (fun c21 => ?_)
    · have hf := jt_t c21 hf
      refine J_aload_n O (i := 0) (k0 := 0) (pc := 27) 0 rfl rfl dX9_remove_27 ?_
      refine J_get O (pc := 28) in_X9_remove_X9 0 rfl rfl 2 (by decide) mb_X9_remove_1 rfl dX9_remove_28 ?_
      refine J_iload_n O (i := 1) (k0 := 1) (pc := 31) 1 rfl rfl dX9_remove_31 ?_
      obtain ⟨z32, h32, hf⟩ := jt_b hf
      refine J_callVi O (pc := 32) (c_X0_lengthOf l D cB cI cJ h d db hk hs hu hn hg h_c h_e d_l d_f h_k h_s h_u h_n h_g a1 h32) rfl 0 rfl rfl gX9_remove_X0_lengthOf hdV_X0_lengthOf ⟨(Nat.le_of_ble_eq_true rfl), (Nat.le_of_ble_eq_true rfl)⟩ rfl (st := []) rfl (Nat.le_of_ble_eq_true rfl) [5, 6, 7, 8, 9, 10, 11, 12] [0, 1, 2, 3, 4, 13, 14] rfl rfl rfl rfl rfl (by decide) [(x, .inr (5, [.ref t, .ref o, .ref h, .ref j, .int x_p])), (t, .inr (4, [.ref tb, .int t_l])), (tb, .inl (cB, 6000, .inl (b8 t_f))), (o, .inr (4, [.ref ob, .int o_l])), (ob, .inl (cB, 13044, .inl (b8 o_f))), (h, .inr (0, [.ref d, .ref hk, .ref hs, .int h_c, .ref hu, .ref hn, .ref hg, .int h_e])), (d, .inr (4, [.ref db, .int d_l])), (db, .inl (cB, 12000, .inl (b8 d_f))), (hk, .inl (cI, 60, .inl h_k)), (hs, .inl (cI, 61, .inl h_s)), (hu, .inl (cI, 40, .inl h_u)), (hn, .inl (cJ, 40, .inr (.inl h_n))), (hg, .inl (cI, 40, .inl h_g)), (j, .inr (1, [.ref jp, .int j_c, .int j_a])), (jp, .inl (cI, 60, .inl j_p))] [0, 1, 2, 3, 4, 7, 8, 9, 10, 11, 12, 13, 14, 5, 6] rfl rfl rfl (0) (0) (Nat.le_of_ble_eq_true rfl) (Nat.le_of_ble_eq_true rfl) ⟨(Nat.le_of_ble_eq_true rfl), (Nat.le_of_ble_eq_true rfl)⟩ dX9_remove_32 ?_
      refine J_istore_n O (i := 2) (k0 := 2) (pc := 35) rfl [(2, .int z32), (0, .ref x), (1, .int a1)] (by decide) rfl dX9_remove_35 ?_
      refine J_aload_n O (i := 0) (k0 := 0) (pc := 36) 1 rfl rfl dX9_remove_36 ?_
      refine J_get O (pc := 37) in_X9_remove_X9 0 rfl rfl 2 (by decide) mb_X9_remove_1 rfl dX9_remove_37 ?_
      refine J_iload_n O (i := 1) (k0 := 1) (pc := 40) 2 rfl rfl dX9_remove_40 ?_
      obtain ⟨z41, h41, hf⟩ := jt_b hf
      refine J_callVv O (pc := 41) (c_X0_takeChunk l D cB cI cJ h d db hk hs hu hn hg h_c h_e d_l d_f h_k h_s h_u h_n h_g a1 fu h41) rfl 0 rfl rfl gX9_remove_X0_takeChunk hdV_X0_takeChunk ⟨(Nat.le_of_ble_eq_true rfl), (Nat.le_of_ble_eq_true rfl)⟩ rfl (st := []) rfl (Nat.le_of_ble_eq_true rfl) [5, 6, 7, 8, 9, 10, 11, 12] [0, 1, 2, 3, 4, 13, 14] rfl rfl rfl rfl rfl (by decide) [(x, .inr (5, [.ref t, .ref o, .ref h, .ref j, .int x_p])), (t, .inr (4, [.ref tb, .int t_l])), (tb, .inl (cB, 6000, .inl (b8 t_f))), (o, .inr (4, [.ref ob, .int o_l])), (ob, .inl (cB, 13044, .inl (b8 o_f))), (h, .inr (0, [.ref d, .ref hk, .ref hs, .int z41.1, .ref hu, .ref hn, .ref hg, .int h_e])), (d, .inr (4, [.ref db, .int z41.2.1])), (db, .inl (cB, 12000, .inl (b8 z41.2.2.1))), (hk, .inl (cI, 60, .inl z41.2.2.2.1)), (hs, .inl (cI, 61, .inl z41.2.2.2.2.1)), (hu, .inl (cI, 40, .inl h_u)), (hn, .inl (cJ, 40, .inr (.inl h_n))), (hg, .inl (cI, 40, .inl z41.2.2.2.2.2)), (j, .inr (1, [.ref jp, .int j_c, .int j_a])), (jp, .inl (cI, 60, .inl j_p))] [0, 1, 2, 3, 4, 7, 8, 9, 10, 11, 12, 13, 14, 5, 6] rfl rfl rfl (1) (3) (Nat.le_of_ble_eq_true rfl) (Nat.le_of_ble_eq_true rfl) ⟨(Nat.le_of_ble_eq_true rfl), (Nat.le_of_ble_eq_true rfl)⟩ dX9_remove_41 ?_
      refine J_iload_n O (i := 2) (k0 := 2) (pc := 44) 0 rfl rfl dX9_remove_44 ?_
      have e9 := Option.some.inj hf
      subst e9
      exact J_iret O (pc := 45) rfl dX9_remove_45
    · have hf := jt_f c21 hf
      refine J_bipush O (v := (-3)) (pc := 24) (by decide) dX9_remove_24 ?_
      have e9 := Option.some.inj hf
      subst e9
      refine J_widen 1 3 (Nat.le_of_ble_eq_true rfl) (Nat.le_of_ble_eq_true rfl) ?_
      exact J_iret O (pc := 26) rfl dX9_remove_26
  · have hf := jt_f c8 hf
    refine J_iconst O (v := (-1)) (pc := 11) (by decide) dX9_remove_11 ?_
    have e9 := Option.some.inj hf
    subst e9
    refine J_widen 1 3 (Nat.le_of_ble_eq_true rfl) (Nat.le_of_ble_eq_true rfl) ?_
    exact J_iret O (pc := 12) rfl dX9_remove_12
theorem in_X9_write_X9 : ∀ w ∈ u_ws RX9 TX9 5, w ∈ wsX9_write := fun _ h => List.mem_cons_of_mem _ (List.mem_append_left _ (List.mem_append_left _ (List.mem_append_left _ (List.mem_append_right _ h))))
theorem mb_X9_write_1 : Cond.fieldLink RX9 18 (TX9 1).1 (TX9 1).2.1 (TX9 1).2.2.1 ∈ wsX9_write := by decide +kernel
theorem mb_X9_write_2 : Cond.fieldLink RX9 24 (TX9 2).1 (TX9 2).2.1 (TX9 2).2.2.1 ∈ wsX9_write := by decide +kernel
theorem hdV_X0_writeTo : yX0_writeTo.cls = RX0 ∧ yX0_writeTo.cls ≠ "java/lang/invoke/MethodHandle" ∧ yX0_writeTo.cls ≠ "java/lang/invoke/VarHandle" ∧ (parseMethodDescriptor yX0_writeTo.desc).map (fun d => d.parameters.length) = some 1 := by decide +kernel
theorem in_X9_write_X6 : ∀ w ∈ u_ws RX6 TX6 2, w ∈ wsX9_write := fun _ h => List.mem_cons_of_mem _ (List.mem_append_left _ (List.mem_append_left _ (List.mem_append_right _ h)))
theorem mb_X9_write_4 : Cond.fieldLink RX9 47 (TX6 1).1 (TX6 1).2.1 (TX6 1).2.2.1 ∈ wsX9_write := by decide +kernel
abbrev rmX9_write : Room := { frames := 4, cells := 65, slots := 195, locals := 87 }
set_option maxHeartbeats 4000000 in
set_option maxRecDepth 100000 in
theorem c_X9_write (l : Launch) (D : va_G) (cB cI cJ : ClassId) (x t tb o ob h d db hk hs hu hn hg j jp : Nat) (x_p : Int32) (t_l : Int32) (t_f : Nat → Int8) (o_l : Int32) (o_f : Nat → Int8) (h_c : Int32) (h_e : Int32) (d_l : Int32) (d_f : Nat → Int8) (h_k : Nat → Int32) (h_s : Nat → Int32) (h_u : Nat → Int32) (h_n : Nat → Int64) (h_g : Nat → Int32) (j_c : Int32) (j_a : Int32) (j_p : Nat → Int32) (fu : Nat) {z : Int32 × Int32 × (Nat → Int8)} (hf : p_X9_write fu o_l o_f h_c h_e d_l d_f h_k h_s h_u h_n h_g = some z) : Ci (l, D, cB, cI, cJ) yX9_write wsX9_write rmX9_write [.ref x] [(x, .inr (5, [.ref t, .ref o, .ref h, .ref j, .int x_p])), (t, .inr (4, [.ref tb, .int t_l])), (tb, .inl (cB, 6000, .inl (b8 t_f))), (o, .inr (4, [.ref ob, .int o_l])), (ob, .inl (cB, 13044, .inl (b8 o_f))), (h, .inr (0, [.ref d, .ref hk, .ref hs, .int h_c, .ref hu, .ref hn, .ref hg, .int h_e])), (d, .inr (4, [.ref db, .int d_l])), (db, .inl (cB, 12000, .inl (b8 d_f))), (hk, .inl (cI, 60, .inl h_k)), (hs, .inl (cI, 61, .inl h_s)), (hu, .inl (cI, 40, .inl h_u)), (hn, .inl (cJ, 40, .inr (.inl h_n))), (hg, .inl (cI, 40, .inl h_g)), (j, .inr (1, [.ref jp, .int j_c, .int j_a])), (jp, .inl (cI, 60, .inl j_p))] [(x, .inr (5, [.ref t, .ref o, .ref h, .ref j, .int x_p])), (t, .inr (4, [.ref tb, .int t_l])), (tb, .inl (cB, 6000, .inl (b8 t_f))), (o, .inr (4, [.ref ob, .int z.2.1])), (ob, .inl (cB, 13044, .inl (b8 z.2.2))), (h, .inr (0, [.ref d, .ref hk, .ref hs, .int h_c, .ref hu, .ref hn, .ref hg, .int h_e])), (d, .inr (4, [.ref db, .int d_l])), (db, .inl (cB, 12000, .inl (b8 d_f))), (hk, .inl (cI, 60, .inl h_k)), (hs, .inl (cI, 61, .inl h_s)), (hu, .inl (cI, 40, .inl h_u)), (hn, .inl (cJ, 40, .inr (.inl h_n))), (hg, .inl (cI, 40, .inl h_g)), (j, .inr (1, [.ref jp, .int j_c, .int j_a])), (jp, .inl (cI, 60, .inl j_p))] z.1 := by
  refine Ci_of (cc := cX9_write) (nL := 1) (own := RX9) (ret := (some .int)) (by decide) rfl rfl (Nat.le_of_ble_eq_true rfl) (fun X O hnm0 => ?_)
  rw [p_X9_write] at hf
  show J X 1 (JQi X [(x, .inr (5, [.ref t, .ref o, .ref h, .ref j, .int x_p])), (t, .inr (4, [.ref tb, .int t_l])), (tb, .inl (cB, 6000, .inl (b8 t_f))), (o, .inr (4, [.ref ob, .int z.2.1])), (ob, .inl (cB, 13044, .inl (b8 z.2.2))), (h, .inr (0, [.ref d, .ref hk, .ref hs, .int h_c, .ref hu, .ref hn, .ref hg, .int h_e])), (d, .inr (4, [.ref db, .int d_l])), (db, .inl (cB, 12000, .inl (b8 d_f))), (hk, .inl (cI, 60, .inl h_k)), (hs, .inl (cI, 61, .inl h_s)), (hu, .inl (cI, 40, .inl h_u)), (hn, .inl (cJ, 40, .inr (.inl h_n))), (hg, .inl (cI, 40, .inl h_g)), (j, .inr (1, [.ref jp, .int j_c, .int j_a])), (jp, .inl (cI, 60, .inl j_p))] z.1 65 195) [(x, .inr (5, [.ref t, .ref o, .ref h, .ref j, .int x_p])), (t, .inr (4, [.ref tb, .int t_l])), (tb, .inl (cB, 6000, .inl (b8 t_f))), (o, .inr (4, [.ref ob, .int o_l])), (ob, .inl (cB, 13044, .inl (b8 o_f))), (h, .inr (0, [.ref d, .ref hk, .ref hs, .int h_c, .ref hu, .ref hn, .ref hg, .int h_e])), (d, .inr (4, [.ref db, .int d_l])), (db, .inl (cB, 12000, .inl (b8 d_f))), (hk, .inl (cI, 60, .inl h_k)), (hs, .inl (cI, 61, .inl h_s)), (hu, .inl (cI, 40, .inl h_u)), (hn, .inl (cJ, 40, .inr (.inl h_n))), (hg, .inl (cI, 40, .inl h_g)), (j, .inr (1, [.ref jp, .int j_c, .int j_a])), (jp, .inl (cI, 60, .inl j_p))] 0 0 0 [(0, .ref x)] []
  refine J_aload_n O (i := 0) (k0 := 0) (pc := 0) 0 rfl rfl dX9_write_0 ?_
  refine J_get O (pc := 1) in_X9_write_X9 0 rfl rfl 1 (by decide) mb_X9_write_1 rfl dX9_write_1 ?_
  refine J_iconst O (v := 0) (pc := 4) (by decide) dX9_write_4 ?_
  obtain ⟨z5, h5, hf⟩ := jt_b hf
  refine J_callVv O (pc := 5) (c_X6_keep l D cB cI cJ o ob 13044 o_l o_f 0 h5) rfl 0 rfl rfl gX9_write_X6_keep hdV_X6_keep ⟨(Nat.le_of_ble_eq_true rfl), (Nat.le_of_ble_eq_true rfl)⟩ rfl (st := []) rfl (Nat.le_of_ble_eq_true rfl) [3, 4] [0, 1, 2, 5, 6, 7, 8, 9, 10, 11, 12, 13, 14] rfl rfl rfl rfl rfl (by decide) [(x, .inr (5, [.ref t, .ref o, .ref h, .ref j, .int x_p])), (t, .inr (4, [.ref tb, .int t_l])), (tb, .inl (cB, 6000, .inl (b8 t_f))), (o, .inr (4, [.ref ob, .int z5])), (ob, .inl (cB, 13044, .inl (b8 o_f))), (h, .inr (0, [.ref d, .ref hk, .ref hs, .int h_c, .ref hu, .ref hn, .ref hg, .int h_e])), (d, .inr (4, [.ref db, .int d_l])), (db, .inl (cB, 12000, .inl (b8 d_f))), (hk, .inl (cI, 60, .inl h_k)), (hs, .inl (cI, 61, .inl h_s)), (hu, .inl (cI, 40, .inl h_u)), (hn, .inl (cJ, 40, .inr (.inl h_n))), (hg, .inl (cI, 40, .inl h_g)), (j, .inr (1, [.ref jp, .int j_c, .int j_a])), (jp, .inl (cI, 60, .inl j_p))] [0, 1, 2, 13, 14, 3, 4, 5, 6, 7, 8, 9, 10, 11, 12] rfl rfl rfl (0) (0) (Nat.le_of_ble_eq_true rfl) (Nat.le_of_ble_eq_true rfl) ⟨(Nat.le_of_ble_eq_true rfl), (Nat.le_of_ble_eq_true rfl)⟩ dX9_write_5 ?_
  refine J_aload_n O (i := 0) (k0 := 0) (pc := 8) 0 rfl rfl dX9_write_8 ?_
  refine J_get O (pc := 9) in_X9_write_X9 0 rfl rfl 2 (by decide) mb_X9_write_2 rfl dX9_write_9 ?_
  refine J_aload_n O (i := 0) (k0 := 0) (pc := 12) 0 rfl rfl dX9_write_12 ?_
  refine J_get O (pc := 13) in_X9_write_X9 0 rfl rfl 1 (by decide) mb_X9_write_1 rfl dX9_write_13 ?_
  obtain ⟨z16, h16, hf⟩ := jt_b hf
  refine J_callVv O (pc := 16) (c_X0_writeTo l D cB cI cJ h d db hk hs hu hn hg o ob 13044 h_c h_e d_l d_f h_k h_s h_u h_n h_g z5 o_f fu h16) rfl 0 rfl rfl gX9_write_X0_writeTo hdV_X0_writeTo ⟨(Nat.le_of_ble_eq_true rfl), (Nat.le_of_ble_eq_true rfl)⟩ rfl (st := []) rfl (Nat.le_of_ble_eq_true rfl) [5, 6, 7, 8, 9, 10, 11, 12, 3, 4] [0, 1, 2, 13, 14] rfl rfl rfl rfl rfl (by decide) [(x, .inr (5, [.ref t, .ref o, .ref h, .ref j, .int x_p])), (t, .inr (4, [.ref tb, .int t_l])), (tb, .inl (cB, 6000, .inl (b8 t_f))), (o, .inr (4, [.ref ob, .int z16.1])), (ob, .inl (cB, 13044, .inl (b8 z16.2))), (h, .inr (0, [.ref d, .ref hk, .ref hs, .int h_c, .ref hu, .ref hn, .ref hg, .int h_e])), (d, .inr (4, [.ref db, .int d_l])), (db, .inl (cB, 12000, .inl (b8 d_f))), (hk, .inl (cI, 60, .inl h_k)), (hs, .inl (cI, 61, .inl h_s)), (hu, .inl (cI, 40, .inl h_u)), (hn, .inl (cJ, 40, .inr (.inl h_n))), (hg, .inl (cI, 40, .inl h_g)), (j, .inr (1, [.ref jp, .int j_c, .int j_a])), (jp, .inl (cI, 60, .inl j_p))] [0, 1, 2, 13, 14, 5, 6, 7, 8, 9, 10, 11, 12, 3, 4] rfl rfl rfl (65) (195) (Nat.le_of_ble_eq_true rfl) (Nat.le_of_ble_eq_true rfl) ⟨(Nat.le_of_ble_eq_true rfl), (Nat.le_of_ble_eq_true rfl)⟩ dX9_write_16 ?_
  refine J_aload_n O (i := 0) (k0 := 0) (pc := 19) 0 rfl rfl dX9_write_19 ?_
  refine J_get O (pc := 20) in_X9_write_X9 0 rfl rfl 1 (by decide) mb_X9_write_1 rfl dX9_write_20 ?_
  refine J_get O (pc := 23) in_X9_write_X6 3 rfl rfl 1 (by decide) mb_X9_write_4 rfl dX9_write_23 ?_
  have e9 := Option.some.inj hf
  subst e9
  exact J_iret O (pc := 26) rfl dX9_write_26
theorem in_X9_out_X9 : ∀ w ∈ u_ws RX9 TX9 5, w ∈ wsX9_out := fun _ h => List.mem_cons_of_mem _ (List.mem_append_left _ (List.mem_append_left _ (List.mem_append_right _ h)))
theorem mb_X9_out_1 : Cond.fieldLink RX9 18 (TX9 1).1 (TX9 1).2.1 (TX9 1).2.2.1 ∈ wsX9_out := by decide +kernel
abbrev rmX9_out : Room := { frames := 3, cells := 1, slots := 3, locals := 68 }
set_option maxHeartbeats 4000000 in
set_option maxRecDepth 100000 in
theorem c_X9_out (l : Launch) (D : va_G) (cB cI cJ : ClassId) (x t tb o ob h d db hk hs hu hn hg j jp : Nat) (x_p : Int32) (t_l : Int32) (t_f : Nat → Int8) (o_l : Int32) (o_f : Nat → Int8) (h_c : Int32) (h_e : Int32) (d_l : Int32) (d_f : Nat → Int8) (h_k : Nat → Int32) (h_s : Nat → Int32) (h_u : Nat → Int32) (h_n : Nat → Int64) (h_g : Nat → Int32) (j_c : Int32) (j_a : Int32) (j_p : Nat → Int32) (a1 : Int32) (fu : Nat) {z : Int32} (hf : p_X9_out fu o_l o_f a1 = some z) : Ci (l, D, cB, cI, cJ) yX9_out wsX9_out rmX9_out [.ref x, .int a1] [(x, .inr (5, [.ref t, .ref o, .ref h, .ref j, .int x_p])), (t, .inr (4, [.ref tb, .int t_l])), (tb, .inl (cB, 6000, .inl (b8 t_f))), (o, .inr (4, [.ref ob, .int o_l])), (ob, .inl (cB, 13044, .inl (b8 o_f))), (h, .inr (0, [.ref d, .ref hk, .ref hs, .int h_c, .ref hu, .ref hn, .ref hg, .int h_e])), (d, .inr (4, [.ref db, .int d_l])), (db, .inl (cB, 12000, .inl (b8 d_f))), (hk, .inl (cI, 60, .inl h_k)), (hs, .inl (cI, 61, .inl h_s)), (hu, .inl (cI, 40, .inl h_u)), (hn, .inl (cJ, 40, .inr (.inl h_n))), (hg, .inl (cI, 40, .inl h_g)), (j, .inr (1, [.ref jp, .int j_c, .int j_a])), (jp, .inl (cI, 60, .inl j_p))] [(x, .inr (5, [.ref t, .ref o, .ref h, .ref j, .int x_p])), (t, .inr (4, [.ref tb, .int t_l])), (tb, .inl (cB, 6000, .inl (b8 t_f))), (o, .inr (4, [.ref ob, .int o_l])), (ob, .inl (cB, 13044, .inl (b8 o_f))), (h, .inr (0, [.ref d, .ref hk, .ref hs, .int h_c, .ref hu, .ref hn, .ref hg, .int h_e])), (d, .inr (4, [.ref db, .int d_l])), (db, .inl (cB, 12000, .inl (b8 d_f))), (hk, .inl (cI, 60, .inl h_k)), (hs, .inl (cI, 61, .inl h_s)), (hu, .inl (cI, 40, .inl h_u)), (hn, .inl (cJ, 40, .inr (.inl h_n))), (hg, .inl (cI, 40, .inl h_g)), (j, .inr (1, [.ref jp, .int j_c, .int j_a])), (jp, .inl (cI, 60, .inl j_p))] z := by
  refine Ci_of (cc := cX9_out) (nL := 3) (own := RX9) (ret := (some .int)) (by decide) rfl rfl (Nat.le_of_ble_eq_true rfl) (fun X O hnm0 => ?_)
  rw [p_X9_out] at hf
  show J X 3 (JQi X [(x, .inr (5, [.ref t, .ref o, .ref h, .ref j, .int x_p])), (t, .inr (4, [.ref tb, .int t_l])), (tb, .inl (cB, 6000, .inl (b8 t_f))), (o, .inr (4, [.ref ob, .int o_l])), (ob, .inl (cB, 13044, .inl (b8 o_f))), (h, .inr (0, [.ref d, .ref hk, .ref hs, .int h_c, .ref hu, .ref hn, .ref hg, .int h_e])), (d, .inr (4, [.ref db, .int d_l])), (db, .inl (cB, 12000, .inl (b8 d_f))), (hk, .inl (cI, 60, .inl h_k)), (hs, .inl (cI, 61, .inl h_s)), (hu, .inl (cI, 40, .inl h_u)), (hn, .inl (cJ, 40, .inr (.inl h_n))), (hg, .inl (cI, 40, .inl h_g)), (j, .inr (1, [.ref jp, .int j_c, .int j_a])), (jp, .inl (cI, 60, .inl j_p))] z 1 3) [(x, .inr (5, [.ref t, .ref o, .ref h, .ref j, .int x_p])), (t, .inr (4, [.ref tb, .int t_l])), (tb, .inl (cB, 6000, .inl (b8 t_f))), (o, .inr (4, [.ref ob, .int o_l])), (ob, .inl (cB, 13044, .inl (b8 o_f))), (h, .inr (0, [.ref d, .ref hk, .ref hs, .int h_c, .ref hu, .ref hn, .ref hg, .int h_e])), (d, .inr (4, [.ref db, .int d_l])), (db, .inl (cB, 12000, .inl (b8 d_f))), (hk, .inl (cI, 60, .inl h_k)), (hs, .inl (cI, 61, .inl h_s)), (hu, .inl (cI, 40, .inl h_u)), (hn, .inl (cJ, 40, .inr (.inl h_n))), (hg, .inl (cI, 40, .inl h_g)), (j, .inr (1, [.ref jp, .int j_c, .int j_a])), (jp, .inl (cI, 60, .inl j_p))] 0 0 0 [(0, .ref x), (1, .int a1)] []
  refine J_aload_n O (i := 0) (k0 := 0) (pc := 0) 0 rfl rfl dX9_out_0 ?_
  refine J_get O (pc := 1) in_X9_out_X9 0 rfl rfl 1 (by decide) mb_X9_out_1 rfl dX9_out_1 ?_
  obtain ⟨z4, h4, hf⟩ := jt_b hf
  refine J_callVr O (pc := 4) (c_X6_whole l D cB cI cJ o ob 13044 o_l o_f h4) rfl 0 rfl rfl gX9_out_X6_whole hdV_X6_whole ⟨(Nat.le_of_ble_eq_true rfl), (Nat.le_of_ble_eq_true rfl)⟩ rfl (st := []) rfl (Nat.le_of_ble_eq_true rfl) [3, 4] [0, 1, 2, 5, 6, 7, 8, 9, 10, 11, 12, 13, 14] rfl rfl rfl rfl rfl (by decide) (fun q4 => [(x, .inr (5, [.ref t, .ref o, .ref h, .ref j, .int x_p])), (t, .inr (4, [.ref tb, .int t_l])), (tb, .inl (cB, 6000, .inl (b8 t_f))), (o, .inr (4, [.ref ob, .int o_l])), (ob, .inl (cB, 13044, .inl (b8 o_f))), (h, .inr (0, [.ref d, .ref hk, .ref hs, .int h_c, .ref hu, .ref hn, .ref hg, .int h_e])), (d, .inr (4, [.ref db, .int d_l])), (db, .inl (cB, 12000, .inl (b8 d_f))), (hk, .inl (cI, 60, .inl h_k)), (hs, .inl (cI, 61, .inl h_s)), (hu, .inl (cI, 40, .inl h_u)), (hn, .inl (cJ, 40, .inr (.inl h_n))), (hg, .inl (cI, 40, .inl h_g)), (j, .inr (1, [.ref jp, .int j_c, .int j_a])), (jp, .inl (cI, 60, .inl j_p)), (q4, .inr (2, [.ref o, .int z4.1, .int z4.2]))]) [0, 1, 2, 13, 14, 3, 4, 5, 6, 7, 8, 9, 10, 11, 12, 15] rfl (fun _ => rfl) (fun _ => rfl) (1) (3) (Nat.le_of_ble_eq_true rfl) (Nat.le_of_ble_eq_true rfl) ⟨(Nat.le_of_ble_eq_true rfl), (Nat.le_of_ble_eq_true rfl)⟩ dX9_out_4 (fun q4 => ?_)
  refine J_astore_n O (i := 2) (k0 := 2) (pc := 7) rfl [(2, .ref q4), (0, .ref x), (1, .int a1)] (by decide) rfl dX9_out_7 ?_
  refine J_aload_n O (i := 2) (k0 := 2) (pc := 8) 0 rfl rfl dX9_out_8 ?_
  refine J_iload_n O (i := 1) (k0 := 1) (pc := 9) 2 rfl rfl dX9_out_9 ?_
  refine J_iconst O (v := 1) (pc := 10) (by decide) dX9_out_10 ?_
  obtain ⟨z11, h11, hf⟩ := jt_b hf
  refine J_callVi O (pc := 11) (c_X3_holds l D cB cI cJ q4 o ob 13044 z4.1 z4.2 o_l o_f a1 1 h11) rfl 0 rfl rfl gX9_out_X3_holds hdV_X3_holds ⟨(Nat.le_of_ble_eq_true rfl), (Nat.le_of_ble_eq_true rfl)⟩ rfl (st := []) rfl (Nat.le_of_ble_eq_true rfl) [15, 3, 4] [0, 1, 2, 5, 6, 7, 8, 9, 10, 11, 12, 13, 14] rfl rfl rfl rfl rfl (by decide) [(x, .inr (5, [.ref t, .ref o, .ref h, .ref j, .int x_p])), (t, .inr (4, [.ref tb, .int t_l])), (tb, .inl (cB, 6000, .inl (b8 t_f))), (o, .inr (4, [.ref ob, .int o_l])), (ob, .inl (cB, 13044, .inl (b8 o_f))), (h, .inr (0, [.ref d, .ref hk, .ref hs, .int h_c, .ref hu, .ref hn, .ref hg, .int h_e])), (d, .inr (4, [.ref db, .int d_l])), (db, .inl (cB, 12000, .inl (b8 d_f))), (hk, .inl (cI, 60, .inl h_k)), (hs, .inl (cI, 61, .inl h_s)), (hu, .inl (cI, 40, .inl h_u)), (hn, .inl (cJ, 40, .inr (.inl h_n))), (hg, .inl (cI, 40, .inl h_g)), (j, .inr (1, [.ref jp, .int j_c, .int j_a])), (jp, .inl (cI, 60, .inl j_p)), (q4, .inr (2, [.ref o, .int z4.1, .int z4.2]))] [0, 1, 2, 14, 15, 3, 4, 5, 6, 7, 8, 9, 10, 11, 12, 13] rfl rfl rfl (1) (3) (Nat.le_of_ble_eq_true rfl) (Nat.le_of_ble_eq_true rfl) ⟨(Nat.le_of_ble_eq_true rfl), (Nat.le_of_ble_eq_true rfl)⟩ dX9_out_11 ?_
  refine J_zeq O (tgt := 25) (pc := 14) dX9_out_14 (by decide) (fun c14 => ?_) (fun c14 => ?_)
  · have hf := jt_f c14 hf
    refine J_iconst O (v := (-1)) (pc := 25) (by decide) dX9_out_25 ?_
    have e9 := Option.some.inj hf
    subst e9
    refine J_wsub [0, 1, 2, 3, 4, 5, 6, 7, 8, 9, 10, 11, 12, 13, 14] [(x, .inr (5, [.ref t, .ref o, .ref h, .ref j, .int x_p])), (t, .inr (4, [.ref tb, .int t_l])), (tb, .inl (cB, 6000, .inl (b8 t_f))), (o, .inr (4, [.ref ob, .int o_l])), (ob, .inl (cB, 13044, .inl (b8 o_f))), (h, .inr (0, [.ref d, .ref hk, .ref hs, .int h_c, .ref hu, .ref hn, .ref hg, .int h_e])), (d, .inr (4, [.ref db, .int d_l])), (db, .inl (cB, 12000, .inl (b8 d_f))), (hk, .inl (cI, 60, .inl h_k)), (hs, .inl (cI, 61, .inl h_s)), (hu, .inl (cI, 40, .inl h_u)), (hn, .inl (cJ, 40, .inr (.inl h_n))), (hg, .inl (cI, 40, .inl h_g)), (j, .inr (1, [.ref jp, .int j_c, .int j_a])), (jp, .inl (cI, 60, .inl j_p))] rfl rfl rfl ?_
    exact J_iret O (pc := 26) rfl dX9_out_26
  · have hf := jt_t c14 hf
    refine J_aload_n O (i := 2) (k0 := 2) (pc := 17) 0 rfl rfl dX9_out_17 ?_
    refine J_iload_n O (i := 1) (k0 := 1) (pc := 18) 2 rfl rfl dX9_out_18 ?_
    obtain ⟨z19, h19, hf⟩ := jt_b hf
    refine J_callVi O (pc := 19) (c_X3_at l D cB cI cJ q4 o ob 13044 z4.1 z4.2 o_l o_f a1 fu h19) rfl 0 rfl rfl gX9_out_X3_at hdV_X3_at ⟨(Nat.le_of_ble_eq_true rfl), (Nat.le_of_ble_eq_true rfl)⟩ rfl (st := []) rfl (Nat.le_of_ble_eq_true rfl) [15, 3, 4] [0, 1, 2, 5, 6, 7, 8, 9, 10, 11, 12, 13, 14] rfl rfl rfl rfl rfl (by decide) [(x, .inr (5, [.ref t, .ref o, .ref h, .ref j, .int x_p])), (t, .inr (4, [.ref tb, .int t_l])), (tb, .inl (cB, 6000, .inl (b8 t_f))), (o, .inr (4, [.ref ob, .int o_l])), (ob, .inl (cB, 13044, .inl (b8 o_f))), (h, .inr (0, [.ref d, .ref hk, .ref hs, .int h_c, .ref hu, .ref hn, .ref hg, .int h_e])), (d, .inr (4, [.ref db, .int d_l])), (db, .inl (cB, 12000, .inl (b8 d_f))), (hk, .inl (cI, 60, .inl h_k)), (hs, .inl (cI, 61, .inl h_s)), (hu, .inl (cI, 40, .inl h_u)), (hn, .inl (cJ, 40, .inr (.inl h_n))), (hg, .inl (cI, 40, .inl h_g)), (j, .inr (1, [.ref jp, .int j_c, .int j_a])), (jp, .inl (cI, 60, .inl j_p)), (q4, .inr (2, [.ref o, .int z4.1, .int z4.2]))] [0, 1, 2, 14, 15, 3, 4, 5, 6, 7, 8, 9, 10, 11, 12, 13] rfl rfl rfl (1) (3) (Nat.le_of_ble_eq_true rfl) (Nat.le_of_ble_eq_true rfl) ⟨(Nat.le_of_ble_eq_true rfl), (Nat.le_of_ble_eq_true rfl)⟩ dX9_out_19 ?_
    refine J_goto O (tgt := 26) (pc := 22) dX9_out_22 (by decide) ?_
    have e9 := Option.some.inj hf
    subst e9
    refine J_wsub [0, 1, 2, 3, 4, 5, 6, 7, 8, 9, 10, 11, 12, 13, 14] [(x, .inr (5, [.ref t, .ref o, .ref h, .ref j, .int x_p])), (t, .inr (4, [.ref tb, .int t_l])), (tb, .inl (cB, 6000, .inl (b8 t_f))), (o, .inr (4, [.ref ob, .int o_l])), (ob, .inl (cB, 13044, .inl (b8 o_f))), (h, .inr (0, [.ref d, .ref hk, .ref hs, .int h_c, .ref hu, .ref hn, .ref hg, .int h_e])), (d, .inr (4, [.ref db, .int d_l])), (db, .inl (cB, 12000, .inl (b8 d_f))), (hk, .inl (cI, 60, .inl h_k)), (hs, .inl (cI, 61, .inl h_s)), (hu, .inl (cI, 40, .inl h_u)), (hn, .inl (cJ, 40, .inr (.inl h_n))), (hg, .inl (cI, 40, .inl h_g)), (j, .inr (1, [.ref jp, .int j_c, .int j_a])), (jp, .inl (cI, 60, .inl j_p))] rfl rfl rfl ?_
    exact J_iret O (pc := 26) rfl dX9_out_26
theorem in_X9_back_X9 : ∀ w ∈ u_ws RX9 TX9 5, w ∈ wsX9_back := fun _ h => List.mem_cons_of_mem _ (List.mem_append_left _ (List.mem_append_left _ (List.mem_append_right _ h)))
theorem mb_X9_back_1 : Cond.fieldLink RX9 18 (TX9 1).1 (TX9 1).2.1 (TX9 1).2.2.1 ∈ wsX9_back := by decide +kernel
theorem in_X9_back_X6 : ∀ w ∈ u_ws RX6 TX6 2, w ∈ wsX9_back := fun _ h => List.mem_cons_of_mem _ (List.mem_append_left _ (List.mem_append_right _ h))
theorem mb_X9_back_3 : Cond.fieldLink RX9 47 (TX6 1).1 (TX6 1).2.1 (TX6 1).2.2.1 ∈ wsX9_back := by decide +kernel
theorem mb_X9_back_4 : Cond.fieldLink RX9 14 (TX9 0).1 (TX9 0).2.1 (TX9 0).2.2.1 ∈ wsX9_back := by decide +kernel
abbrev rmX9_back : Room := { frames := 3, cells := 1, slots := 3, locals := 64 }
set_option maxHeartbeats 4000000 in
set_option maxRecDepth 100000 in
theorem c_X9_back (l : Launch) (D : va_G) (cB cI cJ : ClassId) (x t tb o ob h d db hk hs hu hn hg j jp : Nat) (x_p : Int32) (t_l : Int32) (t_f : Nat → Int8) (o_l : Int32) (o_f : Nat → Int8) (h_c : Int32) (h_e : Int32) (d_l : Int32) (d_f : Nat → Int8) (h_k : Nat → Int32) (h_s : Nat → Int32) (h_u : Nat → Int32) (h_n : Nat → Int64) (h_g : Nat → Int32) (j_c : Int32) (j_a : Int32) (j_p : Nat → Int32) {z : Int32 × Int32 × (Nat → Int8)} (hf : p_X9_back t_l t_f o_l o_f = some z) : Ci (l, D, cB, cI, cJ) yX9_back wsX9_back rmX9_back [.ref x] [(x, .inr (5, [.ref t, .ref o, .ref h, .ref j, .int x_p])), (t, .inr (4, [.ref tb, .int t_l])), (tb, .inl (cB, 6000, .inl (b8 t_f))), (o, .inr (4, [.ref ob, .int o_l])), (ob, .inl (cB, 13044, .inl (b8 o_f))), (h, .inr (0, [.ref d, .ref hk, .ref hs, .int h_c, .ref hu, .ref hn, .ref hg, .int h_e])), (d, .inr (4, [.ref db, .int d_l])), (db, .inl (cB, 12000, .inl (b8 d_f))), (hk, .inl (cI, 60, .inl h_k)), (hs, .inl (cI, 61, .inl h_s)), (hu, .inl (cI, 40, .inl h_u)), (hn, .inl (cJ, 40, .inr (.inl h_n))), (hg, .inl (cI, 40, .inl h_g)), (j, .inr (1, [.ref jp, .int j_c, .int j_a])), (jp, .inl (cI, 60, .inl j_p))] [(x, .inr (5, [.ref t, .ref o, .ref h, .ref j, .int x_p])), (t, .inr (4, [.ref tb, .int z.2.1])), (tb, .inl (cB, 6000, .inl (b8 z.2.2))), (o, .inr (4, [.ref ob, .int o_l])), (ob, .inl (cB, 13044, .inl (b8 o_f))), (h, .inr (0, [.ref d, .ref hk, .ref hs, .int h_c, .ref hu, .ref hn, .ref hg, .int h_e])), (d, .inr (4, [.ref db, .int d_l])), (db, .inl (cB, 12000, .inl (b8 d_f))), (hk, .inl (cI, 60, .inl h_k)), (hs, .inl (cI, 61, .inl h_s)), (hu, .inl (cI, 40, .inl h_u)), (hn, .inl (cJ, 40, .inr (.inl h_n))), (hg, .inl (cI, 40, .inl h_g)), (j, .inr (1, [.ref jp, .int j_c, .int j_a])), (jp, .inl (cI, 60, .inl j_p))] z.1 := by
  refine Ci_of (cc := cX9_back) (nL := 1) (own := RX9) (ret := (some .int)) (by decide) rfl rfl (Nat.le_of_ble_eq_true rfl) (fun X O hnm0 => ?_)
  rw [p_X9_back] at hf
  show J X 1 (JQi X [(x, .inr (5, [.ref t, .ref o, .ref h, .ref j, .int x_p])), (t, .inr (4, [.ref tb, .int z.2.1])), (tb, .inl (cB, 6000, .inl (b8 z.2.2))), (o, .inr (4, [.ref ob, .int o_l])), (ob, .inl (cB, 13044, .inl (b8 o_f))), (h, .inr (0, [.ref d, .ref hk, .ref hs, .int h_c, .ref hu, .ref hn, .ref hg, .int h_e])), (d, .inr (4, [.ref db, .int d_l])), (db, .inl (cB, 12000, .inl (b8 d_f))), (hk, .inl (cI, 60, .inl h_k)), (hs, .inl (cI, 61, .inl h_s)), (hu, .inl (cI, 40, .inl h_u)), (hn, .inl (cJ, 40, .inr (.inl h_n))), (hg, .inl (cI, 40, .inl h_g)), (j, .inr (1, [.ref jp, .int j_c, .int j_a])), (jp, .inl (cI, 60, .inl j_p))] z.1 1 3) [(x, .inr (5, [.ref t, .ref o, .ref h, .ref j, .int x_p])), (t, .inr (4, [.ref tb, .int t_l])), (tb, .inl (cB, 6000, .inl (b8 t_f))), (o, .inr (4, [.ref ob, .int o_l])), (ob, .inl (cB, 13044, .inl (b8 o_f))), (h, .inr (0, [.ref d, .ref hk, .ref hs, .int h_c, .ref hu, .ref hn, .ref hg, .int h_e])), (d, .inr (4, [.ref db, .int d_l])), (db, .inl (cB, 12000, .inl (b8 d_f))), (hk, .inl (cI, 60, .inl h_k)), (hs, .inl (cI, 61, .inl h_s)), (hu, .inl (cI, 40, .inl h_u)), (hn, .inl (cJ, 40, .inr (.inl h_n))), (hg, .inl (cI, 40, .inl h_g)), (j, .inr (1, [.ref jp, .int j_c, .int j_a])), (jp, .inl (cI, 60, .inl j_p))] 0 0 0 [(0, .ref x)] []
  refine J_aload_n O (i := 0) (k0 := 0) (pc := 0) 0 rfl rfl dX9_back_0 ?_
  refine J_get O (pc := 1) in_X9_back_X9 0 rfl rfl 1 (by decide) mb_X9_back_1 rfl dX9_back_1 ?_
  refine J_get O (pc := 4) in_X9_back_X6 3 rfl rfl 1 (by decide) mb_X9_back_3 rfl dX9_back_4 ?_
  refine J_sipush O (v := 6000) (pc := 7) (by decide) dX9_back_7 ?_
  refine J_icmp_le O (tgt := 16) (pc := 10) dX9_back_10 (by decide) (fun c10 => ?_) (fun c10 => ?_)
  · have hf := jt_t c10 hf
    refine J_aload_n O (i := 0) (k0 := 0) (pc := 16) 0 rfl rfl dX9_back_16 ?_
    refine J_get O (pc := 17) in_X9_back_X9 0 rfl rfl 0 (by decide) mb_X9_back_4 rfl dX9_back_17 ?_
    refine J_iconst O (v := 0) (pc := 20) (by decide) dX9_back_20 ?_
    obtain ⟨z21, h21, hf⟩ := jt_b hf
    refine J_callVv O (pc := 21) (c_X6_keep l D cB cI cJ t tb 6000 t_l t_f 0 h21) rfl 0 rfl rfl gX9_back_X6_keep hdV_X6_keep ⟨(Nat.le_of_ble_eq_true rfl), (Nat.le_of_ble_eq_true rfl)⟩ rfl (st := []) rfl (Nat.le_of_ble_eq_true rfl) [1, 2] [0, 3, 4, 5, 6, 7, 8, 9, 10, 11, 12, 13, 14] rfl rfl rfl rfl rfl (by decide) [(x, .inr (5, [.ref t, .ref o, .ref h, .ref j, .int x_p])), (t, .inr (4, [.ref tb, .int z21])), (tb, .inl (cB, 6000, .inl (b8 t_f))), (o, .inr (4, [.ref ob, .int o_l])), (ob, .inl (cB, 13044, .inl (b8 o_f))), (h, .inr (0, [.ref d, .ref hk, .ref hs, .int h_c, .ref hu, .ref hn, .ref hg, .int h_e])), (d, .inr (4, [.ref db, .int d_l])), (db, .inl (cB, 12000, .inl (b8 d_f))), (hk, .inl (cI, 60, .inl h_k)), (hs, .inl (cI, 61, .inl h_s)), (hu, .inl (cI, 40, .inl h_u)), (hn, .inl (cJ, 40, .inr (.inl h_n))), (hg, .inl (cI, 40, .inl h_g)), (j, .inr (1, [.ref jp, .int j_c, .int j_a])), (jp, .inl (cI, 60, .inl j_p))] [0, 13, 14, 1, 2, 3, 4, 5, 6, 7, 8, 9, 10, 11, 12] rfl rfl rfl (0) (0) (Nat.le_of_ble_eq_true rfl) (Nat.le_of_ble_eq_true rfl) ⟨(Nat.le_of_ble_eq_true rfl), (Nat.le_of_ble_eq_true rfl)⟩ dX9_back_21 ?_
    refine J_aload_n O (i := 0) (k0 := 0) (pc := 24) 0 rfl rfl dX9_back_24 ?_
    refine J_get O (pc := 25) in_X9_back_X9 0 rfl rfl 0 (by decide) mb_X9_back_4 rfl dX9_back_25 ?_
    refine J_iconst O (v := 0) (pc := 28) (by decide) dX9_back_28 ?_
    refine J_iconst O (v := 0) (pc := 29) (by decide) dX9_back_29 ?_
    refine J_aload_n O (i := 0) (k0 := 0) (pc := 30) 0 rfl rfl dX9_back_30 ?_
    refine J_get O (pc := 31) in_X9_back_X9 0 rfl rfl 1 (by decide) mb_X9_back_1 rfl dX9_back_31 ?_
    obtain ⟨z34, h34, hf⟩ := jt_b hf
    refine J_callVr O (pc := 34) (c_X6_whole l D cB cI cJ o ob 13044 o_l o_f h34) rfl 0 rfl rfl gX9_back_X6_whole hdV_X6_whole ⟨(Nat.le_of_ble_eq_true rfl), (Nat.le_of_ble_eq_true rfl)⟩ rfl (st := [.int 0, .int 0, .ref t]) rfl (Nat.le_of_ble_eq_true rfl) [3, 4] [0, 1, 2, 5, 6, 7, 8, 9, 10, 11, 12, 13, 14] rfl rfl rfl rfl rfl (by decide) (fun q34 => [(x, .inr (5, [.ref t, .ref o, .ref h, .ref j, .int x_p])), (t, .inr (4, [.ref tb, .int z21])), (tb, .inl (cB, 6000, .inl (b8 t_f))), (o, .inr (4, [.ref ob, .int o_l])), (ob, .inl (cB, 13044, .inl (b8 o_f))), (h, .inr (0, [.ref d, .ref hk, .ref hs, .int h_c, .ref hu, .ref hn, .ref hg, .int h_e])), (d, .inr (4, [.ref db, .int d_l])), (db, .inl (cB, 12000, .inl (b8 d_f))), (hk, .inl (cI, 60, .inl h_k)), (hs, .inl (cI, 61, .inl h_s)), (hu, .inl (cI, 40, .inl h_u)), (hn, .inl (cJ, 40, .inr (.inl h_n))), (hg, .inl (cI, 40, .inl h_g)), (j, .inr (1, [.ref jp, .int j_c, .int j_a])), (jp, .inl (cI, 60, .inl j_p)), (q34, .inr (2, [.ref o, .int z34.1, .int z34.2]))]) [0, 1, 2, 13, 14, 3, 4, 5, 6, 7, 8, 9, 10, 11, 12, 15] rfl (fun _ => rfl) (fun _ => rfl) (1) (3) (Nat.le_of_ble_eq_true rfl) (Nat.le_of_ble_eq_true rfl) ⟨(Nat.le_of_ble_eq_true rfl), (Nat.le_of_ble_eq_true rfl)⟩ dX9_back_34 (fun q34 => ?_)
    obtain ⟨z37, h37, hf⟩ := jt_b hf
    refine J_callVv O (pc := 37) (c_X6_spliceA l D cB cI cJ t tb q34 o ob 6000 13044 z21 t_f z34.1 z34.2 o_l o_f 0 0 h37) rfl 0 rfl rfl gX9_back_X6_splice hdV_X6_splice ⟨(Nat.le_of_ble_eq_true rfl), (Nat.le_of_ble_eq_true rfl)⟩ rfl (st := []) rfl (Nat.le_of_ble_eq_true rfl) [1, 2, 15, 3, 4] [0, 5, 6, 7, 8, 9, 10, 11, 12, 13, 14] rfl rfl rfl rfl rfl (by decide) [(x, .inr (5, [.ref t, .ref o, .ref h, .ref j, .int x_p])), (t, .inr (4, [.ref tb, .int z37.1])), (tb, .inl (cB, 6000, .inl (b8 z37.2))), (o, .inr (4, [.ref ob, .int o_l])), (ob, .inl (cB, 13044, .inl (b8 o_f))), (h, .inr (0, [.ref d, .ref hk, .ref hs, .int h_c, .ref hu, .ref hn, .ref hg, .int h_e])), (d, .inr (4, [.ref db, .int d_l])), (db, .inl (cB, 12000, .inl (b8 d_f))), (hk, .inl (cI, 60, .inl h_k)), (hs, .inl (cI, 61, .inl h_s)), (hu, .inl (cI, 40, .inl h_u)), (hn, .inl (cJ, 40, .inr (.inl h_n))), (hg, .inl (cI, 40, .inl h_g)), (j, .inr (1, [.ref jp, .int j_c, .int j_a])), (jp, .inl (cI, 60, .inl j_p)), (q34, .inr (2, [.ref o, .int z34.1, .int z34.2]))] [0, 11, 12, 14, 15, 1, 2, 3, 4, 5, 6, 7, 8, 9, 10, 13] rfl rfl rfl (1) (3) (Nat.le_of_ble_eq_true rfl) (Nat.le_of_ble_eq_true rfl) ⟨(Nat.le_of_ble_eq_true rfl), (Nat.le_of_ble_eq_true rfl)⟩ dX9_back_37 ?_
    refine J_aload_n O (i := 0) (k0 := 0) (pc := 40) 0 rfl rfl dX9_back_40 ?_
    refine J_get O (pc := 41) in_X9_back_X9 0 rfl rfl 0 (by decide) mb_X9_back_4 rfl dX9_back_41 ?_
    refine J_get O (pc := 44) in_X9_back_X6 1 rfl rfl 1 (by decide) mb_X9_back_3 rfl dX9_back_44 ?_
    have e9 := Option.some.inj hf
    subst e9
    refine J_wsub [0, 1, 2, 3, 4, 5, 6, 7, 8, 9, 10, 11, 12, 13, 14] [(x, .inr (5, [.ref t, .ref o, .ref h, .ref j, .int x_p])), (t, .inr (4, [.ref tb, .int z37.1])), (tb, .inl (cB, 6000, .inl (b8 z37.2))), (o, .inr (4, [.ref ob, .int o_l])), (ob, .inl (cB, 13044, .inl (b8 o_f))), (h, .inr (0, [.ref d, .ref hk, .ref hs, .int h_c, .ref hu, .ref hn, .ref hg, .int h_e])), (d, .inr (4, [.ref db, .int d_l])), (db, .inl (cB, 12000, .inl (b8 d_f))), (hk, .inl (cI, 60, .inl h_k)), (hs, .inl (cI, 61, .inl h_s)), (hu, .inl (cI, 40, .inl h_u)), (hn, .inl (cJ, 40, .inr (.inl h_n))), (hg, .inl (cI, 40, .inl h_g)), (j, .inr (1, [.ref jp, .int j_c, .int j_a])), (jp, .inl (cI, 60, .inl j_p))] rfl rfl rfl ?_
    exact J_iret O (pc := 47) rfl dX9_back_47
  · have hf := jt_f c10 hf
    refine J_bipush O (v := (-4)) (pc := 13) (by decide) dX9_back_13 ?_
    have e9 := Option.some.inj hf
    subst e9
    refine J_widen 1 3 (Nat.le_of_ble_eq_true rfl) (Nat.le_of_ble_eq_true rfl) ?_
    exact J_iret O (pc := 15) rfl dX9_back_15
abbrev rmX10_in : Room := { frames := 0, cells := 0, slots := 0, locals := 0 }
set_option maxHeartbeats 4000000 in
set_option maxRecDepth 100000 in
theorem c_X10_in (l : Launch) (D : va_G) (cB cI cJ : ClassId)  (a0 : Int64) (a2 : Int64) (a4 : Int64) {z : Bool} (hf : p_X10_in a0 a2 a4 = some z) : Ci (l, D, cB, cI, cJ) yX10_in wsX10_in rmX10_in [.long a0, .long a2, .long a4] [] [] (bI z) := by
  refine Ci_of (cc := cX10_in) (nL := 6) (own := RX10) (ret := (some .boolean)) (by decide) rfl rfl (Nat.le_of_ble_eq_true rfl) (fun X O hnm0 => ?_)
  rw [p_X10_in] at hf
  show J X 6 (JQi X [] (bI z) 0 0) [] 0 0 0 [(0, .long a0), (2, .long a2), (4, .long a4)] []
  refine J_lload_n O (i := 0) (k0 := 0) (pc := 0) 0 rfl rfl dX10_in_0 ?_
  refine J_lload_n O (i := 2) (k0 := 2) (pc := 1) 1 rfl rfl dX10_in_1 ?_
  refine J_lif_lt O (tgt := 17) (pc := 2) dX10_in_2 dX10_in_3 (by decide) (fun c2 => ?_) (fun c2 => ?_)
  · have hf := jt_t c2 hf
    refine J_iconst O (v := 0) (pc := 17) (by decide) dX10_in_17 ?_
    have e9 := Option.some.inj hf
    subst e9
    exact J_zret O (pc := 18) rfl dX10_in_18
  · have hf := jt_f c2 hf
    refine J_lload_n O (i := 0) (k0 := 0) (pc := 6) 0 rfl rfl dX10_in_6 ?_
    refine J_lload O (i := 4) (pc := 7) 2 rfl dX10_in_7 ?_
    refine J_lif_gt O (tgt := 17) (pc := 9) dX10_in_9 dX10_in_10 (by decide) (fun c9 => ?_) (fun c9 => ?_)
    · have hf := jt_t c9 hf
      refine J_iconst O (v := 0) (pc := 17) (by decide) dX10_in_17 ?_
      have e9 := Option.some.inj hf
      subst e9
      exact J_zret O (pc := 18) rfl dX10_in_18
    · have hf := jt_f c9 hf
      refine J_iconst O (v := 1) (pc := 13) (by decide) dX10_in_13 ?_
      refine J_goto O (tgt := 18) (pc := 14) dX10_in_14 (by decide) ?_
      have e9 := Option.some.inj hf
      subst e9
      exact J_zret O (pc := 18) rfl dX10_in_18
theorem mb_X10_isNumber_0 : Cond.constantLong RX10 42 4294967295 ∈ wsX10_isNumber := by decide +kernel
theorem hdS_X10_in : yX10_in.cls ≠ "java/lang/invoke/MethodHandle" ∧ yX10_in.cls ≠ "java/lang/invoke/VarHandle" ∧ (parseMethodDescriptor yX10_in.desc).map (fun d => d.parameters.length) = some 3 := by decide +kernel
abbrev rmX10_isNumber : Room := { frames := 1, cells := 0, slots := 0, locals := 25 }
set_option maxHeartbeats 4000000 in
set_option maxRecDepth 100000 in
theorem c_X10_isNumber (l : Launch) (D : va_G) (cB cI cJ : ClassId)  (a0 : Int64) {z : Bool} (hf : p_X10_isNumber a0 = some z) : Ci (l, D, cB, cI, cJ) yX10_isNumber wsX10_isNumber rmX10_isNumber [.long a0] [] [] (bI z) := by
  refine Ci_of (cc := cX10_isNumber) (nL := 2) (own := RX10) (ret := (some .boolean)) (by decide) rfl rfl (Nat.le_of_ble_eq_true rfl) (fun X O hnm0 => ?_)
  rw [p_X10_isNumber] at hf
  show J X 2 (JQi X [] (bI z) 0 0) [] 0 0 0 [(0, .long a0)] []
  refine J_lload_n O (i := 0) (k0 := 0) (pc := 0) 0 rfl rfl dX10_isNumber_0 ?_
  refine J_lconst O (v := 0) (pc := 1) (by decide) dX10_isNumber_1 ?_
  refine J_ldc2 O (pc := 2) mb_X10_isNumber_0 dX10_isNumber_2 ?_
  obtain ⟨z5, h5, hf⟩ := jt_b hf
  refine J_callSi O (pc := 5) (c_X10_in l D cB cI cJ a0 0 4294967295 h5) rfl gX10_isNumber_X10_in hdS_X10_in ⟨(Nat.le_of_ble_eq_true rfl), (Nat.le_of_ble_eq_true rfl)⟩ rfl (st := []) rfl (Nat.le_of_ble_eq_true rfl) [] [] rfl rfl rfl rfl rfl (by decide) [] [] rfl rfl rfl (0) (0) (Nat.le_of_ble_eq_true rfl) (Nat.le_of_ble_eq_true rfl) ⟨(Nat.le_of_ble_eq_true rfl), (Nat.le_of_ble_eq_true rfl)⟩ dX10_isNumber_5 ?_
  have e9 := Option.some.inj hf
  subst e9
  exact J_zret O (pc := 8) rfl dX10_isNumber_8
theorem mb_X10_isUse_0 : Cond.constant RX10 48 1349084020 ∈ wsX10_isUse := by decide +kernel
theorem mb_X10_isUse_1 : Cond.constant RX10 49 1399743520 ∈ wsX10_isUse := by decide +kernel
theorem mb_X10_isUse_2 : Cond.constant RX10 50 1147237473 ∈ wsX10_isUse := by decide +kernel
theorem mb_X10_isUse_3 : Cond.constant RX10 51 1165518179 ∈ wsX10_isUse := by decide +kernel
abbrev rmX10_isUse : Room := { frames := 0, cells := 0, slots := 0, locals := 0 }
set_option maxHeartbeats 4000000 in
set_option maxRecDepth 100000 in
theorem c_X10_isUse (l : Launch) (D : va_G) (cB cI cJ : ClassId)  (a0 : Int32) {z : Bool} (hf : p_X10_isUse a0 = some z) : Ci (l, D, cB, cI, cJ) yX10_isUse wsX10_isUse rmX10_isUse [.int a0] [] [] (bI z) := by
  refine Ci_of (cc := cX10_isUse) (nL := 1) (own := RX10) (ret := (some .boolean)) (by decide) rfl rfl (Nat.le_of_ble_eq_true rfl) (fun X O hnm0 => ?_)
  rw [p_X10_isUse] at hf
  show J X 1 (JQi X [] (bI z) 0 0) [] 0 0 0 [(0, .int a0)] []
  refine J_iload_n O (i := 0) (k0 := 0) (pc := 0) 0 rfl rfl dX10_isUse_0 ?_
  refine J_ldc O (pc := 1) mb_X10_isUse_0 dX10_isUse_1 ?_
  refine J_icmp_eq O (tgt := 24) (pc := 3) dX10_isUse_3 (by decide) (fun c3 => ?_) (fun c3 => ?_)
  · have hf := jt_t c3 hf
    refine J_iconst O (v := 1) (pc := 24) (by decide) dX10_isUse_24 ?_
    refine J_goto O (tgt := 29) (pc := 25) dX10_isUse_25 (by decide) ?_
    have e9 := Option.some.inj hf
    subst e9
    exact J_zret O (pc := 29) rfl dX10_isUse_29
  · have hf := jt_f c3 hf
    refine J_iload_n O (i := 0) (k0 := 0) (pc := 6) 0 rfl rfl dX10_isUse_6 ?_
    refine J_ldc O (pc := 7) mb_X10_isUse_1 dX10_isUse_7 ?_
    refine J_icmp_eq O (tgt := 24) (pc := 9) dX10_isUse_9 (by decide) (fun c9 => ?_) (fun c9 => ?_)
    · have hf := jt_t c9 hf
      refine J_iconst O (v := 1) (pc := 24) (by decide) dX10_isUse_24 ?_
      refine J_goto O (tgt := 29) (pc := 25) dX10_isUse_25 (by decide) ?_
      have e9 := Option.some.inj hf
      subst e9
      exact J_zret O (pc := 29) rfl dX10_isUse_29
    · have hf := jt_f c9 hf
      refine J_iload_n O (i := 0) (k0 := 0) (pc := 12) 0 rfl rfl dX10_isUse_12 ?_
      refine J_ldc O (pc := 13) mb_X10_isUse_2 dX10_isUse_13 ?_
      refine J_icmp_eq O (tgt := 24) (pc := 15) dX10_isUse_15 (by decide) (fun c15 => ?_) (fun c15 => ?_)
      · have hf := jt_t c15 hf
        refine J_iconst O (v := 1) (pc := 24) (by decide) dX10_isUse_24 ?_
        refine J_goto O (tgt := 29) (pc := 25) dX10_isUse_25 (by decide) ?_
        have e9 := Option.some.inj hf
        subst e9
        exact J_zret O (pc := 29) rfl dX10_isUse_29
      · have hf := jt_f c15 hf
        refine J_iload_n O (i := 0) (k0 := 0) (pc := 18) 0 rfl rfl dX10_isUse_18 ?_
        refine J_ldc O (pc := 19) mb_X10_isUse_3 dX10_isUse_19 ?_
        refine J_icmp_ne O (tgt := 28) (pc := 21) dX10_isUse_21 (by decide) (fun c21 => ?_) (fun c21 => ?_)
        · have hf := jt_f c21 hf
          refine J_iconst O (v := 0) (pc := 28) (by decide) dX10_isUse_28 ?_
          have e9 := Option.some.inj hf
          subst e9
          exact J_zret O (pc := 29) rfl dX10_isUse_29
        · have hf := jt_t c21 hf
          refine J_iconst O (v := 1) (pc := 24) (by decide) dX10_isUse_24 ?_
          refine J_goto O (tgt := 29) (pc := 25) dX10_isUse_25 (by decide) ?_
          have e9 := Option.some.inj hf
          subst e9
          exact J_zret O (pc := 29) rfl dX10_isUse_29
theorem mb_X10_isKind_0 : Cond.constantLong RX10 52 32 ∈ wsX10_isKind := by decide +kernel
theorem mb_X10_isKind_1 : Cond.constantLong RX10 54 126 ∈ wsX10_isKind := by decide +kernel
abbrev rmX10_isKind : Room := { frames := 1, cells := 0, slots := 0, locals := 25 }
set_option maxHeartbeats 4000000 in
set_option maxRecDepth 100000 in
theorem c_X10_isKind (l : Launch) (D : va_G) (cB cI cJ : ClassId)  (a0 : Int32) {z : Bool} (hf : p_X10_isKind a0 = some z) : Ci (l, D, cB, cI, cJ) yX10_isKind wsX10_isKind rmX10_isKind [.int a0] [] [] (bI z) := by
  refine Ci_of (cc := cX10_isKind) (nL := 1) (own := RX10) (ret := (some .boolean)) (by decide) rfl rfl (Nat.le_of_ble_eq_true rfl) (fun X O hnm0 => ?_)
  rw [p_X10_isKind] at hf
  show J X 1 (JQi X [] (bI z) 0 0) [] 0 0 0 [(0, .int a0)] []
  refine J_iload_n O (i := 0) (k0 := 0) (pc := 0) 0 rfl rfl dX10_isKind_0 ?_
  refine J_bipush O (v := 24) (pc := 1) (by decide) dX10_isKind_1 ?_
  refine J_ishr O (pc := 3) dX10_isKind_3 ?_
  refine J_sipush O (v := 255) (pc := 4) (by decide) dX10_isKind_4 ?_
  refine J_iand O (pc := 7) dX10_isKind_7 ?_
  refine J_i2l O (pc := 8) dX10_isKind_8 ?_
  refine J_ldc2 O (pc := 9) mb_X10_isKind_0 dX10_isKind_9 ?_
  refine J_ldc2 O (pc := 12) mb_X10_isKind_1 dX10_isKind_12 ?_
  obtain ⟨z15, h15, hf⟩ := jt_b hf
  refine J_callSi O (pc := 15) (c_X10_in l D cB cI cJ (Int32.toInt64 ((a0 >>> (24 &&& 31)) &&& 255)) 32 126 h15) rfl gX10_isKind_X10_in hdS_X10_in ⟨(Nat.le_of_ble_eq_true rfl), (Nat.le_of_ble_eq_true rfl)⟩ rfl (st := []) rfl (Nat.le_of_ble_eq_true rfl) [] [] rfl rfl rfl rfl rfl (by decide) [] [] rfl rfl rfl (0) (0) (Nat.le_of_ble_eq_true rfl) (Nat.le_of_ble_eq_true rfl) ⟨(Nat.le_of_ble_eq_true rfl), (Nat.le_of_ble_eq_true rfl)⟩ dX10_isKind_15 ?_
  refine J_zeq O (tgt := 85) (pc := 18) dX10_isKind_18 (by decide) (fun c18 => ?_) (fun c18 => ?_)
  · have hf := jt_f c18 hf
    refine J_iconst O (v := 0) (pc := 85) (by decide) dX10_isKind_85 ?_
    have e9 := Option.some.inj hf
    subst e9
    exact J_zret O (pc := 86) rfl dX10_isKind_86
  · have hf := jt_t c18 hf
    refine J_iload_n O (i := 0) (k0 := 0) (pc := 21) 0 rfl rfl dX10_isKind_21 ?_
    refine J_bipush O (v := 16) (pc := 22) (by decide) dX10_isKind_22 ?_
    refine J_ishr O (pc := 24) dX10_isKind_24 ?_
    refine J_sipush O (v := 255) (pc := 25) (by decide) dX10_isKind_25 ?_
    refine J_iand O (pc := 28) dX10_isKind_28 ?_
    refine J_i2l O (pc := 29) dX10_isKind_29 ?_
    refine J_ldc2 O (pc := 30) mb_X10_isKind_0 dX10_isKind_30 ?_
    refine J_ldc2 O (pc := 33) mb_X10_isKind_1 dX10_isKind_33 ?_
    obtain ⟨z36, h36, hf⟩ := jt_b hf
    refine J_callSi O (pc := 36) (c_X10_in l D cB cI cJ (Int32.toInt64 ((a0 >>> (16 &&& 31)) &&& 255)) 32 126 h36) rfl gX10_isKind_X10_in hdS_X10_in ⟨(Nat.le_of_ble_eq_true rfl), (Nat.le_of_ble_eq_true rfl)⟩ rfl (st := []) rfl (Nat.le_of_ble_eq_true rfl) [] [] rfl rfl rfl rfl rfl (by decide) [] [] rfl rfl rfl (0) (0) (Nat.le_of_ble_eq_true rfl) (Nat.le_of_ble_eq_true rfl) ⟨(Nat.le_of_ble_eq_true rfl), (Nat.le_of_ble_eq_true rfl)⟩ dX10_isKind_36 ?_
    refine J_zeq O (tgt := 85) (pc := 39) dX10_isKind_39 (by decide) (fun c39 => ?_) (fun c39 => ?_)
    · have hf := jt_f c39 hf
      refine J_iconst O (v := 0) (pc := 85) (by decide) dX10_isKind_85 ?_
      have e9 := Option.some.inj hf
      subst e9
      exact J_zret O (pc := 86) rfl dX10_isKind_86
    · have hf := jt_t c39 hf
      refine J_iload_n O (i := 0) (k0 := 0) (pc := 42) 0 rfl rfl dX10_isKind_42 ?_
      refine J_bipush O (v := 8) (pc := 43) (by decide) dX10_isKind_43 ?_
      refine J_ishr O (pc := 45) dX10_isKind_45 ?_
      refine J_sipush O (v := 255) (pc := 46) (by decide) dX10_isKind_46 ?_
      refine J_iand O (pc := 49) dX10_isKind_49 ?_
      refine J_i2l O (pc := 50) dX10_isKind_50 ?_
      refine J_ldc2 O (pc := 51) mb_X10_isKind_0 dX10_isKind_51 ?_
      refine J_ldc2 O (pc := 54) mb_X10_isKind_1 dX10_isKind_54 ?_
      obtain ⟨z57, h57, hf⟩ := jt_b hf
      refine J_callSi O (pc := 57) (c_X10_in l D cB cI cJ (Int32.toInt64 ((a0 >>> (8 &&& 31)) &&& 255)) 32 126 h57) rfl gX10_isKind_X10_in hdS_X10_in ⟨(Nat.le_of_ble_eq_true rfl), (Nat.le_of_ble_eq_true rfl)⟩ rfl (st := []) rfl (Nat.le_of_ble_eq_true rfl) [] [] rfl rfl rfl rfl rfl (by decide) [] [] rfl rfl rfl (0) (0) (Nat.le_of_ble_eq_true rfl) (Nat.le_of_ble_eq_true rfl) ⟨(Nat.le_of_ble_eq_true rfl), (Nat.le_of_ble_eq_true rfl)⟩ dX10_isKind_57 ?_
      refine J_zeq O (tgt := 85) (pc := 60) dX10_isKind_60 (by decide) (fun c60 => ?_) (fun c60 => ?_)
      · have hf := jt_f c60 hf
        refine J_iconst O (v := 0) (pc := 85) (by decide) dX10_isKind_85 ?_
        have e9 := Option.some.inj hf
        subst e9
        exact J_zret O (pc := 86) rfl dX10_isKind_86
      · have hf := jt_t c60 hf
        refine J_iload_n O (i := 0) (k0 := 0) (pc := 63) 0 rfl rfl dX10_isKind_63 ?_
        refine J_sipush O (v := 255) (pc := 64) (by decide) dX10_isKind_64 ?_
        refine J_iand O (pc := 67) dX10_isKind_67 ?_
        refine J_i2l O (pc := 68) dX10_isKind_68 ?_
        refine J_ldc2 O (pc := 69) mb_X10_isKind_0 dX10_isKind_69 ?_
        refine J_ldc2 O (pc := 72) mb_X10_isKind_1 dX10_isKind_72 ?_
        obtain ⟨z75, h75, hf⟩ := jt_b hf
        refine J_callSi O (pc := 75) (c_X10_in l D cB cI cJ (Int32.toInt64 (a0 &&& 255)) 32 126 h75) rfl gX10_isKind_X10_in hdS_X10_in ⟨(Nat.le_of_ble_eq_true rfl), (Nat.le_of_ble_eq_true rfl)⟩ rfl (st := []) rfl (Nat.le_of_ble_eq_true rfl) [] [] rfl rfl rfl rfl rfl (by decide) [] [] rfl rfl rfl (0) (0) (Nat.le_of_ble_eq_true rfl) (Nat.le_of_ble_eq_true rfl) ⟨(Nat.le_of_ble_eq_true rfl), (Nat.le_of_ble_eq_true rfl)⟩ dX10_isKind_75 ?_
        refine J_zeq O (tgt := 85) (pc := 78) dX10_isKind_78 (by decide) (fun c78 => ?_) (fun c78 => ?_)
        · have hf := jt_f c78 hf
          refine J_iconst O (v := 0) (pc := 85) (by decide) dX10_isKind_85 ?_
          have e9 := Option.some.inj hf
          subst e9
          exact J_zret O (pc := 86) rfl dX10_isKind_86
        · have hf := jt_t c78 hf
          refine J_iconst O (v := 1) (pc := 81) (by decide) dX10_isKind_81 ?_
          refine J_goto O (tgt := 86) (pc := 82) dX10_isKind_82 (by decide) ?_
          have e9 := Option.some.inj hf
          subst e9
          exact J_zret O (pc := 86) rfl dX10_isKind_86
abbrev rmX10_kindIn : Room := { frames := 0, cells := 0, slots := 0, locals := 0 }
set_option maxHeartbeats 4000000 in
set_option maxRecDepth 100000 in
theorem c_X10_kindIn (l : Launch) (D : va_G) (cB cI cJ : ClassId) (p p_n : Nat) (p_f : Nat → Int32) (a1 : Int32) {z : Int32} (hf : p_X10_kindIn p_n p_f a1 = some z) : Ci (l, D, cB, cI, cJ) yX10_kindIn wsX10_kindIn rmX10_kindIn [.ref p, .int a1] [(p, .inl (cI, p_n, .inl p_f))] [(p, .inl (cI, p_n, .inl p_f))] z := by
  refine Ci_of (cc := cX10_kindIn) (nL := 2) (own := RX10) (ret := (some .int)) (by decide) rfl rfl (Nat.le_of_ble_eq_true rfl) (fun X O hnm0 => ?_)
  rw [p_X10_kindIn] at hf
  show J X 2 (JQi X [(p, .inl (cI, p_n, .inl p_f))] z 0 0) [(p, .inl (cI, p_n, .inl p_f))] 0 0 0 [(0, .ref p), (1, .int a1)] []
  refine J_aload_n O (i := 0) (k0 := 0) (pc := 0) 0 rfl rfl dX10_kindIn_0 ?_
  refine J_iload_n O (i := 1) (k0 := 1) (pc := 1) 1 rfl rfl dX10_kindIn_1 ?_
  obtain ⟨h2, hf⟩ := jt_g hf
  refine J_iald O (pc := 2) 0 1 rfl rfl h2 dX10_kindIn_2 ?_
  refine J_bipush O (v := 24) (pc := 3) (by decide) dX10_kindIn_3 ?_
  refine J_ishl O (pc := 5) dX10_kindIn_5 ?_
  refine J_aload_n O (i := 0) (k0 := 0) (pc := 6) 0 rfl rfl dX10_kindIn_6 ?_
  refine J_iload_n O (i := 1) (k0 := 1) (pc := 7) 1 rfl rfl dX10_kindIn_7 ?_
  refine J_iconst O (v := 1) (pc := 8) (by decide) dX10_kindIn_8 ?_
  refine J_iadd O (pc := 9) dX10_kindIn_9 ?_
  obtain ⟨h10, hf⟩ := jt_g hf
  refine J_iald O (pc := 10) 0 1 rfl rfl h10 dX10_kindIn_10 ?_
  refine J_bipush O (v := 16) (pc := 11) (by decide) dX10_kindIn_11 ?_
  refine J_ishl O (pc := 13) dX10_kindIn_13 ?_
  refine J_ior O (pc := 14) dX10_kindIn_14 ?_
  refine J_aload_n O (i := 0) (k0 := 0) (pc := 15) 0 rfl rfl dX10_kindIn_15 ?_
  refine J_iload_n O (i := 1) (k0 := 1) (pc := 16) 1 rfl rfl dX10_kindIn_16 ?_
  refine J_iconst O (v := 2) (pc := 17) (by decide) dX10_kindIn_17 ?_
  refine J_iadd O (pc := 18) dX10_kindIn_18 ?_
  obtain ⟨h19, hf⟩ := jt_g hf
  refine J_iald O (pc := 19) 0 1 rfl rfl h19 dX10_kindIn_19 ?_
  refine J_bipush O (v := 8) (pc := 20) (by decide) dX10_kindIn_20 ?_
  refine J_ishl O (pc := 22) dX10_kindIn_22 ?_
  refine J_ior O (pc := 23) dX10_kindIn_23 ?_
  refine J_aload_n O (i := 0) (k0 := 0) (pc := 24) 0 rfl rfl dX10_kindIn_24 ?_
  refine J_iload_n O (i := 1) (k0 := 1) (pc := 25) 1 rfl rfl dX10_kindIn_25 ?_
  refine J_iconst O (v := 3) (pc := 26) (by decide) dX10_kindIn_26 ?_
  refine J_iadd O (pc := 27) dX10_kindIn_27 ?_
  obtain ⟨h28, hf⟩ := jt_g hf
  refine J_iald O (pc := 28) 0 1 rfl rfl h28 dX10_kindIn_28 ?_
  refine J_ior O (pc := 29) dX10_kindIn_29 ?_
  have e9 := Option.some.inj hf
  subst e9
  exact J_iret O (pc := 30) rfl dX10_kindIn_30
theorem hdS_X10_kindIn : yX10_kindIn.cls ≠ "java/lang/invoke/MethodHandle" ∧ yX10_kindIn.cls ≠ "java/lang/invoke/VarHandle" ∧ (parseMethodDescriptor yX10_kindIn.desc).map (fun d => d.parameters.length) = some 2 := by decide +kernel
theorem mb_X10_four_0 : Cond.constantLong RX10 42 4294967295 ∈ wsX10_four := by decide +kernel
abbrev rmX10_four : Room := { frames := 1, cells := 0, slots := 0, locals := 21 }
set_option maxHeartbeats 4000000 in
set_option maxRecDepth 100000 in
theorem c_X10_four (l : Launch) (D : va_G) (cB cI cJ : ClassId) (p p_n : Nat) (p_f : Nat → Int32) (a1 : Int32) {z : Int64} (hf : p_X10_four p_n p_f a1 = some z) : Cl (l, D, cB, cI, cJ) yX10_four wsX10_four rmX10_four [.ref p, .int a1] [(p, .inl (cI, p_n, .inl p_f))] [(p, .inl (cI, p_n, .inl p_f))] z := by
  refine Cl_of (cc := cX10_four) (nL := 2) (own := RX10) (ret := (some .long)) (by decide) rfl rfl (Nat.le_of_ble_eq_true rfl) (fun X O hnm0 => ?_)
  rw [p_X10_four] at hf
  show J X 2 (JQl X [(p, .inl (cI, p_n, .inl p_f))] z 0 0) [(p, .inl (cI, p_n, .inl p_f))] 0 0 0 [(0, .ref p), (1, .int a1)] []
  refine J_aload_n O (i := 0) (k0 := 0) (pc := 0) 0 rfl rfl dX10_four_0 ?_
  refine J_iload_n O (i := 1) (k0 := 1) (pc := 1) 1 rfl rfl dX10_four_1 ?_
  obtain ⟨z2, h2, hf⟩ := jt_b hf
  refine J_callSi O (pc := 2) (c_X10_kindIn l D cB cI cJ p p_n p_f a1 h2) rfl gX10_four_X10_kindIn hdS_X10_kindIn ⟨(Nat.le_of_ble_eq_true rfl), (Nat.le_of_ble_eq_true rfl)⟩ rfl (st := []) rfl (Nat.le_of_ble_eq_true rfl) [0] [] rfl rfl rfl rfl rfl (by decide) [(p, .inl (cI, p_n, .inl p_f))] [0] rfl rfl rfl (0) (0) (Nat.le_of_ble_eq_true rfl) (Nat.le_of_ble_eq_true rfl) ⟨(Nat.le_of_ble_eq_true rfl), (Nat.le_of_ble_eq_true rfl)⟩ dX10_four_2 ?_
  refine J_i2l O (pc := 5) dX10_four_5 ?_
  refine J_ldc2 O (pc := 6) mb_X10_four_0 dX10_four_6 ?_
  refine J_land O (pc := 9) dX10_four_9 ?_
  have e9 := Option.some.inj hf
  subst e9
  exact J_lret O (pc := 10) rfl dX10_four_10
