theorem in_X0_lengthOf_X0 : ∀ w ∈ u_ws RX0 TX0 8, w ∈ wsX0_lengthOf := fun _ h => List.mem_cons_of_mem _ (List.mem_append_right _ h)
theorem mb_X0_lengthOf_1 : Cond.fieldLink RX0 24 (TX0 2).1 (TX0 2).2.1 (TX0 2).2.2.1 ∈ wsX0_lengthOf := by decide +kernel
abbrev rmX0_lengthOf : Room := { frames := 1, cells := 0, slots := 0, locals := 21 }
set_option maxHeartbeats 4000000 in
set_option maxRecDepth 100000 in
theorem c_X0_lengthOf (l : Launch) (D : va_G) (cB cI cJ : ClassId) (h d db hk hs hu hn hg : Nat) (h_c : Int32) (h_e : Int32) (d_l : Int32) (d_f : Nat → Int8) (h_k : Nat → Int32) (h_s : Nat → Int32) (h_u : Nat → Int32) (h_n : Nat → Int64) (h_g : Nat → Int32) (a1 : Int32) {z : Int32} (hf : p_X0_lengthOf h_c h_s a1 = some z) : Ci (l, D, cB, cI, cJ) yX0_lengthOf wsX0_lengthOf rmX0_lengthOf [.ref h, .int a1] [(h, .inr (0, [.ref d, .ref hk, .ref hs, .int h_c, .ref hu, .ref hn, .ref hg, .int h_e])), (d, .inr (4, [.ref db, .int d_l])), (db, .inl (cB, 12000, .inl (b8 d_f))), (hk, .inl (cI, 60, .inl h_k)), (hs, .inl (cI, 61, .inl h_s)), (hu, .inl (cI, 40, .inl h_u)), (hn, .inl (cJ, 40, .inr (.inl h_n))), (hg, .inl (cI, 40, .inl h_g))] [(h, .inr (0, [.ref d, .ref hk, .ref hs, .int h_c, .ref hu, .ref hn, .ref hg, .int h_e])), (d, .inr (4, [.ref db, .int d_l])), (db, .inl (cB, 12000, .inl (b8 d_f))), (hk, .inl (cI, 60, .inl h_k)), (hs, .inl (cI, 61, .inl h_s)), (hu, .inl (cI, 40, .inl h_u)), (hn, .inl (cJ, 40, .inr (.inl h_n))), (hg, .inl (cI, 40, .inl h_g))] z := by
  refine Ci_of (cc := cX0_lengthOf) (nL := 2) (own := RX0) (ret := (some .int)) (by decide) rfl rfl (Nat.le_of_ble_eq_true rfl) (fun X O hnm0 => ?_)
  rw [p_X0_lengthOf] at hf
  show J X 2 (JQi X [(h, .inr (0, [.ref d, .ref hk, .ref hs, .int h_c, .ref hu, .ref hn, .ref hg, .int h_e])), (d, .inr (4, [.ref db, .int d_l])), (db, .inl (cB, 12000, .inl (b8 d_f))), (hk, .inl (cI, 60, .inl h_k)), (hs, .inl (cI, 61, .inl h_s)), (hu, .inl (cI, 40, .inl h_u)), (hn, .inl (cJ, 40, .inr (.inl h_n))), (hg, .inl (cI, 40, .inl h_g))] z 0 0) [(h, .inr (0, [.ref d, .ref hk, .ref hs, .int h_c, .ref hu, .ref hn, .ref hg, .int h_e])), (d, .inr (4, [.ref db, .int d_l])), (db, .inl (cB, 12000, .inl (b8 d_f))), (hk, .inl (cI, 60, .inl h_k)), (hs, .inl (cI, 61, .inl h_s)), (hu, .inl (cI, 40, .inl h_u)), (hn, .inl (cJ, 40, .inr (.inl h_n))), (hg, .inl (cI, 40, .inl h_g))] 0 0 0 [(0, .ref h), (1, .int a1)] []
  refine J_aload_n O (i := 0) (k0 := 0) (pc := 0) 0 rfl rfl dX0_lengthOf_0 ?_
  refine J_iload_n O (i := 1) (k0 := 1) (pc := 1) 1 rfl rfl dX0_lengthOf_1 ?_
  obtain ⟨z2, h2, hf⟩ := jt_b hf
  refine J_callVi O (pc := 2) (c_X0_hasChunk l D cB cI cJ h d db hk hs hu hn hg h_c h_e d_l d_f h_k h_s h_u h_n h_g a1 h2) rfl 0 rfl rfl gX0_lengthOf_X0_hasChunk hdV_X0_hasChunk ⟨(Nat.le_of_ble_eq_true rfl), (Nat.le_of_ble_eq_true rfl)⟩ rfl (st := []) rfl (Nat.le_of_ble_eq_true rfl) [0, 1, 2, 3, 4, 5, 6, 7] [] rfl rfl rfl rfl rfl (by decide) [(h, .inr (0, [.ref d, .ref hk, .ref hs, .int h_c, .ref hu, .ref hn, .ref hg, .int h_e])), (d, .inr (4, [.ref db, .int d_l])), (db, .inl (cB, 12000, .inl (b8 d_f))), (hk, .inl (cI, 60, .inl h_k)), (hs, .inl (cI, 61, .inl h_s)), (hu, .inl (cI, 40, .inl h_u)), (hn, .inl (cJ, 40, .inr (.inl h_n))), (hg, .inl (cI, 40, .inl h_g))] [0, 1, 2, 3, 4, 5, 6, 7] rfl rfl rfl (0) (0) (Nat.le_of_ble_eq_true rfl) (Nat.le_of_ble_eq_true rfl) ⟨(Nat.le_of_ble_eq_true rfl), (Nat.le_of_ble_eq_true rfl)⟩ dX0_lengthOf_2 ?_
  refine J_zeq O (tgt := 26) (pc := 5) dX0_lengthOf_5 (by decide) (fun c5 => ?_) (fun c5 => ?_)
  · have hf := jt_f c5 hf
    refine J_iconst O (v := 0) (pc := 26) (by decide) dX0_lengthOf_26 ?_
    cases hf
    exact J_iret O (pc := 27) rfl dX0_lengthOf_27
  · have hf := jt_t c5 hf
    refine J_aload_n O (i := 0) (k0 := 0) (pc := 8) 0 rfl rfl dX0_lengthOf_8 ?_
    refine J_get O (pc := 9) in_X0_lengthOf_X0 0 rfl rfl 2 (by decide) mb_X0_lengthOf_1 rfl dX0_lengthOf_9 ?_
    refine J_iload_n O (i := 1) (k0 := 1) (pc := 12) 1 rfl rfl dX0_lengthOf_12 ?_
    refine J_iconst O (v := 1) (pc := 13) (by decide) dX0_lengthOf_13 ?_
    refine J_iadd O (pc := 14) dX0_lengthOf_14 ?_
    obtain ⟨h15, hf⟩ := jt_g hf
    refine J_iald O (pc := 15) 4 1 rfl rfl h15 dX0_lengthOf_15 ?_
    refine J_aload_n O (i := 0) (k0 := 0) (pc := 16) 0 rfl rfl dX0_lengthOf_16 ?_
    refine J_get O (pc := 17) in_X0_lengthOf_X0 0 rfl rfl 2 (by decide) mb_X0_lengthOf_1 rfl dX0_lengthOf_17 ?_
    refine J_iload_n O (i := 1) (k0 := 1) (pc := 20) 1 rfl rfl dX0_lengthOf_20 ?_
    obtain ⟨h21, hf⟩ := jt_g hf
    refine J_iald O (pc := 21) 4 1 rfl rfl h21 dX0_lengthOf_21 ?_
    refine J_isub O (pc := 22) dX0_lengthOf_22 ?_
    refine J_goto O (tgt := 27) (pc := 23) dX0_lengthOf_23 (by decide) ?_
    cases hf
    exact J_iret O (pc := 27) rfl dX0_lengthOf_27
theorem in_X0_dataOf_X3 : ∀ w ∈ u_ws RX3 TX3 3, w ∈ wsX0_dataOf := fun _ h => List.mem_cons_of_mem _ (List.mem_append_left _ (List.mem_append_left _ (List.mem_append_right _ h)))
theorem mb_X0_dataOf_1 : Cond.classLink RX0 55 RX3 ∈ wsX0_dataOf := by decide +kernel
theorem mb_X0_dataOf_2 : Cond.instantiable RX3 3 ∈ wsX0_dataOf := by decide +kernel
theorem mb_X0_dataOf_3 : Cond.initialized RX3 ∈ wsX0_dataOf := by decide +kernel
theorem in_X0_dataOf_X0 : ∀ w ∈ u_ws RX0 TX0 8, w ∈ wsX0_dataOf := fun _ h => List.mem_cons_of_mem _ (List.mem_append_left _ (List.mem_append_right _ h))
theorem mb_X0_dataOf_5 : Cond.fieldLink RX0 14 (TX0 0).1 (TX0 0).2.1 (TX0 0).2.2.1 ∈ wsX0_dataOf := by decide +kernel
theorem hdV_X0_lengthOf : yX0_lengthOf.cls = RX0 ∧ yX0_lengthOf.cls ≠ "java/lang/invoke/MethodHandle" ∧ yX0_lengthOf.cls ≠ "java/lang/invoke/VarHandle" ∧ (parseMethodDescriptor yX0_lengthOf.desc).map (fun d => d.parameters.length) = some 1 := by decide +kernel
theorem mb_X0_dataOf_6 : Cond.initialized yX3_init.cls ∈ wsX0_dataOf := by decide +kernel
theorem mb_X0_dataOf_7 : Cond.methodLink RX0 61 yX3_init ∈ wsX0_dataOf := by decide +kernel
theorem mb_X0_dataOf_8 : Cond.instanceMethod yX3_init ∈ wsX0_dataOf := by decide +kernel
theorem mb_X0_dataOf_9 : Cond.fieldLink RX0 24 (TX0 2).1 (TX0 2).2.1 (TX0 2).2.2.1 ∈ wsX0_dataOf := by decide +kernel
abbrev rmX0_dataOf : Room := { frames := 2, cells := 1, slots := 3, locals := 44 }
set_option maxHeartbeats 4000000 in
set_option maxRecDepth 100000 in
theorem c_X0_dataOf (l : Launch) (D : va_G) (cB cI cJ : ClassId) (h d db hk hs hu hn hg : Nat) (h_c : Int32) (h_e : Int32) (d_l : Int32) (d_f : Nat → Int8) (h_k : Nat → Int32) (h_s : Nat → Int32) (h_u : Nat → Int32) (h_n : Nat → Int64) (h_g : Nat → Int32) (a1 : Int32) {z : Int32 × Int32} (hf : p_X0_dataOf h_c d_l h_s a1 = some z) : Cr (l, D, cB, cI, cJ) yX0_dataOf wsX0_dataOf rmX0_dataOf [.ref h, .int a1] [(h, .inr (0, [.ref d, .ref hk, .ref hs, .int h_c, .ref hu, .ref hn, .ref hg, .int h_e])), (d, .inr (4, [.ref db, .int d_l])), (db, .inl (cB, 12000, .inl (b8 d_f))), (hk, .inl (cI, 60, .inl h_k)), (hs, .inl (cI, 61, .inl h_s)), (hu, .inl (cI, 40, .inl h_u)), (hn, .inl (cJ, 40, .inr (.inl h_n))), (hg, .inl (cI, 40, .inl h_g))] (fun a => [(h, .inr (0, [.ref d, .ref hk, .ref hs, .int h_c, .ref hu, .ref hn, .ref hg, .int h_e])), (d, .inr (4, [.ref db, .int d_l])), (db, .inl (cB, 12000, .inl (b8 d_f))), (hk, .inl (cI, 60, .inl h_k)), (hs, .inl (cI, 61, .inl h_s)), (hu, .inl (cI, 40, .inl h_u)), (hn, .inl (cJ, 40, .inr (.inl h_n))), (hg, .inl (cI, 40, .inl h_g)), (a, .inr (2, [.ref d, .int z.1, .int z.2]))]) := by
  refine Cr_of (cc := cX0_dataOf) (nL := 2) (own := RX0) (ret := (some (.object "BlorbRows$Part"))) (by decide) rfl rfl (Nat.le_of_ble_eq_true rfl) (fun X O hnm0 => ?_)
  rw [p_X0_dataOf] at hf
  show J X 2 (JQr X (fun a => [(h, .inr (0, [.ref d, .ref hk, .ref hs, .int h_c, .ref hu, .ref hn, .ref hg, .int h_e])), (d, .inr (4, [.ref db, .int d_l])), (db, .inl (cB, 12000, .inl (b8 d_f))), (hk, .inl (cI, 60, .inl h_k)), (hs, .inl (cI, 61, .inl h_s)), (hu, .inl (cI, 40, .inl h_u)), (hn, .inl (cJ, 40, .inr (.inl h_n))), (hg, .inl (cI, 40, .inl h_g)), (a, .inr (2, [.ref d, .int z.1, .int z.2]))]) 1 3) [(h, .inr (0, [.ref d, .ref hk, .ref hs, .int h_c, .ref hu, .ref hn, .ref hg, .int h_e])), (d, .inr (4, [.ref db, .int d_l])), (db, .inl (cB, 12000, .inl (b8 d_f))), (hk, .inl (cI, 60, .inl h_k)), (hs, .inl (cI, 61, .inl h_s)), (hu, .inl (cI, 40, .inl h_u)), (hn, .inl (cJ, 40, .inr (.inl h_n))), (hg, .inl (cI, 40, .inl h_g))] 0 0 0 [(0, .ref h), (1, .int a1)] []
  refine J_new O (pc := 0) in_X0_dataOf_X3 tyX3 tyX3_ok mb_X0_dataOf_1 mb_X0_dataOf_2 mb_X0_dataOf_3 rfl [.null, .int 0, .int 0] fs_X3 (Nat.le_of_ble_eq_true rfl) (Nat.le_of_ble_eq_true rfl) (fun q0 => [(h, .inr (0, [.ref d, .ref hk, .ref hs, .int h_c, .ref hu, .ref hn, .ref hg, .int h_e])), (d, .inr (4, [.ref db, .int d_l])), (db, .inl (cB, 12000, .inl (b8 d_f))), (hk, .inl (cI, 60, .inl h_k)), (hs, .inl (cI, 61, .inl h_s)), (hu, .inl (cI, 40, .inl h_u)), (hn, .inl (cJ, 40, .inr (.inl h_n))), (hg, .inl (cI, 40, .inl h_g)), (q0, .inr (2, [.null, .int 0, .int 0]))]) (fun _ => rfl) (1) (3) rfl rfl dX0_dataOf_0 (fun q0 => ?_)
  refine J_dup O (pc := 3) rfl dX0_dataOf_3 ?_
  refine J_aload_n O (i := 0) (k0 := 0) (pc := 4) 0 rfl rfl dX0_dataOf_4 ?_
  refine J_get O (pc := 5) in_X0_dataOf_X0 0 rfl rfl 0 (by decide) mb_X0_dataOf_5 rfl dX0_dataOf_5 ?_
  refine J_aload_n O (i := 0) (k0 := 0) (pc := 8) 0 rfl rfl dX0_dataOf_8 ?_
  refine J_iload_n O (i := 1) (k0 := 1) (pc := 9) 1 rfl rfl dX0_dataOf_9 ?_
  obtain ⟨z10, h10, hf⟩ := jt_b hf
  refine J_callVi O (pc := 10) (c_X0_hasChunk l D cB cI cJ h d db hk hs hu hn hg h_c h_e d_l d_f h_k h_s h_u h_n h_g a1 h10) rfl 0 rfl rfl gX0_dataOf_X0_hasChunk hdV_X0_hasChunk ⟨(Nat.le_of_ble_eq_true rfl), (Nat.le_of_ble_eq_true rfl)⟩ rfl (st := [.ref d, .ref q0, .ref q0]) rfl (Nat.le_of_ble_eq_true rfl) [0, 1, 2, 3, 4, 5, 6, 7] [8] rfl rfl rfl rfl rfl (by decide) [(h, .inr (0, [.ref d, .ref hk, .ref hs, .int h_c, .ref hu, .ref hn, .ref hg, .int h_e])), (d, .inr (4, [.ref db, .int d_l])), (db, .inl (cB, 12000, .inl (b8 d_f))), (hk, .inl (cI, 60, .inl h_k)), (hs, .inl (cI, 61, .inl h_s)), (hu, .inl (cI, 40, .inl h_u)), (hn, .inl (cJ, 40, .inr (.inl h_n))), (hg, .inl (cI, 40, .inl h_g)), (q0, .inr (2, [.null, .int 0, .int 0]))] [1, 2, 3, 4, 5, 6, 7, 8, 0] rfl rfl rfl (1) (3) (Nat.le_of_ble_eq_true rfl) (Nat.le_of_ble_eq_true rfl) ⟨(Nat.le_of_ble_eq_true rfl), (Nat.le_of_ble_eq_true rfl)⟩ dX0_dataOf_10 ?_
  refine J_zeq O (tgt := 25) (pc := 13) dX0_dataOf_13 (by decide) (fun c13 => ?_) (fun c13 => ?_)
  · have hf := jt_f c13 hf
    refine J_iconst O (v := 0) (pc := 25) (by decide) dX0_dataOf_25 ?_
    refine J_aload_n O (i := 0) (k0 := 0) (pc := 26) 0 rfl rfl dX0_dataOf_26 ?_
    refine J_iload_n O (i := 1) (k0 := 1) (pc := 27) 1 rfl rfl dX0_dataOf_27 ?_
    obtain ⟨z28, h28, hf⟩ := jt_b hf
    refine J_callVi O (pc := 28) (c_X0_lengthOf l D cB cI cJ h d db hk hs hu hn hg h_c h_e d_l d_f h_k h_s h_u h_n h_g a1 h28) rfl 0 rfl rfl gX0_dataOf_X0_lengthOf hdV_X0_lengthOf ⟨(Nat.le_of_ble_eq_true rfl), (Nat.le_of_ble_eq_true rfl)⟩ rfl (st := [.int 0, .ref d, .ref q0, .ref q0]) rfl (Nat.le_of_ble_eq_true rfl) [0, 1, 2, 3, 4, 5, 6, 7] [8] rfl rfl rfl rfl rfl (by decide) [(h, .inr (0, [.ref d, .ref hk, .ref hs, .int h_c, .ref hu, .ref hn, .ref hg, .int h_e])), (d, .inr (4, [.ref db, .int d_l])), (db, .inl (cB, 12000, .inl (b8 d_f))), (hk, .inl (cI, 60, .inl h_k)), (hs, .inl (cI, 61, .inl h_s)), (hu, .inl (cI, 40, .inl h_u)), (hn, .inl (cJ, 40, .inr (.inl h_n))), (hg, .inl (cI, 40, .inl h_g)), (q0, .inr (2, [.null, .int 0, .int 0]))] [1, 2, 3, 4, 5, 6, 7, 8, 0] rfl rfl rfl (1) (3) (Nat.le_of_ble_eq_true rfl) (Nat.le_of_ble_eq_true rfl) ⟨(Nat.le_of_ble_eq_true rfl), (Nat.le_of_ble_eq_true rfl)⟩ dX0_dataOf_28 ?_
    obtain ⟨z31, h31, hf⟩ := jt_b hf
    refine J_callIv O (pc := 31) (ret' := none) (c_X3_init l D cB cI cJ q0 d db 12000 d_l d_f 0 z28 h31) rfl gX0_dataOf_X3_init mb_X0_dataOf_6 mb_X0_dataOf_7 mb_X0_dataOf_8 rfl hdS_X3_init ⟨(Nat.le_of_ble_eq_true rfl), (Nat.le_of_ble_eq_true rfl)⟩ rfl (st := [.ref q0]) rfl (Nat.le_of_ble_eq_true rfl) [8, 1, 2] [0, 3, 4, 5, 6, 7] rfl rfl rfl rfl rfl (by decide) [(h, .inr (0, [.ref d, .ref hk, .ref hs, .int h_c, .ref hu, .ref hn, .ref hg, .int h_e])), (d, .inr (4, [.ref db, .int d_l])), (db, .inl (cB, 12000, .inl (b8 d_f))), (hk, .inl (cI, 60, .inl h_k)), (hs, .inl (cI, 61, .inl h_s)), (hu, .inl (cI, 40, .inl h_u)), (hn, .inl (cJ, 40, .inr (.inl h_n))), (hg, .inl (cI, 40, .inl h_g)), (q0, .inr (2, [.ref d, .int z31.1, .int z31.2]))] [0, 7, 8, 1, 2, 3, 4, 5, 6] rfl rfl rfl (1) (3) (Nat.le_of_ble_eq_true rfl) (Nat.le_of_ble_eq_true rfl) ⟨(Nat.le_of_ble_eq_true rfl), (Nat.le_of_ble_eq_true rfl)⟩ dX0_dataOf_31 ?_
    cases hf
    exact J_aret O (pc := 34) _ rfl dX0_dataOf_34
  · have hf := jt_t c13 hf
    refine J_aload_n O (i := 0) (k0 := 0) (pc := 16) 0 rfl rfl dX0_dataOf_16 ?_
    refine J_get O (pc := 17) in_X0_dataOf_X0 0 rfl rfl 2 (by decide) mb_X0_dataOf_9 rfl dX0_dataOf_17 ?_
    refine J_iload_n O (i := 1) (k0 := 1) (pc := 20) 1 rfl rfl dX0_dataOf_20 ?_
    obtain ⟨h21, hf⟩ := jt_g hf
    refine J_iald O (pc := 21) 4 1 rfl rfl h21 dX0_dataOf_21 ?_
    refine J_goto O (tgt := 26) (pc := 22) dX0_dataOf_22 (by decide) ?_
    refine J_aload_n O (i := 0) (k0 := 0) (pc := 26) 0 rfl rfl dX0_dataOf_26 ?_
    refine J_iload_n O (i := 1) (k0 := 1) (pc := 27) 1 rfl rfl dX0_dataOf_27 ?_
    obtain ⟨z28, h28, hf⟩ := jt_b hf
    refine J_callVi O (pc := 28) (c_X0_lengthOf l D cB cI cJ h d db hk hs hu hn hg h_c h_e d_l d_f h_k h_s h_u h_n h_g a1 h28) rfl 0 rfl rfl gX0_dataOf_X0_lengthOf hdV_X0_lengthOf ⟨(Nat.le_of_ble_eq_true rfl), (Nat.le_of_ble_eq_true rfl)⟩ rfl (st := [.int (h_s (Int32.toNatClampNeg a1)), .ref d, .ref q0, .ref q0]) rfl (Nat.le_of_ble_eq_true rfl) [0, 1, 2, 3, 4, 5, 6, 7] [8] rfl rfl rfl rfl rfl (by decide) [(h, .inr (0, [.ref d, .ref hk, .ref hs, .int h_c, .ref hu, .ref hn, .ref hg, .int h_e])), (d, .inr (4, [.ref db, .int d_l])), (db, .inl (cB, 12000, .inl (b8 d_f))), (hk, .inl (cI, 60, .inl h_k)), (hs, .inl (cI, 61, .inl h_s)), (hu, .inl (cI, 40, .inl h_u)), (hn, .inl (cJ, 40, .inr (.inl h_n))), (hg, .inl (cI, 40, .inl h_g)), (q0, .inr (2, [.null, .int 0, .int 0]))] [1, 2, 3, 4, 5, 6, 7, 8, 0] rfl rfl rfl (1) (3) (Nat.le_of_ble_eq_true rfl) (Nat.le_of_ble_eq_true rfl) ⟨(Nat.le_of_ble_eq_true rfl), (Nat.le_of_ble_eq_true rfl)⟩ dX0_dataOf_28 ?_
    obtain ⟨z31, h31, hf⟩ := jt_b hf
    refine J_callIv O (pc := 31) (ret' := none) (c_X3_init l D cB cI cJ q0 d db 12000 d_l d_f (h_s (Int32.toNatClampNeg a1)) z28 h31) rfl gX0_dataOf_X3_init mb_X0_dataOf_6 mb_X0_dataOf_7 mb_X0_dataOf_8 rfl hdS_X3_init ⟨(Nat.le_of_ble_eq_true rfl), (Nat.le_of_ble_eq_true rfl)⟩ rfl (st := [.ref q0]) rfl (Nat.le_of_ble_eq_true rfl) [8, 1, 2] [0, 3, 4, 5, 6, 7] rfl rfl rfl rfl rfl (by decide) [(h, .inr (0, [.ref d, .ref hk, .ref hs, .int h_c, .ref hu, .ref hn, .ref hg, .int h_e])), (d, .inr (4, [.ref db, .int d_l])), (db, .inl (cB, 12000, .inl (b8 d_f))), (hk, .inl (cI, 60, .inl h_k)), (hs, .inl (cI, 61, .inl h_s)), (hu, .inl (cI, 40, .inl h_u)), (hn, .inl (cJ, 40, .inr (.inl h_n))), (hg, .inl (cI, 40, .inl h_g)), (q0, .inr (2, [.ref d, .int z31.1, .int z31.2]))] [0, 7, 8, 1, 2, 3, 4, 5, 6] rfl rfl rfl (1) (3) (Nat.le_of_ble_eq_true rfl) (Nat.le_of_ble_eq_true rfl) ⟨(Nat.le_of_ble_eq_true rfl), (Nat.le_of_ble_eq_true rfl)⟩ dX0_dataOf_31 ?_
    cases hf
    exact J_aret O (pc := 34) _ rfl dX0_dataOf_34
theorem in_X0_placeOf_X0 : ∀ w ∈ u_ws RX0 TX0 8, w ∈ wsX0_placeOf := fun _ h => List.mem_cons_of_mem _ (List.mem_append_right _ h)
theorem mb_X0_placeOf_1 : Cond.fieldLink RX0 41 (TX0 7).1 (TX0 7).2.1 (TX0 7).2.2.1 ∈ wsX0_placeOf := by decide +kernel
theorem mb_X0_placeOf_2 : Cond.fieldLink RX0 27 (TX0 3).1 (TX0 3).2.1 (TX0 3).2.2.1 ∈ wsX0_placeOf := by decide +kernel
abbrev rmX0_placeOf : Room := { frames := 2, cells := 0, slots := 0, locals := 42 }
set_option maxHeartbeats 4000000 in
set_option maxRecDepth 100000 in
theorem wk_X0_placeOf_13 {X : JC} {l : Launch} {D : va_G} {cB cI cJ : ClassId} (O : Jo X (l, D, cB, cI, cJ) cX0_placeOf 4 RX0 wsX0_placeOf rmX0_placeOf (some .int)) (h d db hk hs hu hn hg : Nat) (h_c : Int32) (h_e : Int32) (d_l : Int32) (d_f : Nat → Int8) (h_k : Nat → Int32) (h_s : Nat → Int32) (h_u : Nat → Int32) (h_n : Nat → Int64) (h_g : Nat → Int32) (a1 : Int32) (fu : Nat) {z : Int32} : ∀ (fn : Nat) (v2 : Int32) (v3 : Int32), p_X0_placeOf_13 fu h_c h_e h_s a1 fn v2 v3 = some z → J X 4 (JQi X [(h, .inr (0, [.ref d, .ref hk, .ref hs, .int h_c, .ref hu, .ref hn, .ref hg, .int h_e])), (d, .inr (4, [.ref db, .int d_l])), (db, .inl (cB, 12000, .inl (b8 d_f))), (hk, .inl (cI, 60, .inl h_k)), (hs, .inl (cI, 61, .inl h_s)), (hu, .inl (cI, 40, .inl h_u)), (hn, .inl (cJ, 40, .inr (.inl h_n))), (hg, .inl (cI, 40, .inl h_g))] z 0 0) [(h, .inr (0, [.ref d, .ref hk, .ref hs, .int h_c, .ref hu, .ref hn, .ref hg, .int h_e])), (d, .inr (4, [.ref db, .int d_l])), (db, .inl (cB, 12000, .inl (b8 d_f))), (hk, .inl (cI, 60, .inl h_k)), (hs, .inl (cI, 61, .inl h_s)), (hu, .inl (cI, 40, .inl h_u)), (hn, .inl (cJ, 40, .inr (.inl h_n))), (hg, .inl (cI, 40, .inl h_g))] 0 0 13 [(0, .ref h), (1, .int a1), (2, .int v2), (3, .int v3)] [] := by
  intro fn
  induction fn with
  | zero =>
    intro v2 v3 hf
    rw [p_X0_placeOf_13] at hf
    exact jt_n hf
  | succ fn ih =>
    intro v2 v3 hf
    rw [p_X0_placeOf_13] at hf
    refine J_iload_n O (i := 3) (k0 := 3) (pc := 13) 3 rfl rfl dX0_placeOf_13 ?_
    refine J_iload_n O (i := 1) (k0 := 1) (pc := 14) 1 rfl rfl dX0_placeOf_14 ?_
    refine J_icmp_ge O (tgt := 51) (pc := 15) dX0_placeOf_15 (by decide) (fun c15 => ?_) (fun c15 => ?_)
    · have hf := jt_t c15 hf
      refine J_iload_n O (i := 2) (k0 := 2) (pc := 51) 2 rfl rfl dX0_placeOf_51 ?_
      cases hf
      exact J_iret O (pc := 52) rfl dX0_placeOf_52
    · have hf := jt_f c15 hf
      refine J_iload_n O (i := 3) (k0 := 3) (pc := 18) 3 rfl rfl dX0_placeOf_18 ?_
      refine J_aload_n O (i := 0) (k0 := 0) (pc := 19) 0 rfl rfl dX0_placeOf_19 ?_
      refine J_get O (pc := 20) in_X0_placeOf_X0 0 rfl rfl 3 (by decide) mb_X0_placeOf_2 rfl dX0_placeOf_20 ?_
      refine J_icmp_ge O (tgt := 51) (pc := 23) dX0_placeOf_23 (by decide) (fun c23 => ?_) (fun c23 => ?_)
      · have hf := jt_t c23 hf
        refine J_iload_n O (i := 2) (k0 := 2) (pc := 51) 2 rfl rfl dX0_placeOf_51 ?_
        cases hf
        exact J_iret O (pc := 52) rfl dX0_placeOf_52
      · have hf := jt_f c23 hf
        refine J_iload_n O (i := 2) (k0 := 2) (pc := 26) 2 rfl rfl dX0_placeOf_26 ?_
        refine J_bipush O (v := 8) (pc := 27) (by decide) dX0_placeOf_27 ?_
        refine J_aload_n O (i := 0) (k0 := 0) (pc := 29) 0 rfl rfl dX0_placeOf_29 ?_
        refine J_iload_n O (i := 3) (k0 := 3) (pc := 30) 3 rfl rfl dX0_placeOf_30 ?_
        obtain ⟨z31, h31, hf⟩ := jt_b hf
        refine J_callVi O (pc := 31) (c_X0_lengthOf l D cB cI cJ h d db hk hs hu hn hg h_c h_e d_l d_f h_k h_s h_u h_n h_g v3 h31) rfl 0 rfl rfl gX0_placeOf_X0_lengthOf hdV_X0_lengthOf ⟨(Nat.le_of_ble_eq_true rfl), (Nat.le_of_ble_eq_true rfl)⟩ rfl (st := [.int 8, .int v2]) rfl (Nat.le_of_ble_eq_true rfl) [0, 1, 2, 3, 4, 5, 6, 7] [] rfl rfl rfl rfl rfl (by decide) [(h, .inr (0, [.ref d, .ref hk, .ref hs, .int h_c, .ref hu, .ref hn, .ref hg, .int h_e])), (d, .inr (4, [.ref db, .int d_l])), (db, .inl (cB, 12000, .inl (b8 d_f))), (hk, .inl (cI, 60, .inl h_k)), (hs, .inl (cI, 61, .inl h_s)), (hu, .inl (cI, 40, .inl h_u)), (hn, .inl (cJ, 40, .inr (.inl h_n))), (hg, .inl (cI, 40, .inl h_g))] [0, 1, 2, 3, 4, 5, 6, 7] rfl rfl rfl (0) (0) (Nat.le_of_ble_eq_true rfl) (Nat.le_of_ble_eq_true rfl) ⟨(Nat.le_of_ble_eq_true rfl), (Nat.le_of_ble_eq_true rfl)⟩ dX0_placeOf_31 ?_
        refine J_iadd O (pc := 34) dX0_placeOf_34 ?_
        refine J_aload_n O (i := 0) (k0 := 0) (pc := 35) 0 rfl rfl dX0_placeOf_35 ?_
        refine J_iload_n O (i := 3) (k0 := 3) (pc := 36) 3 rfl rfl dX0_placeOf_36 ?_
        obtain ⟨z37, h37, hf⟩ := jt_b hf
        refine J_callVi O (pc := 37) (c_X0_lengthOf l D cB cI cJ h d db hk hs hu hn hg h_c h_e d_l d_f h_k h_s h_u h_n h_g v3 h37) rfl 0 rfl rfl gX0_placeOf_X0_lengthOf hdV_X0_lengthOf ⟨(Nat.le_of_ble_eq_true rfl), (Nat.le_of_ble_eq_true rfl)⟩ rfl (st := [.int (8 + z31), .int v2]) rfl (Nat.le_of_ble_eq_true rfl) [0, 1, 2, 3, 4, 5, 6, 7] [] rfl rfl rfl rfl rfl (by decide) [(h, .inr (0, [.ref d, .ref hk, .ref hs, .int h_c, .ref hu, .ref hn, .ref hg, .int h_e])), (d, .inr (4, [.ref db, .int d_l])), (db, .inl (cB, 12000, .inl (b8 d_f))), (hk, .inl (cI, 60, .inl h_k)), (hs, .inl (cI, 61, .inl h_s)), (hu, .inl (cI, 40, .inl h_u)), (hn, .inl (cJ, 40, .inr (.inl h_n))), (hg, .inl (cI, 40, .inl h_g))] [0, 1, 2, 3, 4, 5, 6, 7] rfl rfl rfl (0) (0) (Nat.le_of_ble_eq_true rfl) (Nat.le_of_ble_eq_true rfl) ⟨(Nat.le_of_ble_eq_true rfl), (Nat.le_of_ble_eq_true rfl)⟩ dX0_placeOf_37 ?_
        refine J_iconst O (v := 1) (pc := 40) (by decide) dX0_placeOf_40 ?_
        refine J_iand O (pc := 41) dX0_placeOf_41 ?_
        refine J_iadd O (pc := 42) dX0_placeOf_42 ?_
        refine J_iadd O (pc := 43) dX0_placeOf_43 ?_
        refine J_istore_n O (i := 2) (k0 := 2) (pc := 44) rfl [(2, .int (v2 + ((8 + z31) + (z37 &&& 1)))), (0, .ref h), (1, .int a1), (3, .int v3)] (by decide) rfl dX0_placeOf_44 ?_
        refine J_iinc O (i := 3) (n := 1) (v := v3 + 1) (pc := 45) 3 rfl [(3, .int (v3 + 1)), (2, .int (v2 + ((8 + z31) + (z37 &&& 1)))), (0, .ref h), (1, .int a1)] (by decide) (congrArg (_ + ·) (by decide)) rfl dX0_placeOf_45 ?_
        refine J_goto O (tgt := 13) (pc := 48) dX0_placeOf_48 (by decide) ?_
        refine J_sub [2, 3, 1, 0] (lv' := [(0, .ref h), (1, .int a1), (2, .int (v2 + ((8 + z31) + (z37 &&& 1)))), (3, .int (v3 + 1))]) rfl ?_
        exact ih (v2 + ((8 + z31) + (z37 &&& 1))) (v3 + 1) hf
set_option maxHeartbeats 4000000 in
set_option maxRecDepth 100000 in
theorem c_X0_placeOf (l : Launch) (D : va_G) (cB cI cJ : ClassId) (h d db hk hs hu hn hg : Nat) (h_c : Int32) (h_e : Int32) (d_l : Int32) (d_f : Nat → Int8) (h_k : Nat → Int32) (h_s : Nat → Int32) (h_u : Nat → Int32) (h_n : Nat → Int64) (h_g : Nat → Int32) (a1 : Int32) (fu : Nat) {z : Int32} (hf : p_X0_placeOf fu h_c h_e h_s a1 = some z) : Ci (l, D, cB, cI, cJ) yX0_placeOf wsX0_placeOf rmX0_placeOf [.ref h, .int a1] [(h, .inr (0, [.ref d, .ref hk, .ref hs, .int h_c, .ref hu, .ref hn, .ref hg, .int h_e])), (d, .inr (4, [.ref db, .int d_l])), (db, .inl (cB, 12000, .inl (b8 d_f))), (hk, .inl (cI, 60, .inl h_k)), (hs, .inl (cI, 61, .inl h_s)), (hu, .inl (cI, 40, .inl h_u)), (hn, .inl (cJ, 40, .inr (.inl h_n))), (hg, .inl (cI, 40, .inl h_g))] [(h, .inr (0, [.ref d, .ref hk, .ref hs, .int h_c, .ref hu, .ref hn, .ref hg, .int h_e])), (d, .inr (4, [.ref db, .int d_l])), (db, .inl (cB, 12000, .inl (b8 d_f))), (hk, .inl (cI, 60, .inl h_k)), (hs, .inl (cI, 61, .inl h_s)), (hu, .inl (cI, 40, .inl h_u)), (hn, .inl (cJ, 40, .inr (.inl h_n))), (hg, .inl (cI, 40, .inl h_g))] z := by
  refine Ci_of (cc := cX0_placeOf) (nL := 4) (own := RX0) (ret := (some .int)) (by decide) rfl rfl (Nat.le_of_ble_eq_true rfl) (fun X O hnm0 => ?_)
  rw [p_X0_placeOf] at hf
  show J X 4 (JQi X [(h, .inr (0, [.ref d, .ref hk, .ref hs, .int h_c, .ref hu, .ref hn, .ref hg, .int h_e])), (d, .inr (4, [.ref db, .int d_l])), (db, .inl (cB, 12000, .inl (b8 d_f))), (hk, .inl (cI, 60, .inl h_k)), (hs, .inl (cI, 61, .inl h_s)), (hu, .inl (cI, 40, .inl h_u)), (hn, .inl (cJ, 40, .inr (.inl h_n))), (hg, .inl (cI, 40, .inl h_g))] z 0 0) [(h, .inr (0, [.ref d, .ref hk, .ref hs, .int h_c, .ref hu, .ref hn, .ref hg, .int h_e])), (d, .inr (4, [.ref db, .int d_l])), (db, .inl (cB, 12000, .inl (b8 d_f))), (hk, .inl (cI, 60, .inl h_k)), (hs, .inl (cI, 61, .inl h_s)), (hu, .inl (cI, 40, .inl h_u)), (hn, .inl (cJ, 40, .inr (.inl h_n))), (hg, .inl (cI, 40, .inl h_g))] 0 0 0 [(0, .ref h), (1, .int a1)] []
  refine J_bipush O (v := 24) (pc := 0) (by decide) dX0_placeOf_0 ?_
  refine J_bipush O (v := 12) (pc := 2) (by decide) dX0_placeOf_2 ?_
  refine J_aload_n O (i := 0) (k0 := 0) (pc := 4) 0 rfl rfl dX0_placeOf_4 ?_
  refine J_get O (pc := 5) in_X0_placeOf_X0 0 rfl rfl 7 (by decide) mb_X0_placeOf_1 rfl dX0_placeOf_5 ?_
  refine J_imul O (pc := 8) dX0_placeOf_8 ?_
  refine J_iadd O (pc := 9) dX0_placeOf_9 ?_
  refine J_istore_n O (i := 2) (k0 := 2) (pc := 10) rfl [(2, .int (24 + (12 * h_e))), (0, .ref h), (1, .int a1)] (by decide) rfl dX0_placeOf_10 ?_
  refine J_iconst O (v := 0) (pc := 11) (by decide) dX0_placeOf_11 ?_
  refine J_istore_n O (i := 3) (k0 := 3) (pc := 12) rfl [(3, .int 0), (2, .int (24 + (12 * h_e))), (0, .ref h), (1, .int a1)] (by decide) rfl dX0_placeOf_12 ?_
  refine J_sub [2, 3, 1, 0] (lv' := [(0, .ref h), (1, .int a1), (2, .int (24 + (12 * h_e))), (3, .int 0)]) rfl ?_
  exact wk_X0_placeOf_13 O h d db hk hs hu hn hg h_c h_e d_l d_f h_k h_s h_u h_n h_g a1 fu fu (24 + (12 * h_e)) 0 hf
theorem in_X0_meaningsOf_X0 : ∀ w ∈ u_ws RX0 TX0 8, w ∈ wsX0_meaningsOf := fun _ h => List.mem_cons_of_mem _ (List.mem_append_right _ h)
theorem mb_X0_meaningsOf_1 : Cond.fieldLink RX0 41 (TX0 7).1 (TX0 7).2.1 (TX0 7).2.2.1 ∈ wsX0_meaningsOf := by decide +kernel
theorem mb_X0_meaningsOf_2 : Cond.fieldLink RX0 38 (TX0 6).1 (TX0 6).2.1 (TX0 6).2.2.1 ∈ wsX0_meaningsOf := by decide +kernel
abbrev rmX0_meaningsOf : Room := { frames := 0, cells := 0, slots := 0, locals := 0 }
set_option maxHeartbeats 4000000 in
set_option maxRecDepth 100000 in
theorem wk_X0_meaningsOf_4 {X : JC} {l : Launch} {D : va_G} {cB cI cJ : ClassId} (O : Jo X (l, D, cB, cI, cJ) cX0_meaningsOf 4 RX0 wsX0_meaningsOf rmX0_meaningsOf (some .int)) (h d db hk hs hu hn hg : Nat) (h_c : Int32) (h_e : Int32) (d_l : Int32) (d_f : Nat → Int8) (h_k : Nat → Int32) (h_s : Nat → Int32) (h_u : Nat → Int32) (h_n : Nat → Int64) (h_g : Nat → Int32) (a1 : Int32) (fu : Nat) {z : Int32} : ∀ (fn : Nat) (v2 : Int32) (v3 : Int32), p_X0_meaningsOf_4 fu h_e h_g a1 fn v2 v3 = some z → J X 4 (JQi X [(h, .inr (0, [.ref d, .ref hk, .ref hs, .int h_c, .ref hu, .ref hn, .ref hg, .int h_e])), (d, .inr (4, [.ref db, .int d_l])), (db, .inl (cB, 12000, .inl (b8 d_f))), (hk, .inl (cI, 60, .inl h_k)), (hs, .inl (cI, 61, .inl h_s)), (hu, .inl (cI, 40, .inl h_u)), (hn, .inl (cJ, 40, .inr (.inl h_n))), (hg, .inl (cI, 40, .inl h_g))] z 0 0) [(h, .inr (0, [.ref d, .ref hk, .ref hs, .int h_c, .ref hu, .ref hn, .ref hg, .int h_e])), (d, .inr (4, [.ref db, .int d_l])), (db, .inl (cB, 12000, .inl (b8 d_f))), (hk, .inl (cI, 60, .inl h_k)), (hs, .inl (cI, 61, .inl h_s)), (hu, .inl (cI, 40, .inl h_u)), (hn, .inl (cJ, 40, .inr (.inl h_n))), (hg, .inl (cI, 40, .inl h_g))] 0 0 4 [(0, .ref h), (1, .int a1), (2, .int v2), (3, .int v3)] [] := by
  intro fn
  induction fn with
  | zero =>
    intro v2 v3 hf
    rw [p_X0_meaningsOf_4] at hf
    exact jt_n hf
  | succ fn ih =>
    intro v2 v3 hf
    rw [p_X0_meaningsOf_4] at hf
    refine J_iload_n O (i := 3) (k0 := 3) (pc := 4) 3 rfl rfl dX0_meaningsOf_4 ?_
    refine J_aload_n O (i := 0) (k0 := 0) (pc := 5) 0 rfl rfl dX0_meaningsOf_5 ?_
    refine J_get O (pc := 6) in_X0_meaningsOf_X0 0 rfl rfl 7 (by decide) mb_X0_meaningsOf_1 rfl dX0_meaningsOf_6 ?_
    refine J_icmp_ge O (tgt := 31) (pc := 9) dX0_meaningsOf_9 (by decide) (fun c9 => ?_) (fun c9 => ?_)
    · have hf := jt_t c9 hf
      refine J_iload_n O (i := 2) (k0 := 2) (pc := 31) 2 rfl rfl dX0_meaningsOf_31 ?_
      cases hf
      exact J_iret O (pc := 32) rfl dX0_meaningsOf_32
    · have hf := jt_f c9 hf
      refine J_aload_n O (i := 0) (k0 := 0) (pc := 12) 0 rfl rfl dX0_meaningsOf_12 ?_
      refine J_get O (pc := 13) in_X0_meaningsOf_X0 0 rfl rfl 6 (by decide) mb_X0_meaningsOf_2 rfl dX0_meaningsOf_13 ?_
      refine J_iload_n O (i := 3) (k0 := 3) (pc := 16) 3 rfl rfl dX0_meaningsOf_16 ?_
      obtain ⟨h17, hf⟩ := jt_g hf
      refine J_iald O (pc := 17) 7 1 rfl rfl h17 dX0_meaningsOf_17 ?_
      refine J_iload_n O (i := 1) (k0 := 1) (pc := 18) 1 rfl rfl dX0_meaningsOf_18 ?_
      refine J_icmp_ne O (tgt := 25) (pc := 19) dX0_meaningsOf_19 (by decide) (fun c19 => ?_) (fun c19 => ?_)
      · have hf := jt_f c19 hf
        refine J_iinc O (i := 3) (n := 1) (v := v3 + 1) (pc := 25) 3 rfl [(3, .int (v3 + 1)), (0, .ref h), (1, .int a1), (2, .int v2)] (by decide) (congrArg (_ + ·) (by decide)) rfl dX0_meaningsOf_25 ?_
        refine J_goto O (tgt := 4) (pc := 28) dX0_meaningsOf_28 (by decide) ?_
        refine J_sub [1, 2, 3, 0] (lv' := [(0, .ref h), (1, .int a1), (2, .int v2), (3, .int (v3 + 1))]) rfl ?_
        exact ih v2 (v3 + 1) hf
      · have hf := jt_t c19 hf
        refine J_iinc O (i := 2) (n := 1) (v := v2 + 1) (pc := 22) 2 rfl [(2, .int (v2 + 1)), (0, .ref h), (1, .int a1), (3, .int v3)] (by decide) (congrArg (_ + ·) (by decide)) rfl dX0_meaningsOf_22 ?_
        refine J_iinc O (i := 3) (n := 1) (v := v3 + 1) (pc := 25) 3 rfl [(3, .int (v3 + 1)), (2, .int (v2 + 1)), (0, .ref h), (1, .int a1)] (by decide) (congrArg (_ + ·) (by decide)) rfl dX0_meaningsOf_25 ?_
        refine J_goto O (tgt := 4) (pc := 28) dX0_meaningsOf_28 (by decide) ?_
        refine J_sub [2, 3, 1, 0] (lv' := [(0, .ref h), (1, .int a1), (2, .int (v2 + 1)), (3, .int (v3 + 1))]) rfl ?_
        exact ih (v2 + 1) (v3 + 1) hf
set_option maxHeartbeats 4000000 in
set_option maxRecDepth 100000 in
theorem c_X0_meaningsOf (l : Launch) (D : va_G) (cB cI cJ : ClassId) (h d db hk hs hu hn hg : Nat) (h_c : Int32) (h_e : Int32) (d_l : Int32) (d_f : Nat → Int8) (h_k : Nat → Int32) (h_s : Nat → Int32) (h_u : Nat → Int32) (h_n : Nat → Int64) (h_g : Nat → Int32) (a1 : Int32) (fu : Nat) {z : Int32} (hf : p_X0_meaningsOf fu h_e h_g a1 = some z) : Ci (l, D, cB, cI, cJ) yX0_meaningsOf wsX0_meaningsOf rmX0_meaningsOf [.ref h, .int a1] [(h, .inr (0, [.ref d, .ref hk, .ref hs, .int h_c, .ref hu, .ref hn, .ref hg, .int h_e])), (d, .inr (4, [.ref db, .int d_l])), (db, .inl (cB, 12000, .inl (b8 d_f))), (hk, .inl (cI, 60, .inl h_k)), (hs, .inl (cI, 61, .inl h_s)), (hu, .inl (cI, 40, .inl h_u)), (hn, .inl (cJ, 40, .inr (.inl h_n))), (hg, .inl (cI, 40, .inl h_g))] [(h, .inr (0, [.ref d, .ref hk, .ref hs, .int h_c, .ref hu, .ref hn, .ref hg, .int h_e])), (d, .inr (4, [.ref db, .int d_l])), (db, .inl (cB, 12000, .inl (b8 d_f))), (hk, .inl (cI, 60, .inl h_k)), (hs, .inl (cI, 61, .inl h_s)), (hu, .inl (cI, 40, .inl h_u)), (hn, .inl (cJ, 40, .inr (.inl h_n))), (hg, .inl (cI, 40, .inl h_g))] z := by
  refine Ci_of (cc := cX0_meaningsOf) (nL := 4) (own := RX0) (ret := (some .int)) (by decide) rfl rfl (Nat.le_of_ble_eq_true rfl) (fun X O hnm0 => ?_)
  rw [p_X0_meaningsOf] at hf
  show J X 4 (JQi X [(h, .inr (0, [.ref d, .ref hk, .ref hs, .int h_c, .ref hu, .ref hn, .ref hg, .int h_e])), (d, .inr (4, [.ref db, .int d_l])), (db, .inl (cB, 12000, .inl (b8 d_f))), (hk, .inl (cI, 60, .inl h_k)), (hs, .inl (cI, 61, .inl h_s)), (hu, .inl (cI, 40, .inl h_u)), (hn, .inl (cJ, 40, .inr (.inl h_n))), (hg, .inl (cI, 40, .inl h_g))] z 0 0) [(h, .inr (0, [.ref d, .ref hk, .ref hs, .int h_c, .ref hu, .ref hn, .ref hg, .int h_e])), (d, .inr (4, [.ref db, .int d_l])), (db, .inl (cB, 12000, .inl (b8 d_f))), (hk, .inl (cI, 60, .inl h_k)), (hs, .inl (cI, 61, .inl h_s)), (hu, .inl (cI, 40, .inl h_u)), (hn, .inl (cJ, 40, .inr (.inl h_n))), (hg, .inl (cI, 40, .inl h_g))] 0 0 0 [(0, .ref h), (1, .int a1)] []
  refine J_iconst O (v := 0) (pc := 0) (by decide) dX0_meaningsOf_0 ?_
  refine J_istore_n O (i := 2) (k0 := 2) (pc := 1) rfl [(2, .int 0), (0, .ref h), (1, .int a1)] (by decide) rfl dX0_meaningsOf_1 ?_
  refine J_iconst O (v := 0) (pc := 2) (by decide) dX0_meaningsOf_2 ?_
  refine J_istore_n O (i := 3) (k0 := 3) (pc := 3) rfl [(3, .int 0), (2, .int 0), (0, .ref h), (1, .int a1)] (by decide) rfl dX0_meaningsOf_3 ?_
  refine J_sub [2, 3, 1, 0] (lv' := [(0, .ref h), (1, .int a1), (2, .int 0), (3, .int 0)]) rfl ?_
  exact wk_X0_meaningsOf_4 O h d db hk hs hu hn hg h_c h_e d_l d_f h_k h_s h_u h_n h_g a1 fu fu 0 0 hf
theorem hdV_X0_hasEntry : yX0_hasEntry.cls = RX0 ∧ yX0_hasEntry.cls ≠ "java/lang/invoke/MethodHandle" ∧ yX0_hasEntry.cls ≠ "java/lang/invoke/VarHandle" ∧ (parseMethodDescriptor yX0_hasEntry.desc).map (fun d => d.parameters.length) = some 1 := by decide +kernel
theorem in_X0_goes_X0 : ∀ w ∈ u_ws RX0 TX0 8, w ∈ wsX0_goes := fun _ h => List.mem_cons_of_mem _ (List.mem_append_left _ (List.mem_append_left _ (List.mem_append_right _ h)))
theorem mb_X0_goes_1 : Cond.fieldLink RX0 38 (TX0 6).1 (TX0 6).2.1 (TX0 6).2.2.1 ∈ wsX0_goes := by decide +kernel
theorem mb_X0_goes_2 : Cond.fieldLink RX0 31 (TX0 4).1 (TX0 4).2.1 (TX0 4).2.2.1 ∈ wsX0_goes := by decide +kernel
theorem hdV_X0_kindOf : yX0_kindOf.cls = RX0 ∧ yX0_kindOf.cls ≠ "java/lang/invoke/MethodHandle" ∧ yX0_kindOf.cls ≠ "java/lang/invoke/VarHandle" ∧ (parseMethodDescriptor yX0_kindOf.desc).map (fun d => d.parameters.length) = some 1 := by decide +kernel
theorem hdV_X0_dataOf : yX0_dataOf.cls = RX0 ∧ yX0_dataOf.cls ≠ "java/lang/invoke/MethodHandle" ∧ yX0_dataOf.cls ≠ "java/lang/invoke/VarHandle" ∧ (parseMethodDescriptor yX0_dataOf.desc).map (fun d => d.parameters.length) = some 1 := by decide +kernel
theorem hdS_X2_goTogether : yX2_goTogether.cls ≠ "java/lang/invoke/MethodHandle" ∧ yX2_goTogether.cls ≠ "java/lang/invoke/VarHandle" ∧ (parseMethodDescriptor yX2_goTogether.desc).map (fun d => d.parameters.length) = some 3 := by decide +kernel
abbrev rmX0_goes : Room := { frames := 4, cells := 1, slots := 3, locals := 90 }
set_option maxHeartbeats 4000000 in
set_option maxRecDepth 100000 in
theorem c_X0_goes (l : Launch) (D : va_G) (cB cI cJ : ClassId) (h d db hk hs hu hn hg : Nat) (h_c : Int32) (h_e : Int32) (d_l : Int32) (d_f : Nat → Int8) (h_k : Nat → Int32) (h_s : Nat → Int32) (h_u : Nat → Int32) (h_n : Nat → Int64) (h_g : Nat → Int32) (a1 : Int32) (fu : Nat) {z : Bool} (hf : p_X0_goes fu h_c h_e d_l d_f h_k h_s h_u h_g a1 = some z) : Ci (l, D, cB, cI, cJ) yX0_goes wsX0_goes rmX0_goes [.ref h, .int a1] [(h, .inr (0, [.ref d, .ref hk, .ref hs, .int h_c, .ref hu, .ref hn, .ref hg, .int h_e])), (d, .inr (4, [.ref db, .int d_l])), (db, .inl (cB, 12000, .inl (b8 d_f))), (hk, .inl (cI, 60, .inl h_k)), (hs, .inl (cI, 61, .inl h_s)), (hu, .inl (cI, 40, .inl h_u)), (hn, .inl (cJ, 40, .inr (.inl h_n))), (hg, .inl (cI, 40, .inl h_g))] [(h, .inr (0, [.ref d, .ref hk, .ref hs, .int h_c, .ref hu, .ref hn, .ref hg, .int h_e])), (d, .inr (4, [.ref db, .int d_l])), (db, .inl (cB, 12000, .inl (b8 d_f))), (hk, .inl (cI, 60, .inl h_k)), (hs, .inl (cI, 61, .inl h_s)), (hu, .inl (cI, 40, .inl h_u)), (hn, .inl (cJ, 40, .inr (.inl h_n))), (hg, .inl (cI, 40, .inl h_g))] (bI z) := by
  refine Ci_of (cc := cX0_goes) (nL := 3) (own := RX0) (ret := (some .boolean)) (by decide) rfl rfl (Nat.le_of_ble_eq_true rfl) (fun X O hnm0 => ?_)
  rw [p_X0_goes] at hf
  show J X 3 (JQi X [(h, .inr (0, [.ref d, .ref hk, .ref hs, .int h_c, .ref hu, .ref hn, .ref hg, .int h_e])), (d, .inr (4, [.ref db, .int d_l])), (db, .inl (cB, 12000, .inl (b8 d_f))), (hk, .inl (cI, 60, .inl h_k)), (hs, .inl (cI, 61, .inl h_s)), (hu, .inl (cI, 40, .inl h_u)), (hn, .inl (cJ, 40, .inr (.inl h_n))), (hg, .inl (cI, 40, .inl h_g))] (bI z) 1 3) [(h, .inr (0, [.ref d, .ref hk, .ref hs, .int h_c, .ref hu, .ref hn, .ref hg, .int h_e])), (d, .inr (4, [.ref db, .int d_l])), (db, .inl (cB, 12000, .inl (b8 d_f))), (hk, .inl (cI, 60, .inl h_k)), (hs, .inl (cI, 61, .inl h_s)), (hu, .inl (cI, 40, .inl h_u)), (hn, .inl (cJ, 40, .inr (.inl h_n))), (hg, .inl (cI, 40, .inl h_g))] 0 0 0 [(0, .ref h), (1, .int a1)] []
  refine J_aload_n O (i := 0) (k0 := 0) (pc := 0) 0 rfl rfl dX0_goes_0 ?_
  refine J_iload_n O (i := 1) (k0 := 1) (pc := 1) 1 rfl rfl dX0_goes_1 ?_
  obtain ⟨z2, h2, hf⟩ := jt_b hf
  refine J_callVi O (pc := 2) (c_X0_hasEntry l D cB cI cJ h d db hk hs hu hn hg h_c h_e d_l d_f h_k h_s h_u h_n h_g a1 h2) rfl 0 rfl rfl gX0_goes_X0_hasEntry hdV_X0_hasEntry ⟨(Nat.le_of_ble_eq_true rfl), (Nat.le_of_ble_eq_true rfl)⟩ rfl (st := []) rfl (Nat.le_of_ble_eq_true rfl) [0, 1, 2, 3, 4, 5, 6, 7] [] rfl rfl rfl rfl rfl (by decide) [(h, .inr (0, [.ref d, .ref hk, .ref hs, .int h_c, .ref hu, .ref hn, .ref hg, .int h_e])), (d, .inr (4, [.ref db, .int d_l])), (db, .inl (cB, 12000, .inl (b8 d_f))), (hk, .inl (cI, 60, .inl h_k)), (hs, .inl (cI, 61, .inl h_s)), (hu, .inl (cI, 40, .inl h_u)), (hn, .inl (cJ, 40, .inr (.inl h_n))), (hg, .inl (cI, 40, .inl h_g))] [0, 1, 2, 3, 4, 5, 6, 7] rfl rfl rfl (0) (0) (Nat.le_of_ble_eq_true rfl) (Nat.le_of_ble_eq_true rfl) ⟨(Nat.le_of_ble_eq_true rfl), (Nat.le_of_ble_eq_true rfl)⟩ dX0_goes_2 ?_
  refine J_zne O (tgt := 10) (pc := 5) dX0_goes_5 (by decide) (fun c5 => ?_) (fun c5 => ?_)
  · have hf := jt_t c5 hf
    refine J_aload_n O (i := 0) (k0 := 0) (pc := 10) 0 rfl rfl dX0_goes_10 ?_
    refine J_get O (pc := 11) in_X0_goes_X0 0 rfl rfl 6 (by decide) mb_X0_goes_1 rfl dX0_goes_11 ?_
    refine J_iload_n O (i := 1) (k0 := 1) (pc := 14) 1 rfl rfl dX0_goes_14 ?_
    obtain ⟨h15, hf⟩ := jt_g hf
    refine J_iald O (pc := 15) 7 1 rfl rfl h15 dX0_goes_15 ?_
    refine J_istore_n O (i := 2) (k0 := 2) (pc := 16) rfl [(2, .int (h_g (Int32.toNatClampNeg a1))), (0, .ref h), (1, .int a1)] (by decide) rfl dX0_goes_16 ?_
    refine J_aload_n O (i := 0) (k0 := 0) (pc := 17) 1 rfl rfl dX0_goes_17 ?_
    refine J_get O (pc := 18) in_X0_goes_X0 0 rfl rfl 4 (by decide) mb_X0_goes_2 rfl dX0_goes_18 ?_
    refine J_iload_n O (i := 1) (k0 := 1) (pc := 21) 2 rfl rfl dX0_goes_21 ?_
    obtain ⟨h22, hf⟩ := jt_g hf
    refine J_iald O (pc := 22) 5 1 rfl rfl h22 dX0_goes_22 ?_
    refine J_aload_n O (i := 0) (k0 := 0) (pc := 23) 1 rfl rfl dX0_goes_23 ?_
    refine J_iload_n O (i := 2) (k0 := 2) (pc := 24) 0 rfl rfl dX0_goes_24 ?_
    obtain ⟨z25, h25, hf⟩ := jt_b hf
    refine J_callVi O (pc := 25) (c_X0_kindOf l D cB cI cJ h d db hk hs hu hn hg h_c h_e d_l d_f h_k h_s h_u h_n h_g (h_g (Int32.toNatClampNeg a1)) h25) rfl 0 rfl rfl gX0_goes_X0_kindOf hdV_X0_kindOf ⟨(Nat.le_of_ble_eq_true rfl), (Nat.le_of_ble_eq_true rfl)⟩ rfl (st := [.int (h_u (Int32.toNatClampNeg a1))]) rfl (Nat.le_of_ble_eq_true rfl) [0, 1, 2, 3, 4, 5, 6, 7] [] rfl rfl rfl rfl rfl (by decide) [(h, .inr (0, [.ref d, .ref hk, .ref hs, .int h_c, .ref hu, .ref hn, .ref hg, .int h_e])), (d, .inr (4, [.ref db, .int d_l])), (db, .inl (cB, 12000, .inl (b8 d_f))), (hk, .inl (cI, 60, .inl h_k)), (hs, .inl (cI, 61, .inl h_s)), (hu, .inl (cI, 40, .inl h_u)), (hn, .inl (cJ, 40, .inr (.inl h_n))), (hg, .inl (cI, 40, .inl h_g))] [0, 1, 2, 3, 4, 5, 6, 7] rfl rfl rfl (0) (0) (Nat.le_of_ble_eq_true rfl) (Nat.le_of_ble_eq_true rfl) ⟨(Nat.le_of_ble_eq_true rfl), (Nat.le_of_ble_eq_true rfl)⟩ dX0_goes_25 ?_
    refine J_aload_n O (i := 0) (k0 := 0) (pc := 28) 1 rfl rfl dX0_goes_28 ?_
    refine J_iload_n O (i := 2) (k0 := 2) (pc := 29) 0 rfl rfl dX0_goes_29 ?_
    obtain ⟨z30, h30, hf⟩ := jt_b hf
    refine J_callVr O (pc := 30) (c_X0_dataOf l D cB cI cJ h d db hk hs hu hn hg h_c h_e d_l d_f h_k h_s h_u h_n h_g (h_g (Int32.toNatClampNeg a1)) h30) rfl 0 rfl rfl gX0_goes_X0_dataOf hdV_X0_dataOf ⟨(Nat.le_of_ble_eq_true rfl), (Nat.le_of_ble_eq_true rfl)⟩ rfl (st := [.int z25, .int (h_u (Int32.toNatClampNeg a1))]) rfl (Nat.le_of_ble_eq_true rfl) [0, 1, 2, 3, 4, 5, 6, 7] [] rfl rfl rfl rfl rfl (by decide) (fun q30 => [(h, .inr (0, [.ref d, .ref hk, .ref hs, .int h_c, .ref hu, .ref hn, .ref hg, .int h_e])), (d, .inr (4, [.ref db, .int d_l])), (db, .inl (cB, 12000, .inl (b8 d_f))), (hk, .inl (cI, 60, .inl h_k)), (hs, .inl (cI, 61, .inl h_s)), (hu, .inl (cI, 40, .inl h_u)), (hn, .inl (cJ, 40, .inr (.inl h_n))), (hg, .inl (cI, 40, .inl h_g)), (q30, .inr (2, [.ref d, .int z30.1, .int z30.2]))]) [0, 1, 2, 3, 4, 5, 6, 7, 8] rfl (fun _ => rfl) (fun _ => rfl) (1) (3) (Nat.le_of_ble_eq_true rfl) (Nat.le_of_ble_eq_true rfl) ⟨(Nat.le_of_ble_eq_true rfl), (Nat.le_of_ble_eq_true rfl)⟩ dX0_goes_30 (fun q30 => ?_)
    obtain ⟨z33, h33, hf⟩ := jt_b hf
    refine J_callSi O (pc := 33) (c_X2_goTogether l D cB cI cJ q30 d db 12000 z30.1 z30.2 d_l d_f (h_u (Int32.toNatClampNeg a1)) z25 fu h33) rfl gX0_goes_X2_goTogether hdS_X2_goTogether ⟨(Nat.le_of_ble_eq_true rfl), (Nat.le_of_ble_eq_true rfl)⟩ rfl (st := []) rfl (Nat.le_of_ble_eq_true rfl) [8, 1, 2] [0, 3, 4, 5, 6, 7] rfl rfl rfl rfl rfl (by decide) [(h, .inr (0, [.ref d, .ref hk, .ref hs, .int h_c, .ref hu, .ref hn, .ref hg, .int h_e])), (d, .inr (4, [.ref db, .int d_l])), (db, .inl (cB, 12000, .inl (b8 d_f))), (hk, .inl (cI, 60, .inl h_k)), (hs, .inl (cI, 61, .inl h_s)), (hu, .inl (cI, 40, .inl h_u)), (hn, .inl (cJ, 40, .inr (.inl h_n))), (hg, .inl (cI, 40, .inl h_g)), (q30, .inr (2, [.ref d, .int z30.1, .int z30.2]))] [0, 7, 8, 1, 2, 3, 4, 5, 6] rfl rfl rfl (1) (3) (Nat.le_of_ble_eq_true rfl) (Nat.le_of_ble_eq_true rfl) ⟨(Nat.le_of_ble_eq_true rfl), (Nat.le_of_ble_eq_true rfl)⟩ dX0_goes_33 ?_
    cases hf
    refine J_wsub [0, 1, 2, 3, 4, 5, 6, 7] [(h, .inr (0, [.ref d, .ref hk, .ref hs, .int h_c, .ref hu, .ref hn, .ref hg, .int h_e])), (d, .inr (4, [.ref db, .int d_l])), (db, .inl (cB, 12000, .inl (b8 d_f))), (hk, .inl (cI, 60, .inl h_k)), (hs, .inl (cI, 61, .inl h_s)), (hu, .inl (cI, 40, .inl h_u)), (hn, .inl (cJ, 40, .inr (.inl h_n))), (hg, .inl (cI, 40, .inl h_g))] rfl rfl rfl ?_
    exact J_zret O (pc := 36) rfl dX0_goes_36
  · have hf := jt_f c5 hf
    refine J_iconst O (v := 0) (pc := 8) (by decide) dX0_goes_8 ?_
    cases hf
    refine J_widen 1 3 (Nat.le_of_ble_eq_true rfl) (Nat.le_of_ble_eq_true rfl) ?_
    exact J_zret O (pc := 9) rfl dX0_goes_9
theorem in_X0_entryOf_X0 : ∀ w ∈ u_ws RX0 TX0 8, w ∈ wsX0_entryOf := fun _ h => List.mem_cons_of_mem _ (List.mem_append_right _ h)
theorem mb_X0_entryOf_1 : Cond.fieldLink RX0 41 (TX0 7).1 (TX0 7).2.1 (TX0 7).2.2.1 ∈ wsX0_entryOf := by decide +kernel
theorem mb_X0_entryOf_2 : Cond.fieldLink RX0 31 (TX0 4).1 (TX0 4).2.1 (TX0 4).2.2.1 ∈ wsX0_entryOf := by decide +kernel
theorem mb_X0_entryOf_3 : Cond.fieldLink RX0 34 (TX0 5).1 (TX0 5).2.1 (TX0 5).2.2.1 ∈ wsX0_entryOf := by decide +kernel
abbrev rmX0_entryOf : Room := { frames := 0, cells := 0, slots := 0, locals := 0 }
set_option maxHeartbeats 4000000 in
set_option maxRecDepth 100000 in
theorem wk_X0_entryOf_3 {X : JC} {l : Launch} {D : va_G} {cB cI cJ : ClassId} (O : Jo X (l, D, cB, cI, cJ) cX0_entryOf 5 RX0 wsX0_entryOf rmX0_entryOf (some .int)) (h d db hk hs hu hn hg : Nat) (h_c : Int32) (h_e : Int32) (d_l : Int32) (d_f : Nat → Int8) (h_k : Nat → Int32) (h_s : Nat → Int32) (h_u : Nat → Int32) (h_n : Nat → Int64) (h_g : Nat → Int32) (a1 : Int32) (a2 : Int64) (fu : Nat) {z : Int32} : ∀ (fn : Nat) (v4 : Int32), p_X0_entryOf_3 fu h_e h_u h_n a1 a2 fn v4 = some z → J X 5 (JQi X [(h, .inr (0, [.ref d, .ref hk, .ref hs, .int h_c, .ref hu, .ref hn, .ref hg, .int h_e])), (d, .inr (4, [.ref db, .int d_l])), (db, .inl (cB, 12000, .inl (b8 d_f))), (hk, .inl (cI, 60, .inl h_k)), (hs, .inl (cI, 61, .inl h_s)), (hu, .inl (cI, 40, .inl h_u)), (hn, .inl (cJ, 40, .inr (.inl h_n))), (hg, .inl (cI, 40, .inl h_g))] z 0 0) [(h, .inr (0, [.ref d, .ref hk, .ref hs, .int h_c, .ref hu, .ref hn, .ref hg, .int h_e])), (d, .inr (4, [.ref db, .int d_l])), (db, .inl (cB, 12000, .inl (b8 d_f))), (hk, .inl (cI, 60, .inl h_k)), (hs, .inl (cI, 61, .inl h_s)), (hu, .inl (cI, 40, .inl h_u)), (hn, .inl (cJ, 40, .inr (.inl h_n))), (hg, .inl (cI, 40, .inl h_g))] 0 0 3 [(0, .ref h), (1, .int a1), (2, .long a2), (4, .int v4)] [] := by
  intro fn
  induction fn with
  | zero =>
    intro v4 hf
    rw [p_X0_entryOf_3] at hf
    exact jt_n hf
  | succ fn ih =>
    intro v4 hf
    rw [p_X0_entryOf_3] at hf
    refine J_iload O (i := 4) (pc := 3) 3 rfl dX0_entryOf_3 ?_
    refine J_aload_n O (i := 0) (k0 := 0) (pc := 5) 0 rfl rfl dX0_entryOf_5 ?_
    refine J_get O (pc := 6) in_X0_entryOf_X0 0 rfl rfl 7 (by decide) mb_X0_entryOf_1 rfl dX0_entryOf_6 ?_
    refine J_icmp_ge O (tgt := 44) (pc := 9) dX0_entryOf_9 (by decide) (fun c9 => ?_) (fun c9 => ?_)
    · have hf := jt_t c9 hf
      refine J_bipush O (v := (-2)) (pc := 44) (by decide) dX0_entryOf_44 ?_
      cases hf
      exact J_iret O (pc := 46) rfl dX0_entryOf_46
    · have hf := jt_f c9 hf
      refine J_aload_n O (i := 0) (k0 := 0) (pc := 12) 0 rfl rfl dX0_entryOf_12 ?_
      refine J_get O (pc := 13) in_X0_entryOf_X0 0 rfl rfl 4 (by decide) mb_X0_entryOf_2 rfl dX0_entryOf_13 ?_
      refine J_iload O (i := 4) (pc := 16) 3 rfl dX0_entryOf_16 ?_
      obtain ⟨h18, hf⟩ := jt_g hf
      refine J_iald O (pc := 18) 5 1 rfl rfl h18 dX0_entryOf_18 ?_
      refine J_iload_n O (i := 1) (k0 := 1) (pc := 19) 1 rfl rfl dX0_entryOf_19 ?_
      refine J_icmp_ne O (tgt := 38) (pc := 20) dX0_entryOf_20 (by decide) (fun c20 => ?_) (fun c20 => ?_)
      · have hf := jt_f c20 hf
        refine J_iinc O (i := 4) (n := 1) (v := v4 + 1) (pc := 38) 3 rfl [(4, .int (v4 + 1)), (0, .ref h), (1, .int a1), (2, .long a2)] (by decide) (congrArg (_ + ·) (by decide)) rfl dX0_entryOf_38 ?_
        refine J_goto O (tgt := 3) (pc := 41) dX0_entryOf_41 (by decide) ?_
        refine J_sub [1, 2, 3, 0] (lv' := [(0, .ref h), (1, .int a1), (2, .long a2), (4, .int (v4 + 1))]) rfl ?_
        exact ih (v4 + 1) hf
      · have hf := jt_t c20 hf
        refine J_aload_n O (i := 0) (k0 := 0) (pc := 23) 0 rfl rfl dX0_entryOf_23 ?_
        refine J_get O (pc := 24) in_X0_entryOf_X0 0 rfl rfl 5 (by decide) mb_X0_entryOf_3 rfl dX0_entryOf_24 ?_
        refine J_iload O (i := 4) (pc := 27) 3 rfl dX0_entryOf_27 ?_
        obtain ⟨h29, hf⟩ := jt_g hf
        refine J_lald O (pc := 29) 6 2 rfl rfl h29 dX0_entryOf_29 ?_
        refine J_lload_n O (i := 2) (k0 := 2) (pc := 30) 2 rfl rfl dX0_entryOf_30 ?_
        refine J_lif_ne O (tgt := 38) (pc := 31) dX0_entryOf_31 dX0_entryOf_32 (by decide) (fun c31 => ?_) (fun c31 => ?_)
        · have hf := jt_f c31 hf
          refine J_iinc O (i := 4) (n := 1) (v := v4 + 1) (pc := 38) 3 rfl [(4, .int (v4 + 1)), (0, .ref h), (1, .int a1), (2, .long a2)] (by decide) (congrArg (_ + ·) (by decide)) rfl dX0_entryOf_38 ?_
          refine J_goto O (tgt := 3) (pc := 41) dX0_entryOf_41 (by decide) ?_
          refine J_sub [1, 2, 3, 0] (lv' := [(0, .ref h), (1, .int a1), (2, .long a2), (4, .int (v4 + 1))]) rfl ?_
          exact ih (v4 + 1) hf
        · have hf := jt_t c31 hf
          refine J_iload O (i := 4) (pc := 35) 3 rfl dX0_entryOf_35 ?_
          cases hf
          exact J_iret O (pc := 37) rfl dX0_entryOf_37
set_option maxHeartbeats 4000000 in
set_option maxRecDepth 100000 in
theorem c_X0_entryOf (l : Launch) (D : va_G) (cB cI cJ : ClassId) (h d db hk hs hu hn hg : Nat) (h_c : Int32) (h_e : Int32) (d_l : Int32) (d_f : Nat → Int8) (h_k : Nat → Int32) (h_s : Nat → Int32) (h_u : Nat → Int32) (h_n : Nat → Int64) (h_g : Nat → Int32) (a1 : Int32) (a2 : Int64) (fu : Nat) {z : Int32} (hf : p_X0_entryOf fu h_e h_u h_n a1 a2 = some z) : Ci (l, D, cB, cI, cJ) yX0_entryOf wsX0_entryOf rmX0_entryOf [.ref h, .int a1, .long a2] [(h, .inr (0, [.ref d, .ref hk, .ref hs, .int h_c, .ref hu, .ref hn, .ref hg, .int h_e])), (d, .inr (4, [.ref db, .int d_l])), (db, .inl (cB, 12000, .inl (b8 d_f))), (hk, .inl (cI, 60, .inl h_k)), (hs, .inl (cI, 61, .inl h_s)), (hu, .inl (cI, 40, .inl h_u)), (hn, .inl (cJ, 40, .inr (.inl h_n))), (hg, .inl (cI, 40, .inl h_g))] [(h, .inr (0, [.ref d, .ref hk, .ref hs, .int h_c, .ref hu, .ref hn, .ref hg, .int h_e])), (d, .inr (4, [.ref db, .int d_l])), (db, .inl (cB, 12000, .inl (b8 d_f))), (hk, .inl (cI, 60, .inl h_k)), (hs, .inl (cI, 61, .inl h_s)), (hu, .inl (cI, 40, .inl h_u)), (hn, .inl (cJ, 40, .inr (.inl h_n))), (hg, .inl (cI, 40, .inl h_g))] z := by
  refine Ci_of (cc := cX0_entryOf) (nL := 5) (own := RX0) (ret := (some .int)) (by decide) rfl rfl (Nat.le_of_ble_eq_true rfl) (fun X O hnm0 => ?_)
  rw [p_X0_entryOf] at hf
  show J X 5 (JQi X [(h, .inr (0, [.ref d, .ref hk, .ref hs, .int h_c, .ref hu, .ref hn, .ref hg, .int h_e])), (d, .inr (4, [.ref db, .int d_l])), (db, .inl (cB, 12000, .inl (b8 d_f))), (hk, .inl (cI, 60, .inl h_k)), (hs, .inl (cI, 61, .inl h_s)), (hu, .inl (cI, 40, .inl h_u)), (hn, .inl (cJ, 40, .inr (.inl h_n))), (hg, .inl (cI, 40, .inl h_g))] z 0 0) [(h, .inr (0, [.ref d, .ref hk, .ref hs, .int h_c, .ref hu, .ref hn, .ref hg, .int h_e])), (d, .inr (4, [.ref db, .int d_l])), (db, .inl (cB, 12000, .inl (b8 d_f))), (hk, .inl (cI, 60, .inl h_k)), (hs, .inl (cI, 61, .inl h_s)), (hu, .inl (cI, 40, .inl h_u)), (hn, .inl (cJ, 40, .inr (.inl h_n))), (hg, .inl (cI, 40, .inl h_g))] 0 0 0 [(0, .ref h), (1, .int a1), (2, .long a2)] []
  refine J_iconst O (v := 0) (pc := 0) (by decide) dX0_entryOf_0 ?_
  refine J_istore O (i := 4) (pc := 1) [(4, .int 0), (0, .ref h), (1, .int a1), (2, .long a2)] (by decide) rfl dX0_entryOf_1 ?_
  refine J_sub [1, 2, 3, 0] (lv' := [(0, .ref h), (1, .int a1), (2, .long a2), (4, .int 0)]) rfl ?_
  exact wk_X0_entryOf_3 O h d db hk hs hu hn hg h_c h_e d_l d_f h_k h_s h_u h_n h_g a1 a2 fu fu 0 hf
theorem in_X0_firstOf_X0 : ∀ w ∈ u_ws RX0 TX0 8, w ∈ wsX0_firstOf := fun _ h => List.mem_cons_of_mem _ (List.mem_append_right _ h)
theorem mb_X0_firstOf_1 : Cond.fieldLink RX0 27 (TX0 3).1 (TX0 3).2.1 (TX0 3).2.2.1 ∈ wsX0_firstOf := by decide +kernel
theorem mb_X0_firstOf_2 : Cond.fieldLink RX0 20 (TX0 1).1 (TX0 1).2.1 (TX0 1).2.2.1 ∈ wsX0_firstOf := by decide +kernel
abbrev rmX0_firstOf : Room := { frames := 0, cells := 0, slots := 0, locals := 0 }
set_option maxHeartbeats 4000000 in
set_option maxRecDepth 100000 in
theorem wk_X0_firstOf_2 {X : JC} {l : Launch} {D : va_G} {cB cI cJ : ClassId} (O : Jo X (l, D, cB, cI, cJ) cX0_firstOf 3 RX0 wsX0_firstOf rmX0_firstOf (some .int)) (h d db hk hs hu hn hg : Nat) (h_c : Int32) (h_e : Int32) (d_l : Int32) (d_f : Nat → Int8) (h_k : Nat → Int32) (h_s : Nat → Int32) (h_u : Nat → Int32) (h_n : Nat → Int64) (h_g : Nat → Int32) (a1 : Int32) (fu : Nat) {z : Int32} : ∀ (fn : Nat) (v2 : Int32), p_X0_firstOf_2 fu h_c h_k a1 fn v2 = some z → J X 3 (JQi X [(h, .inr (0, [.ref d, .ref hk, .ref hs, .int h_c, .ref hu, .ref hn, .ref hg, .int h_e])), (d, .inr (4, [.ref db, .int d_l])), (db, .inl (cB, 12000, .inl (b8 d_f))), (hk, .inl (cI, 60, .inl h_k)), (hs, .inl (cI, 61, .inl h_s)), (hu, .inl (cI, 40, .inl h_u)), (hn, .inl (cJ, 40, .inr (.inl h_n))), (hg, .inl (cI, 40, .inl h_g))] z 0 0) [(h, .inr (0, [.ref d, .ref hk, .ref hs, .int h_c, .ref hu, .ref hn, .ref hg, .int h_e])), (d, .inr (4, [.ref db, .int d_l])), (db, .inl (cB, 12000, .inl (b8 d_f))), (hk, .inl (cI, 60, .inl h_k)), (hs, .inl (cI, 61, .inl h_s)), (hu, .inl (cI, 40, .inl h_u)), (hn, .inl (cJ, 40, .inr (.inl h_n))), (hg, .inl (cI, 40, .inl h_g))] 0 0 2 [(0, .ref h), (1, .int a1), (2, .int v2)] [] := by
  intro fn
  induction fn with
  | zero =>
    intro v2 hf
    rw [p_X0_firstOf_2] at hf
    exact jt_n hf
  | succ fn ih =>
    intro v2 hf
    rw [p_X0_firstOf_2] at hf
    refine J_iload_n O (i := 2) (k0 := 2) (pc := 2) 2 rfl rfl dX0_firstOf_2 ?_
    refine J_aload_n O (i := 0) (k0 := 0) (pc := 3) 0 rfl rfl dX0_firstOf_3 ?_
    refine J_get O (pc := 4) in_X0_firstOf_X0 0 rfl rfl 3 (by decide) mb_X0_firstOf_1 rfl dX0_firstOf_4 ?_
    refine J_icmp_ge O (tgt := 28) (pc := 7) dX0_firstOf_7 (by decide) (fun c7 => ?_) (fun c7 => ?_)
    · have hf := jt_t c7 hf
      refine J_bipush O (v := (-2)) (pc := 28) (by decide) dX0_firstOf_28 ?_
      cases hf
      exact J_iret O (pc := 30) rfl dX0_firstOf_30
    · have hf := jt_f c7 hf
      refine J_aload_n O (i := 0) (k0 := 0) (pc := 10) 0 rfl rfl dX0_firstOf_10 ?_
      refine J_get O (pc := 11) in_X0_firstOf_X0 0 rfl rfl 1 (by decide) mb_X0_firstOf_2 rfl dX0_firstOf_11 ?_
      refine J_iload_n O (i := 2) (k0 := 2) (pc := 14) 2 rfl rfl dX0_firstOf_14 ?_
      obtain ⟨h15, hf⟩ := jt_g hf
      refine J_iald O (pc := 15) 3 1 rfl rfl h15 dX0_firstOf_15 ?_
      refine J_iload_n O (i := 1) (k0 := 1) (pc := 16) 1 rfl rfl dX0_firstOf_16 ?_
      refine J_icmp_ne O (tgt := 22) (pc := 17) dX0_firstOf_17 (by decide) (fun c17 => ?_) (fun c17 => ?_)
      · have hf := jt_f c17 hf
        refine J_iinc O (i := 2) (n := 1) (v := v2 + 1) (pc := 22) 2 rfl [(2, .int (v2 + 1)), (0, .ref h), (1, .int a1)] (by decide) (congrArg (_ + ·) (by decide)) rfl dX0_firstOf_22 ?_
        refine J_goto O (tgt := 2) (pc := 25) dX0_firstOf_25 (by decide) ?_
        refine J_sub [1, 2, 0] (lv' := [(0, .ref h), (1, .int a1), (2, .int (v2 + 1))]) rfl ?_
        exact ih (v2 + 1) hf
      · have hf := jt_t c17 hf
        refine J_iload_n O (i := 2) (k0 := 2) (pc := 20) 2 rfl rfl dX0_firstOf_20 ?_
        cases hf
        exact J_iret O (pc := 21) rfl dX0_firstOf_21
set_option maxHeartbeats 4000000 in
set_option maxRecDepth 100000 in
theorem c_X0_firstOf (l : Launch) (D : va_G) (cB cI cJ : ClassId) (h d db hk hs hu hn hg : Nat) (h_c : Int32) (h_e : Int32) (d_l : Int32) (d_f : Nat → Int8) (h_k : Nat → Int32) (h_s : Nat → Int32) (h_u : Nat → Int32) (h_n : Nat → Int64) (h_g : Nat → Int32) (a1 : Int32) (fu : Nat) {z : Int32} (hf : p_X0_firstOf fu h_c h_k a1 = some z) : Ci (l, D, cB, cI, cJ) yX0_firstOf wsX0_firstOf rmX0_firstOf [.ref h, .int a1] [(h, .inr (0, [.ref d, .ref hk, .ref hs, .int h_c, .ref hu, .ref hn, .ref hg, .int h_e])), (d, .inr (4, [.ref db, .int d_l])), (db, .inl (cB, 12000, .inl (b8 d_f))), (hk, .inl (cI, 60, .inl h_k)), (hs, .inl (cI, 61, .inl h_s)), (hu, .inl (cI, 40, .inl h_u)), (hn, .inl (cJ, 40, .inr (.inl h_n))), (hg, .inl (cI, 40, .inl h_g))] [(h, .inr (0, [.ref d, .ref hk, .ref hs, .int h_c, .ref hu, .ref hn, .ref hg, .int h_e])), (d, .inr (4, [.ref db, .int d_l])), (db, .inl (cB, 12000, .inl (b8 d_f))), (hk, .inl (cI, 60, .inl h_k)), (hs, .inl (cI, 61, .inl h_s)), (hu, .inl (cI, 40, .inl h_u)), (hn, .inl (cJ, 40, .inr (.inl h_n))), (hg, .inl (cI, 40, .inl h_g))] z := by
  refine Ci_of (cc := cX0_firstOf) (nL := 3) (own := RX0) (ret := (some .int)) (by decide) rfl rfl (Nat.le_of_ble_eq_true rfl) (fun X O hnm0 => ?_)
  rw [p_X0_firstOf] at hf
  show J X 3 (JQi X [(h, .inr (0, [.ref d, .ref hk, .ref hs, .int h_c, .ref hu, .ref hn, .ref hg, .int h_e])), (d, .inr (4, [.ref db, .int d_l])), (db, .inl (cB, 12000, .inl (b8 d_f))), (hk, .inl (cI, 60, .inl h_k)), (hs, .inl (cI, 61, .inl h_s)), (hu, .inl (cI, 40, .inl h_u)), (hn, .inl (cJ, 40, .inr (.inl h_n))), (hg, .inl (cI, 40, .inl h_g))] z 0 0) [(h, .inr (0, [.ref d, .ref hk, .ref hs, .int h_c, .ref hu, .ref hn, .ref hg, .int h_e])), (d, .inr (4, [.ref db, .int d_l])), (db, .inl (cB, 12000, .inl (b8 d_f))), (hk, .inl (cI, 60, .inl h_k)), (hs, .inl (cI, 61, .inl h_s)), (hu, .inl (cI, 40, .inl h_u)), (hn, .inl (cJ, 40, .inr (.inl h_n))), (hg, .inl (cI, 40, .inl h_g))] 0 0 0 [(0, .ref h), (1, .int a1)] []
  refine J_iconst O (v := 0) (pc := 0) (by decide) dX0_firstOf_0 ?_
  refine J_istore_n O (i := 2) (k0 := 2) (pc := 1) rfl [(2, .int 0), (0, .ref h), (1, .int a1)] (by decide) rfl dX0_firstOf_1 ?_
  refine J_sub [1, 2, 0] (lv' := [(0, .ref h), (1, .int a1), (2, .int 0)]) rfl ?_
  exact wk_X0_firstOf_2 O h d db hk hs hu hn hg h_c h_e d_l d_f h_k h_s h_u h_n h_g a1 fu fu 0 hf
theorem in_X0_firstWith_X0 : ∀ w ∈ u_ws RX0 TX0 8, w ∈ wsX0_firstWith := fun _ h => List.mem_cons_of_mem _ (List.mem_append_right _ h)
theorem mb_X0_firstWith_1 : Cond.fieldLink RX0 27 (TX0 3).1 (TX0 3).2.1 (TX0 3).2.2.1 ∈ wsX0_firstWith := by decide +kernel
theorem mb_X0_firstWith_2 : Cond.fieldLink RX0 20 (TX0 1).1 (TX0 1).2.1 (TX0 1).2.2.1 ∈ wsX0_firstWith := by decide +kernel
abbrev rmX0_firstWith : Room := { frames := 2, cells := 0, slots := 0, locals := 42 }
set_option maxHeartbeats 4000000 in
set_option maxRecDepth 100000 in
theorem wk_X0_firstWith_2 {X : JC} {l : Launch} {D : va_G} {cB cI cJ : ClassId} (O : Jo X (l, D, cB, cI, cJ) cX0_firstWith 4 RX0 wsX0_firstWith rmX0_firstWith (some .int)) (h d db hk hs hu hn hg : Nat) (h_c : Int32) (h_e : Int32) (d_l : Int32) (d_f : Nat → Int8) (h_k : Nat → Int32) (h_s : Nat → Int32) (h_u : Nat → Int32) (h_n : Nat → Int64) (h_g : Nat → Int32) (a1 : Int32) (a2 : Int32) (fu : Nat) {z : Int32} : ∀ (fn : Nat) (v3 : Int32), p_X0_firstWith_2 fu h_c h_k h_s a1 a2 fn v3 = some z → J X 4 (JQi X [(h, .inr (0, [.ref d, .ref hk, .ref hs, .int h_c, .ref hu, .ref hn, .ref hg, .int h_e])), (d, .inr (4, [.ref db, .int d_l])), (db, .inl (cB, 12000, .inl (b8 d_f))), (hk, .inl (cI, 60, .inl h_k)), (hs, .inl (cI, 61, .inl h_s)), (hu, .inl (cI, 40, .inl h_u)), (hn, .inl (cJ, 40, .inr (.inl h_n))), (hg, .inl (cI, 40, .inl h_g))] z 0 0) [(h, .inr (0, [.ref d, .ref hk, .ref hs, .int h_c, .ref hu, .ref hn, .ref hg, .int h_e])), (d, .inr (4, [.ref db, .int d_l])), (db, .inl (cB, 12000, .inl (b8 d_f))), (hk, .inl (cI, 60, .inl h_k)), (hs, .inl (cI, 61, .inl h_s)), (hu, .inl (cI, 40, .inl h_u)), (hn, .inl (cJ, 40, .inr (.inl h_n))), (hg, .inl (cI, 40, .inl h_g))] 0 0 2 [(0, .ref h), (1, .int a1), (2, .int a2), (3, .int v3)] [] := by
  intro fn
  induction fn with
  | zero =>
    intro v3 hf
    rw [p_X0_firstWith_2] at hf
    exact jt_n hf
  | succ fn ih =>
    intro v3 hf
    rw [p_X0_firstWith_2] at hf
    refine J_iload_n O (i := 3) (k0 := 3) (pc := 2) 3 rfl rfl dX0_firstWith_2 ?_
    refine J_aload_n O (i := 0) (k0 := 0) (pc := 3) 0 rfl rfl dX0_firstWith_3 ?_
    refine J_get O (pc := 4) in_X0_firstWith_X0 0 rfl rfl 3 (by decide) mb_X0_firstWith_1 rfl dX0_firstWith_4 ?_
    refine J_icmp_ge O (tgt := 37) (pc := 7) dX0_firstWith_7 (by decide) (fun c7 => ?_) (fun c7 => ?_)
    · have hf := jt_t c7 hf
      refine J_bipush O (v := (-2)) (pc := 37) (by decide) dX0_firstWith_37 ?_
      cases hf
      exact J_iret O (pc := 39) rfl dX0_firstWith_39
    · have hf := jt_f c7 hf
      refine J_aload_n O (i := 0) (k0 := 0) (pc := 10) 0 rfl rfl dX0_firstWith_10 ?_
      refine J_get O (pc := 11) in_X0_firstWith_X0 0 rfl rfl 1 (by decide) mb_X0_firstWith_2 rfl dX0_firstWith_11 ?_
      refine J_iload_n O (i := 3) (k0 := 3) (pc := 14) 3 rfl rfl dX0_firstWith_14 ?_
      obtain ⟨h15, hf⟩ := jt_g hf
      refine J_iald O (pc := 15) 3 1 rfl rfl h15 dX0_firstWith_15 ?_
      refine J_iload_n O (i := 1) (k0 := 1) (pc := 16) 1 rfl rfl dX0_firstWith_16 ?_
      refine J_icmp_ne O (tgt := 31) (pc := 17) dX0_firstWith_17 (by decide) (fun c17 => ?_) (fun c17 => ?_)
      · have hf := jt_f c17 hf
        refine J_iinc O (i := 3) (n := 1) (v := v3 + 1) (pc := 31) 3 rfl [(3, .int (v3 + 1)), (0, .ref h), (1, .int a1), (2, .int a2)] (by decide) (congrArg (_ + ·) (by decide)) rfl dX0_firstWith_31 ?_
        refine J_goto O (tgt := 2) (pc := 34) dX0_firstWith_34 (by decide) ?_
        refine J_sub [1, 2, 3, 0] (lv' := [(0, .ref h), (1, .int a1), (2, .int a2), (3, .int (v3 + 1))]) rfl ?_
        exact ih (v3 + 1) hf
      · have hf := jt_t c17 hf
        refine J_aload_n O (i := 0) (k0 := 0) (pc := 20) 0 rfl rfl dX0_firstWith_20 ?_
        refine J_iload_n O (i := 3) (k0 := 3) (pc := 21) 3 rfl rfl dX0_firstWith_21 ?_
        obtain ⟨z22, h22, hf⟩ := jt_b hf
        refine J_callVi O (pc := 22) (c_X0_lengthOf l D cB cI cJ h d db hk hs hu hn hg h_c h_e d_l d_f h_k h_s h_u h_n h_g v3 h22) rfl 0 rfl rfl gX0_firstWith_X0_lengthOf hdV_X0_lengthOf ⟨(Nat.le_of_ble_eq_true rfl), (Nat.le_of_ble_eq_true rfl)⟩ rfl (st := []) rfl (Nat.le_of_ble_eq_true rfl) [0, 1, 2, 3, 4, 5, 6, 7] [] rfl rfl rfl rfl rfl (by decide) [(h, .inr (0, [.ref d, .ref hk, .ref hs, .int h_c, .ref hu, .ref hn, .ref hg, .int h_e])), (d, .inr (4, [.ref db, .int d_l])), (db, .inl (cB, 12000, .inl (b8 d_f))), (hk, .inl (cI, 60, .inl h_k)), (hs, .inl (cI, 61, .inl h_s)), (hu, .inl (cI, 40, .inl h_u)), (hn, .inl (cJ, 40, .inr (.inl h_n))), (hg, .inl (cI, 40, .inl h_g))] [0, 1, 2, 3, 4, 5, 6, 7] rfl rfl rfl (0) (0) (Nat.le_of_ble_eq_true rfl) (Nat.le_of_ble_eq_true rfl) ⟨(Nat.le_of_ble_eq_true rfl), (Nat.le_of_ble_eq_true rfl)⟩ dX0_firstWith_22 ?_
        refine J_iload_n O (i := 2) (k0 := 2) (pc := 25) 2 rfl rfl dX0_firstWith_25 ?_
        refine J_icmp_ne O (tgt := 31) (pc := 26) dX0_firstWith_26 (by decide) (fun c26 => ?_) (fun c26 => ?_)
        · have hf := jt_f c26 hf
          refine J_iinc O (i := 3) (n := 1) (v := v3 + 1) (pc := 31) 3 rfl [(3, .int (v3 + 1)), (0, .ref h), (1, .int a1), (2, .int a2)] (by decide) (congrArg (_ + ·) (by decide)) rfl dX0_firstWith_31 ?_
          refine J_goto O (tgt := 2) (pc := 34) dX0_firstWith_34 (by decide) ?_
          refine J_sub [1, 2, 3, 0] (lv' := [(0, .ref h), (1, .int a1), (2, .int a2), (3, .int (v3 + 1))]) rfl ?_
          exact ih (v3 + 1) hf
        · have hf := jt_t c26 hf
          refine J_iload_n O (i := 3) (k0 := 3) (pc := 29) 3 rfl rfl dX0_firstWith_29 ?_
          cases hf
          exact J_iret O (pc := 30) rfl dX0_firstWith_30
set_option maxHeartbeats 4000000 in
set_option maxRecDepth 100000 in
theorem c_X0_firstWith (l : Launch) (D : va_G) (cB cI cJ : ClassId) (h d db hk hs hu hn hg : Nat) (h_c : Int32) (h_e : Int32) (d_l : Int32) (d_f : Nat → Int8) (h_k : Nat → Int32) (h_s : Nat → Int32) (h_u : Nat → Int32) (h_n : Nat → Int64) (h_g : Nat → Int32) (a1 : Int32) (a2 : Int32) (fu : Nat) {z : Int32} (hf : p_X0_firstWith fu h_c h_k h_s a1 a2 = some z) : Ci (l, D, cB, cI, cJ) yX0_firstWith wsX0_firstWith rmX0_firstWith [.ref h, .int a1, .int a2] [(h, .inr (0, [.ref d, .ref hk, .ref hs, .int h_c, .ref hu, .ref hn, .ref hg, .int h_e])), (d, .inr (4, [.ref db, .int d_l])), (db, .inl (cB, 12000, .inl (b8 d_f))), (hk, .inl (cI, 60, .inl h_k)), (hs, .inl (cI, 61, .inl h_s)), (hu, .inl (cI, 40, .inl h_u)), (hn, .inl (cJ, 40, .inr (.inl h_n))), (hg, .inl (cI, 40, .inl h_g))] [(h, .inr (0, [.ref d, .ref hk, .ref hs, .int h_c, .ref hu, .ref hn, .ref hg, .int h_e])), (d, .inr (4, [.ref db, .int d_l])), (db, .inl (cB, 12000, .inl (b8 d_f))), (hk, .inl (cI, 60, .inl h_k)), (hs, .inl (cI, 61, .inl h_s)), (hu, .inl (cI, 40, .inl h_u)), (hn, .inl (cJ, 40, .inr (.inl h_n))), (hg, .inl (cI, 40, .inl h_g))] z := by
  refine Ci_of (cc := cX0_firstWith) (nL := 4) (own := RX0) (ret := (some .int)) (by decide) rfl rfl (Nat.le_of_ble_eq_true rfl) (fun X O hnm0 => ?_)
  rw [p_X0_firstWith] at hf
  show J X 4 (JQi X [(h, .inr (0, [.ref d, .ref hk, .ref hs, .int h_c, .ref hu, .ref hn, .ref hg, .int h_e])), (d, .inr (4, [.ref db, .int d_l])), (db, .inl (cB, 12000, .inl (b8 d_f))), (hk, .inl (cI, 60, .inl h_k)), (hs, .inl (cI, 61, .inl h_s)), (hu, .inl (cI, 40, .inl h_u)), (hn, .inl (cJ, 40, .inr (.inl h_n))), (hg, .inl (cI, 40, .inl h_g))] z 0 0) [(h, .inr (0, [.ref d, .ref hk, .ref hs, .int h_c, .ref hu, .ref hn, .ref hg, .int h_e])), (d, .inr (4, [.ref db, .int d_l])), (db, .inl (cB, 12000, .inl (b8 d_f))), (hk, .inl (cI, 60, .inl h_k)), (hs, .inl (cI, 61, .inl h_s)), (hu, .inl (cI, 40, .inl h_u)), (hn, .inl (cJ, 40, .inr (.inl h_n))), (hg, .inl (cI, 40, .inl h_g))] 0 0 0 [(0, .ref h), (1, .int a1), (2, .int a2)] []
  refine J_iconst O (v := 0) (pc := 0) (by decide) dX0_firstWith_0 ?_
  refine J_istore_n O (i := 3) (k0 := 3) (pc := 1) rfl [(3, .int 0), (0, .ref h), (1, .int a1), (2, .int a2)] (by decide) rfl dX0_firstWith_1 ?_
  refine J_sub [1, 2, 3, 0] (lv' := [(0, .ref h), (1, .int a1), (2, .int a2), (3, .int 0)]) rfl ?_
  exact wk_X0_firstWith_2 O h d db hk hs hu hn hg h_c h_e d_l d_f h_k h_s h_u h_n h_g a1 a2 fu fu 0 hf
theorem in_X0_addChunk_X3 : ∀ w ∈ u_ws RX3 TX3 3, w ∈ wsX0_addChunk := fun _ h => List.mem_cons_of_mem _ (List.mem_append_left _ (List.mem_append_left _ (List.mem_append_right _ h)))
theorem mb_X0_addChunk_1 : Cond.fieldLink RX0 80 (TX3 2).1 (TX3 2).2.1 (TX3 2).2.2.1 ∈ wsX0_addChunk := by decide +kernel
theorem hdV_X0_hasChunkRoom : yX0_hasChunkRoom.cls = RX0 ∧ yX0_hasChunkRoom.cls ≠ "java/lang/invoke/MethodHandle" ∧ yX0_hasChunkRoom.cls ≠ "java/lang/invoke/VarHandle" ∧ (parseMethodDescriptor yX0_hasChunkRoom.desc).map (fun d => d.parameters.length) = some 1 := by decide +kernel
theorem in_X0_addChunk_X0 : ∀ w ∈ u_ws RX0 TX0 8, w ∈ wsX0_addChunk := fun _ h => List.mem_cons_of_mem _ (List.mem_append_left _ (List.mem_append_right _ h))
theorem mb_X0_addChunk_3 : Cond.fieldLink RX0 20 (TX0 1).1 (TX0 1).2.1 (TX0 1).2.2.1 ∈ wsX0_addChunk := by decide +kernel
theorem mb_X0_addChunk_4 : Cond.fieldLink RX0 27 (TX0 3).1 (TX0 3).2.1 (TX0 3).2.2.1 ∈ wsX0_addChunk := by decide +kernel
theorem mb_X0_addChunk_5 : Cond.fieldLink RX0 24 (TX0 2).1 (TX0 2).2.1 (TX0 2).2.2.1 ∈ wsX0_addChunk := by decide +kernel
theorem mb_X0_addChunk_6 : Cond.fieldLink RX0 14 (TX0 0).1 (TX0 0).2.1 (TX0 0).2.2.1 ∈ wsX0_addChunk := by decide +kernel
theorem in_X0_addChunk_X6 : ∀ w ∈ u_ws RX6 TX6 2, w ∈ wsX0_addChunk := fun _ h => List.mem_cons_of_mem _ (List.mem_append_right _ h)
theorem mb_X0_addChunk_8 : Cond.fieldLink RX0 86 (TX6 1).1 (TX6 1).2.1 (TX6 1).2.2.1 ∈ wsX0_addChunk := by decide +kernel
theorem hdV_X6_splice : yX6_splice.cls = RX6 ∧ yX6_splice.cls ≠ "java/lang/invoke/MethodHandle" ∧ yX6_splice.cls ≠ "java/lang/invoke/VarHandle" ∧ (parseMethodDescriptor yX6_splice.desc).map (fun d => d.parameters.length) = some 3 := by decide +kernel
abbrev rmX0_addChunk : Room := { frames := 2, cells := 0, slots := 0, locals := 64 }
set_option maxHeartbeats 4000000 in
set_option maxRecDepth 100000 in
theorem c_X0_addChunk (l : Launch) (D : va_G) (cB cI cJ : ClassId) (h d db hk hs hu hn hg q t tb t_n : Nat) (h_c : Int32) (h_e : Int32) (d_l : Int32) (d_f : Nat → Int8) (h_k : Nat → Int32) (h_s : Nat → Int32) (h_u : Nat → Int32) (h_n : Nat → Int64) (h_g : Nat → Int32) (q_o : Int32) (q_l : Int32) (t_l : Int32) (t_f : Nat → Int8) (a1 : Int32) {z : Int32 × Int32 × (Nat → Int8) × (Nat → Int32) × (Nat → Int32)} (hf : p_X0_addChunk t_n h_c d_l d_f h_k h_s q_o q_l t_f a1 = some z) : Cv (l, D, cB, cI, cJ) yX0_addChunk wsX0_addChunk rmX0_addChunk [.ref h, .int a1, .ref q] [(h, .inr (0, [.ref d, .ref hk, .ref hs, .int h_c, .ref hu, .ref hn, .ref hg, .int h_e])), (d, .inr (4, [.ref db, .int d_l])), (db, .inl (cB, 12000, .inl (b8 d_f))), (hk, .inl (cI, 60, .inl h_k)), (hs, .inl (cI, 61, .inl h_s)), (hu, .inl (cI, 40, .inl h_u)), (hn, .inl (cJ, 40, .inr (.inl h_n))), (hg, .inl (cI, 40, .inl h_g)), (q, .inr (2, [.ref t, .int q_o, .int q_l])), (t, .inr (4, [.ref tb, .int t_l])), (tb, .inl (cB, t_n, .inl (b8 t_f)))] [(h, .inr (0, [.ref d, .ref hk, .ref hs, .int z.1, .ref hu, .ref hn, .ref hg, .int h_e])), (d, .inr (4, [.ref db, .int z.2.1])), (db, .inl (cB, 12000, .inl (b8 z.2.2.1))), (hk, .inl (cI, 60, .inl z.2.2.2.1)), (hs, .inl (cI, 61, .inl z.2.2.2.2)), (hu, .inl (cI, 40, .inl h_u)), (hn, .inl (cJ, 40, .inr (.inl h_n))), (hg, .inl (cI, 40, .inl h_g)), (q, .inr (2, [.ref t, .int q_o, .int q_l])), (t, .inr (4, [.ref tb, .int t_l])), (tb, .inl (cB, t_n, .inl (b8 t_f)))] := by
  refine Cv_of (cc := cX0_addChunk) (nL := 3) (own := RX0) (ret := none) (by decide) rfl rfl (Nat.le_of_ble_eq_true rfl) (fun X O hnm0 => ?_)
  rw [p_X0_addChunk] at hf
  show J X 3 (JQv X [(h, .inr (0, [.ref d, .ref hk, .ref hs, .int z.1, .ref hu, .ref hn, .ref hg, .int h_e])), (d, .inr (4, [.ref db, .int z.2.1])), (db, .inl (cB, 12000, .inl (b8 z.2.2.1))), (hk, .inl (cI, 60, .inl z.2.2.2.1)), (hs, .inl (cI, 61, .inl z.2.2.2.2)), (hu, .inl (cI, 40, .inl h_u)), (hn, .inl (cJ, 40, .inr (.inl h_n))), (hg, .inl (cI, 40, .inl h_g)), (q, .inr (2, [.ref t, .int q_o, .int q_l])), (t, .inr (4, [.ref tb, .int t_l])), (tb, .inl (cB, t_n, .inl (b8 t_f)))] 0 0) [(h, .inr (0, [.ref d, .ref hk, .ref hs, .int h_c, .ref hu, .ref hn, .ref hg, .int h_e])), (d, .inr (4, [.ref db, .int d_l])), (db, .inl (cB, 12000, .inl (b8 d_f))), (hk, .inl (cI, 60, .inl h_k)), (hs, .inl (cI, 61, .inl h_s)), (hu, .inl (cI, 40, .inl h_u)), (hn, .inl (cJ, 40, .inr (.inl h_n))), (hg, .inl (cI, 40, .inl h_g)), (q, .inr (2, [.ref t, .int q_o, .int q_l])), (t, .inr (4, [.ref tb, .int t_l])), (tb, .inl (cB, t_n, .inl (b8 t_f)))] 0 0 0 [(0, .ref h), (1, .int a1), (2, .ref q)] []
  refine J_aload_n O (i := 0) (k0 := 0) (pc := 0) 0 rfl rfl dX0_addChunk_0 ?_
  refine J_aload_n O (i := 2) (k0 := 2) (pc := 1) 2 rfl rfl dX0_addChunk_1 ?_
  refine J_get O (pc := 2) in_X0_addChunk_X3 8 rfl rfl 2 (by decide) mb_X0_addChunk_1 rfl dX0_addChunk_2 ?_
  obtain ⟨z5, h5, hf⟩ := jt_b hf
  refine J_callVi O (pc := 5) (c_X0_hasChunkRoom l D cB cI cJ h d db hk hs hu hn hg h_c h_e d_l d_f h_k h_s h_u h_n h_g q_l h5) rfl 0 rfl rfl gX0_addChunk_X0_hasChunkRoom hdV_X0_hasChunkRoom ⟨(Nat.le_of_ble_eq_true rfl), (Nat.le_of_ble_eq_true rfl)⟩ rfl (st := []) rfl (Nat.le_of_ble_eq_true rfl) [0, 1, 2, 3, 4, 5, 6, 7] [8, 9, 10] rfl rfl rfl rfl rfl (by decide) [(h, .inr (0, [.ref d, .ref hk, .ref hs, .int h_c, .ref hu, .ref hn, .ref hg, .int h_e])), (d, .inr (4, [.ref db, .int d_l])), (db, .inl (cB, 12000, .inl (b8 d_f))), (hk, .inl (cI, 60, .inl h_k)), (hs, .inl (cI, 61, .inl h_s)), (hu, .inl (cI, 40, .inl h_u)), (hn, .inl (cJ, 40, .inr (.inl h_n))), (hg, .inl (cI, 40, .inl h_g)), (q, .inr (2, [.ref t, .int q_o, .int q_l])), (t, .inr (4, [.ref tb, .int t_l])), (tb, .inl (cB, t_n, .inl (b8 t_f)))] [3, 4, 5, 6, 7, 8, 9, 10, 0, 1, 2] rfl rfl rfl (0) (0) (Nat.le_of_ble_eq_true rfl) (Nat.le_of_ble_eq_true rfl) ⟨(Nat.le_of_ble_eq_true rfl), (Nat.le_of_ble_eq_true rfl)⟩ dX0_addChunk_5 ?_
  refine J_zne O (tgt := 12) (pc := 8) dX0_addChunk_8 (by decide) (fun c8 => ?_) (fun c8 => ?_)
  · have hf := jt_t c8 hf
    refine J_aload_n O (i := 0) (k0 := 0) (pc := 12) 0 rfl rfl dX0_addChunk_12 ?_
    refine J_get O (pc := 13) in_X0_addChunk_X0 0 rfl rfl 1 (by decide) mb_X0_addChunk_3 rfl dX0_addChunk_13 ?_
    refine J_aload_n O (i := 0) (k0 := 0) (pc := 16) 0 rfl rfl dX0_addChunk_16 ?_
    refine J_get O (pc := 17) in_X0_addChunk_X0 0 rfl rfl 3 (by decide) mb_X0_addChunk_4 rfl dX0_addChunk_17 ?_
    refine J_iload_n O (i := 1) (k0 := 1) (pc := 20) 1 rfl rfl dX0_addChunk_20 ?_
    obtain ⟨h21, hf⟩ := jt_g hf
    refine J_iast O (pc := 21) 3 1 rfl rfl h21 [(h, .inr (0, [.ref d, .ref hk, .ref hs, .int h_c, .ref hu, .ref hn, .ref hg, .int h_e])), (d, .inr (4, [.ref db, .int d_l])), (db, .inl (cB, 12000, .inl (b8 d_f))), (hk, .inl (cI, 60, .inl (upd h_k (Int32.toNatClampNeg h_c) a1))), (hs, .inl (cI, 61, .inl h_s)), (hu, .inl (cI, 40, .inl h_u)), (hn, .inl (cJ, 40, .inr (.inl h_n))), (hg, .inl (cI, 40, .inl h_g)), (q, .inr (2, [.ref t, .int q_o, .int q_l])), (t, .inr (4, [.ref tb, .int t_l])), (tb, .inl (cB, t_n, .inl (b8 t_f)))] rfl dX0_addChunk_21 ?_
    refine J_aload_n O (i := 0) (k0 := 0) (pc := 22) 0 rfl rfl dX0_addChunk_22 ?_
    refine J_get O (pc := 23) in_X0_addChunk_X0 0 rfl rfl 2 (by decide) mb_X0_addChunk_5 rfl dX0_addChunk_23 ?_
    refine J_aload_n O (i := 0) (k0 := 0) (pc := 26) 0 rfl rfl dX0_addChunk_26 ?_
    refine J_get O (pc := 27) in_X0_addChunk_X0 0 rfl rfl 3 (by decide) mb_X0_addChunk_4 rfl dX0_addChunk_27 ?_
    refine J_aload_n O (i := 0) (k0 := 0) (pc := 30) 0 rfl rfl dX0_addChunk_30 ?_
    refine J_get O (pc := 31) in_X0_addChunk_X0 0 rfl rfl 0 (by decide) mb_X0_addChunk_6 rfl dX0_addChunk_31 ?_
    refine J_get O (pc := 34) in_X0_addChunk_X6 1 rfl rfl 1 (by decide) mb_X0_addChunk_8 rfl dX0_addChunk_34 ?_
    obtain ⟨h37, hf⟩ := jt_g hf
    refine J_iast O (pc := 37) 4 1 rfl rfl h37 [(h, .inr (0, [.ref d, .ref hk, .ref hs, .int h_c, .ref hu, .ref hn, .ref hg, .int h_e])), (d, .inr (4, [.ref db, .int d_l])), (db, .inl (cB, 12000, .inl (b8 d_f))), (hk, .inl (cI, 60, .inl (upd h_k (Int32.toNatClampNeg h_c) a1))), (hs, .inl (cI, 61, .inl (upd h_s (Int32.toNatClampNeg h_c) d_l))), (hu, .inl (cI, 40, .inl h_u)), (hn, .inl (cJ, 40, .inr (.inl h_n))), (hg, .inl (cI, 40, .inl h_g)), (q, .inr (2, [.ref t, .int q_o, .int q_l])), (t, .inr (4, [.ref tb, .int t_l])), (tb, .inl (cB, t_n, .inl (b8 t_f)))] rfl dX0_addChunk_37 ?_
    refine J_aload_n O (i := 0) (k0 := 0) (pc := 38) 0 rfl rfl dX0_addChunk_38 ?_
    refine J_get O (pc := 39) in_X0_addChunk_X0 0 rfl rfl 0 (by decide) mb_X0_addChunk_6 rfl dX0_addChunk_39 ?_
    refine J_aload_n O (i := 0) (k0 := 0) (pc := 42) 0 rfl rfl dX0_addChunk_42 ?_
    refine J_get O (pc := 43) in_X0_addChunk_X0 0 rfl rfl 0 (by decide) mb_X0_addChunk_6 rfl dX0_addChunk_43 ?_
    refine J_get O (pc := 46) in_X0_addChunk_X6 1 rfl rfl 1 (by decide) mb_X0_addChunk_8 rfl dX0_addChunk_46 ?_
    refine J_iconst O (v := 0) (pc := 49) (by decide) dX0_addChunk_49 ?_
    refine J_aload_n O (i := 2) (k0 := 2) (pc := 50) 2 rfl rfl dX0_addChunk_50 ?_
    obtain ⟨z51, h51, hf⟩ := jt_b hf
    refine J_callVv O (pc := 51) (c_X6_spliceA l D cB cI cJ d db q t tb 12000 t_n d_l d_f q_o q_l t_l t_f d_l 0 h51) rfl 0 rfl rfl gX0_addChunk_X6_splice hdV_X6_splice ⟨(Nat.le_of_ble_eq_true rfl), (Nat.le_of_ble_eq_true rfl)⟩ rfl (st := []) rfl (Nat.le_of_ble_eq_true rfl) [1, 2, 8, 9, 10] [0, 3, 4, 5, 6, 7] rfl rfl rfl rfl rfl (by decide) [(h, .inr (0, [.ref d, .ref hk, .ref hs, .int h_c, .ref hu, .ref hn, .ref hg, .int h_e])), (d, .inr (4, [.ref db, .int z51.1])), (db, .inl (cB, 12000, .inl (b8 z51.2))), (hk, .inl (cI, 60, .inl (upd h_k (Int32.toNatClampNeg h_c) a1))), (hs, .inl (cI, 61, .inl (upd h_s (Int32.toNatClampNeg h_c) d_l))), (hu, .inl (cI, 40, .inl h_u)), (hn, .inl (cJ, 40, .inr (.inl h_n))), (hg, .inl (cI, 40, .inl h_g)), (q, .inr (2, [.ref t, .int q_o, .int q_l])), (t, .inr (4, [.ref tb, .int t_l])), (tb, .inl (cB, t_n, .inl (b8 t_f)))] [0, 6, 7, 1, 2, 3, 4, 5, 8, 9, 10] rfl rfl rfl (0) (0) (Nat.le_of_ble_eq_true rfl) (Nat.le_of_ble_eq_true rfl) ⟨(Nat.le_of_ble_eq_true rfl), (Nat.le_of_ble_eq_true rfl)⟩ dX0_addChunk_51 ?_
    refine J_aload_n O (i := 0) (k0 := 0) (pc := 54) 0 rfl rfl dX0_addChunk_54 ?_
    refine J_dup O (pc := 55) rfl dX0_addChunk_55 ?_
    refine J_get O (pc := 56) in_X0_addChunk_X0 0 rfl rfl 3 (by decide) mb_X0_addChunk_4 rfl dX0_addChunk_56 ?_
    refine J_iconst O (v := 1) (pc := 59) (by decide) dX0_addChunk_59 ?_
    refine J_iadd O (pc := 60) dX0_addChunk_60 ?_
    refine J_put O (pc := 61) in_X0_addChunk_X0 tyX0 tyX0_ok nmX0 0 rfl rfl 3 (by decide) mb_X0_addChunk_4 rfl rfl rfl (Nat.le_of_ble_eq_true rfl) [(h, .inr (0, [.ref d, .ref hk, .ref hs, .int (h_c + 1), .ref hu, .ref hn, .ref hg, .int h_e])), (d, .inr (4, [.ref db, .int z51.1])), (db, .inl (cB, 12000, .inl (b8 z51.2))), (hk, .inl (cI, 60, .inl (upd h_k (Int32.toNatClampNeg h_c) a1))), (hs, .inl (cI, 61, .inl (upd h_s (Int32.toNatClampNeg h_c) d_l))), (hu, .inl (cI, 40, .inl h_u)), (hn, .inl (cJ, 40, .inr (.inl h_n))), (hg, .inl (cI, 40, .inl h_g)), (q, .inr (2, [.ref t, .int q_o, .int q_l])), (t, .inr (4, [.ref tb, .int t_l])), (tb, .inl (cB, t_n, .inl (b8 t_f)))] rfl dX0_addChunk_61 ?_
    refine J_aload_n O (i := 0) (k0 := 0) (pc := 64) 0 rfl rfl dX0_addChunk_64 ?_
    refine J_get O (pc := 65) in_X0_addChunk_X0 0 rfl rfl 2 (by decide) mb_X0_addChunk_5 rfl dX0_addChunk_65 ?_
    refine J_aload_n O (i := 0) (k0 := 0) (pc := 68) 0 rfl rfl dX0_addChunk_68 ?_
    refine J_get O (pc := 69) in_X0_addChunk_X0 0 rfl rfl 3 (by decide) mb_X0_addChunk_4 rfl dX0_addChunk_69 ?_
    refine J_aload_n O (i := 0) (k0 := 0) (pc := 72) 0 rfl rfl dX0_addChunk_72 ?_
    refine J_get O (pc := 73) in_X0_addChunk_X0 0 rfl rfl 0 (by decide) mb_X0_addChunk_6 rfl dX0_addChunk_73 ?_
    refine J_get O (pc := 76) in_X0_addChunk_X6 1 rfl rfl 1 (by decide) mb_X0_addChunk_8 rfl dX0_addChunk_76 ?_
    obtain ⟨h79, hf⟩ := jt_g hf
    refine J_iast O (pc := 79) 4 1 rfl rfl h79 [(h, .inr (0, [.ref d, .ref hk, .ref hs, .int (h_c + 1), .ref hu, .ref hn, .ref hg, .int h_e])), (d, .inr (4, [.ref db, .int z51.1])), (db, .inl (cB, 12000, .inl (b8 z51.2))), (hk, .inl (cI, 60, .inl (upd h_k (Int32.toNatClampNeg h_c) a1))), (hs, .inl (cI, 61, .inl (upd (upd h_s (Int32.toNatClampNeg h_c) d_l) (Int32.toNatClampNeg (h_c + 1)) z51.1))), (hu, .inl (cI, 40, .inl h_u)), (hn, .inl (cJ, 40, .inr (.inl h_n))), (hg, .inl (cI, 40, .inl h_g)), (q, .inr (2, [.ref t, .int q_o, .int q_l])), (t, .inr (4, [.ref tb, .int t_l])), (tb, .inl (cB, t_n, .inl (b8 t_f)))] rfl dX0_addChunk_79 ?_
    cases hf
    exact J_vret O (pc := 80) dX0_addChunk_80
  · have hf := jt_f c8 hf
    cases hf
    exact J_vret O (pc := 11) dX0_addChunk_11
theorem in_X0_addEntry_X0 : ∀ w ∈ u_ws RX0 TX0 8, w ∈ wsX0_addEntry := fun _ h => List.mem_cons_of_mem _ (List.mem_append_right _ h)
theorem mb_X0_addEntry_1 : Cond.fieldLink RX0 41 (TX0 7).1 (TX0 7).2.1 (TX0 7).2.2.1 ∈ wsX0_addEntry := by decide +kernel
theorem mb_X0_addEntry_2 : Cond.fieldLink RX0 31 (TX0 4).1 (TX0 4).2.1 (TX0 4).2.2.1 ∈ wsX0_addEntry := by decide +kernel
theorem mb_X0_addEntry_3 : Cond.fieldLink RX0 34 (TX0 5).1 (TX0 5).2.1 (TX0 5).2.2.1 ∈ wsX0_addEntry := by decide +kernel
theorem mb_X0_addEntry_4 : Cond.fieldLink RX0 38 (TX0 6).1 (TX0 6).2.1 (TX0 6).2.2.1 ∈ wsX0_addEntry := by decide +kernel
abbrev rmX0_addEntry : Room := { frames := 0, cells := 0, slots := 0, locals := 0 }
set_option maxHeartbeats 4000000 in
set_option maxRecDepth 100000 in
theorem c_X0_addEntry (l : Launch) (D : va_G) (cB cI cJ : ClassId) (h d db hk hs hu hn hg : Nat) (h_c : Int32) (h_e : Int32) (d_l : Int32) (d_f : Nat → Int8) (h_k : Nat → Int32) (h_s : Nat → Int32) (h_u : Nat → Int32) (h_n : Nat → Int64) (h_g : Nat → Int32) (a1 : Int32) (a2 : Int64) (a4 : Int32) {z : Int32 × (Nat → Int32) × (Nat → Int64) × (Nat → Int32)} (hf : p_X0_addEntry h_e h_u h_n h_g a1 a2 a4 = some z) : Cv (l, D, cB, cI, cJ) yX0_addEntry wsX0_addEntry rmX0_addEntry [.ref h, .int a1, .long a2, .int a4] [(h, .inr (0, [.ref d, .ref hk, .ref hs, .int h_c, .ref hu, .ref hn, .ref hg, .int h_e])), (d, .inr (4, [.ref db, .int d_l])), (db, .inl (cB, 12000, .inl (b8 d_f))), (hk, .inl (cI, 60, .inl h_k)), (hs, .inl (cI, 61, .inl h_s)), (hu, .inl (cI, 40, .inl h_u)), (hn, .inl (cJ, 40, .inr (.inl h_n))), (hg, .inl (cI, 40, .inl h_g))] [(h, .inr (0, [.ref d, .ref hk, .ref hs, .int h_c, .ref hu, .ref hn, .ref hg, .int z.1])), (d, .inr (4, [.ref db, .int d_l])), (db, .inl (cB, 12000, .inl (b8 d_f))), (hk, .inl (cI, 60, .inl h_k)), (hs, .inl (cI, 61, .inl h_s)), (hu, .inl (cI, 40, .inl z.2.1)), (hn, .inl (cJ, 40, .inr (.inl z.2.2.1))), (hg, .inl (cI, 40, .inl z.2.2.2))] := by
  refine Cv_of (cc := cX0_addEntry) (nL := 5) (own := RX0) (ret := none) (by decide) rfl rfl (Nat.le_of_ble_eq_true rfl) (fun X O hnm0 => ?_)
  rw [p_X0_addEntry] at hf
  show J X 5 (JQv X [(h, .inr (0, [.ref d, .ref hk, .ref hs, .int h_c, .ref hu, .ref hn, .ref hg, .int z.1])), (d, .inr (4, [.ref db, .int d_l])), (db, .inl (cB, 12000, .inl (b8 d_f))), (hk, .inl (cI, 60, .inl h_k)), (hs, .inl (cI, 61, .inl h_s)), (hu, .inl (cI, 40, .inl z.2.1)), (hn, .inl (cJ, 40, .inr (.inl z.2.2.1))), (hg, .inl (cI, 40, .inl z.2.2.2))] 0 0) [(h, .inr (0, [.ref d, .ref hk, .ref hs, .int h_c, .ref hu, .ref hn, .ref hg, .int h_e])), (d, .inr (4, [.ref db, .int d_l])), (db, .inl (cB, 12000, .inl (b8 d_f))), (hk, .inl (cI, 60, .inl h_k)), (hs, .inl (cI, 61, .inl h_s)), (hu, .inl (cI, 40, .inl h_u)), (hn, .inl (cJ, 40, .inr (.inl h_n))), (hg, .inl (cI, 40, .inl h_g))] 0 0 0 [(0, .ref h), (1, .int a1), (2, .long a2), (4, .int a4)] []
  refine J_aload_n O (i := 0) (k0 := 0) (pc := 0) 0 rfl rfl dX0_addEntry_0 ?_
  refine J_get O (pc := 1) in_X0_addEntry_X0 0 rfl rfl 7 (by decide) mb_X0_addEntry_1 rfl dX0_addEntry_1 ?_
  refine J_bipush O (v := 40) (pc := 4) (by decide) dX0_addEntry_4 ?_
  refine J_icmp_lt O (tgt := 10) (pc := 6) dX0_addEntry_6 (by decide) (fun c6 => ?_) (fun c6 => ?_)
  · have hf := jt_t c6 hf
    refine J_aload_n O (i := 0) (k0 := 0) (pc := 10) 0 rfl rfl dX0_addEntry_10 ?_
    refine J_get O (pc := 11) in_X0_addEntry_X0 0 rfl rfl 4 (by decide) mb_X0_addEntry_2 rfl dX0_addEntry_11 ?_
    refine J_aload_n O (i := 0) (k0 := 0) (pc := 14) 0 rfl rfl dX0_addEntry_14 ?_
    refine J_get O (pc := 15) in_X0_addEntry_X0 0 rfl rfl 7 (by decide) mb_X0_addEntry_1 rfl dX0_addEntry_15 ?_
    refine J_iload_n O (i := 1) (k0 := 1) (pc := 18) 1 rfl rfl dX0_addEntry_18 ?_
    obtain ⟨h19, hf⟩ := jt_g hf
    refine J_iast O (pc := 19) 5 1 rfl rfl h19 [(h, .inr (0, [.ref d, .ref hk, .ref hs, .int h_c, .ref hu, .ref hn, .ref hg, .int h_e])), (d, .inr (4, [.ref db, .int d_l])), (db, .inl (cB, 12000, .inl (b8 d_f))), (hk, .inl (cI, 60, .inl h_k)), (hs, .inl (cI, 61, .inl h_s)), (hu, .inl (cI, 40, .inl (upd h_u (Int32.toNatClampNeg h_e) a1))), (hn, .inl (cJ, 40, .inr (.inl h_n))), (hg, .inl (cI, 40, .inl h_g))] rfl dX0_addEntry_19 ?_
    refine J_aload_n O (i := 0) (k0 := 0) (pc := 20) 0 rfl rfl dX0_addEntry_20 ?_
    refine J_get O (pc := 21) in_X0_addEntry_X0 0 rfl rfl 5 (by decide) mb_X0_addEntry_3 rfl dX0_addEntry_21 ?_
    refine J_aload_n O (i := 0) (k0 := 0) (pc := 24) 0 rfl rfl dX0_addEntry_24 ?_
    refine J_get O (pc := 25) in_X0_addEntry_X0 0 rfl rfl 7 (by decide) mb_X0_addEntry_1 rfl dX0_addEntry_25 ?_
    refine J_lload_n O (i := 2) (k0 := 2) (pc := 28) 2 rfl rfl dX0_addEntry_28 ?_
    obtain ⟨h29, hf⟩ := jt_g hf
    refine J_last O (pc := 29) 6 2 rfl rfl h29 [(h, .inr (0, [.ref d, .ref hk, .ref hs, .int h_c, .ref hu, .ref hn, .ref hg, .int h_e])), (d, .inr (4, [.ref db, .int d_l])), (db, .inl (cB, 12000, .inl (b8 d_f))), (hk, .inl (cI, 60, .inl h_k)), (hs, .inl (cI, 61, .inl h_s)), (hu, .inl (cI, 40, .inl (upd h_u (Int32.toNatClampNeg h_e) a1))), (hn, .inl (cJ, 40, .inr (.inl (vp_updL h_n (Int32.toNatClampNeg h_e) a2)))), (hg, .inl (cI, 40, .inl h_g))] rfl dX0_addEntry_29 ?_
    refine J_aload_n O (i := 0) (k0 := 0) (pc := 30) 0 rfl rfl dX0_addEntry_30 ?_
    refine J_get O (pc := 31) in_X0_addEntry_X0 0 rfl rfl 6 (by decide) mb_X0_addEntry_4 rfl dX0_addEntry_31 ?_
    refine J_aload_n O (i := 0) (k0 := 0) (pc := 34) 0 rfl rfl dX0_addEntry_34 ?_
    refine J_get O (pc := 35) in_X0_addEntry_X0 0 rfl rfl 7 (by decide) mb_X0_addEntry_1 rfl dX0_addEntry_35 ?_
    refine J_iload O (i := 4) (pc := 38) 3 rfl dX0_addEntry_38 ?_
    obtain ⟨h40, hf⟩ := jt_g hf
    refine J_iast O (pc := 40) 7 1 rfl rfl h40 [(h, .inr (0, [.ref d, .ref hk, .ref hs, .int h_c, .ref hu, .ref hn, .ref hg, .int h_e])), (d, .inr (4, [.ref db, .int d_l])), (db, .inl (cB, 12000, .inl (b8 d_f))), (hk, .inl (cI, 60, .inl h_k)), (hs, .inl (cI, 61, .inl h_s)), (hu, .inl (cI, 40, .inl (upd h_u (Int32.toNatClampNeg h_e) a1))), (hn, .inl (cJ, 40, .inr (.inl (vp_updL h_n (Int32.toNatClampNeg h_e) a2)))), (hg, .inl (cI, 40, .inl (upd h_g (Int32.toNatClampNeg h_e) a4)))] rfl dX0_addEntry_40 ?_
    refine J_aload_n O (i := 0) (k0 := 0) (pc := 41) 0 rfl rfl dX0_addEntry_41 ?_
    refine J_dup O (pc := 42) rfl dX0_addEntry_42 ?_
    refine J_get O (pc := 43) in_X0_addEntry_X0 0 rfl rfl 7 (by decide) mb_X0_addEntry_1 rfl dX0_addEntry_43 ?_
    refine J_iconst O (v := 1) (pc := 46) (by decide) dX0_addEntry_46 ?_
    refine J_iadd O (pc := 47) dX0_addEntry_47 ?_
    refine J_put O (pc := 48) in_X0_addEntry_X0 tyX0 tyX0_ok nmX0 0 rfl rfl 7 (by decide) mb_X0_addEntry_1 rfl rfl rfl (Nat.le_of_ble_eq_true rfl) [(h, .inr (0, [.ref d, .ref hk, .ref hs, .int h_c, .ref hu, .ref hn, .ref hg, .int (h_e + 1)])), (d, .inr (4, [.ref db, .int d_l])), (db, .inl (cB, 12000, .inl (b8 d_f))), (hk, .inl (cI, 60, .inl h_k)), (hs, .inl (cI, 61, .inl h_s)), (hu, .inl (cI, 40, .inl (upd h_u (Int32.toNatClampNeg h_e) a1))), (hn, .inl (cJ, 40, .inr (.inl (vp_updL h_n (Int32.toNatClampNeg h_e) a2)))), (hg, .inl (cI, 40, .inl (upd h_g (Int32.toNatClampNeg h_e) a4)))] rfl dX0_addEntry_48 ?_
    cases hf
    exact J_vret O (pc := 51) dX0_addEntry_51
  · have hf := jt_f c6 hf
    cases hf
    exact J_vret O (pc := 9) dX0_addEntry_9
