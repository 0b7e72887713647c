theorem in_X6_room_X6 : ∀ w ∈ u_ws RX6 TX6 2, w ∈ wsX6_room := fun _ h => List.mem_cons_of_mem _ (List.mem_append_right _ h)
theorem mb_X6_room_1 : Cond.fieldLink RX6 13 (TX6 0).1 (TX6 0).2.1 (TX6 0).2.2.1 ∈ wsX6_room := by decide +kernel
theorem mb_X6_room_2 : Cond.fieldLink RX6 19 (TX6 1).1 (TX6 1).2.1 (TX6 1).2.2.1 ∈ wsX6_room := by decide +kernel
abbrev rmX6_room : Room := { frames := 0, cells := 0, slots := 0, locals := 0 }
set_option maxHeartbeats 4000000 in
set_option maxRecDepth 100000 in
theorem c_X6_room (l : Launch) (D : va_G) (cB cI cJ : ClassId) (t tb t_n : Nat) (t_l : Int32) (t_f : Nat → Int8) {z : Int32} (hf : p_X6_room t_n t_l = some z) : Ci (l, D, cB, cI, cJ) yX6_room wsX6_room rmX6_room [.ref t] [(t, .inr (4, [.ref tb, .int t_l])), (tb, .inl (cB, t_n, .inl (b8 t_f)))] [(t, .inr (4, [.ref tb, .int t_l])), (tb, .inl (cB, t_n, .inl (b8 t_f)))] z := by
  refine Ci_of (cc := cX6_room) (nL := 1) (own := RX6) (ret := (some .int)) (by decide) rfl rfl (Nat.le_of_ble_eq_true rfl) (fun X O hnm0 => ?_)
  rw [p_X6_room] at hf
  show J X 1 (JQi X [(t, .inr (4, [.ref tb, .int t_l])), (tb, .inl (cB, t_n, .inl (b8 t_f)))] z 0 0) [(t, .inr (4, [.ref tb, .int t_l])), (tb, .inl (cB, t_n, .inl (b8 t_f)))] 0 0 0 [(0, .ref t)] []
  refine J_aload_n O (i := 0) (k0 := 0) (pc := 0) 0 rfl rfl dX6_room_0 ?_
  refine J_get O (pc := 1) in_X6_room_X6 0 rfl rfl 0 (by decide) mb_X6_room_1 rfl dX6_room_1 ?_
  refine J_alen O (pc := 4) 1 0 rfl rfl dX6_room_4 ?_
  refine J_aload_n O (i := 0) (k0 := 0) (pc := 5) 0 rfl rfl dX6_room_5 ?_
  refine J_get O (pc := 6) in_X6_room_X6 0 rfl rfl 1 (by decide) mb_X6_room_2 rfl dX6_room_6 ?_
  refine J_isub O (pc := 9) dX6_room_9 ?_
  cases hf
  exact J_iret O (pc := 10) rfl dX6_room_10
theorem in_X6_keep_X6 : ∀ w ∈ u_ws RX6 TX6 2, w ∈ wsX6_keep := fun _ h => List.mem_cons_of_mem _ (List.mem_append_right _ h)
theorem mb_X6_keep_1 : Cond.fieldLink RX6 19 (TX6 1).1 (TX6 1).2.1 (TX6 1).2.2.1 ∈ wsX6_keep := by decide +kernel
abbrev rmX6_keep : Room := { frames := 0, cells := 0, slots := 0, locals := 0 }
set_option maxHeartbeats 4000000 in
set_option maxRecDepth 100000 in
theorem c_X6_keep (l : Launch) (D : va_G) (cB cI cJ : ClassId) (t tb t_n : Nat) (t_l : Int32) (t_f : Nat → Int8) (a1 : Int32) {z : Int32} (hf : p_X6_keep t_l a1 = some z) : Cv (l, D, cB, cI, cJ) yX6_keep wsX6_keep rmX6_keep [.ref t, .int a1] [(t, .inr (4, [.ref tb, .int t_l])), (tb, .inl (cB, t_n, .inl (b8 t_f)))] [(t, .inr (4, [.ref tb, .int z])), (tb, .inl (cB, t_n, .inl (b8 t_f)))] := by
  refine Cv_of (cc := cX6_keep) (nL := 2) (own := RX6) (ret := none) (by decide) rfl rfl (Nat.le_of_ble_eq_true rfl) (fun X O hnm0 => ?_)
  rw [p_X6_keep] at hf
  show J X 2 (JQv X [(t, .inr (4, [.ref tb, .int z])), (tb, .inl (cB, t_n, .inl (b8 t_f)))] 0 0) [(t, .inr (4, [.ref tb, .int t_l])), (tb, .inl (cB, t_n, .inl (b8 t_f)))] 0 0 0 [(0, .ref t), (1, .int a1)] []
  refine J_iload_n O (i := 1) (k0 := 1) (pc := 0) 1 rfl rfl dX6_keep_0 ?_
  refine J_if_lt O (tgt := 17) (pc := 1) dX6_keep_1 (by decide) (fun c1 => ?_) (fun c1 => ?_)
  · have hf := jt_t c1 hf
    cases hf
    exact J_vret O (pc := 17) dX6_keep_17
  · have hf := jt_f c1 hf
    refine J_iload_n O (i := 1) (k0 := 1) (pc := 4) 1 rfl rfl dX6_keep_4 ?_
    refine J_aload_n O (i := 0) (k0 := 0) (pc := 5) 0 rfl rfl dX6_keep_5 ?_
    refine J_get O (pc := 6) in_X6_keep_X6 0 rfl rfl 1 (by decide) mb_X6_keep_1 rfl dX6_keep_6 ?_
    refine J_icmp_gt O (tgt := 17) (pc := 9) dX6_keep_9 (by decide) (fun c9 => ?_) (fun c9 => ?_)
    · have hf := jt_t c9 hf
      cases hf
      exact J_vret O (pc := 17) dX6_keep_17
    · have hf := jt_f c9 hf
      refine J_aload_n O (i := 0) (k0 := 0) (pc := 12) 0 rfl rfl dX6_keep_12 ?_
      refine J_iload_n O (i := 1) (k0 := 1) (pc := 13) 1 rfl rfl dX6_keep_13 ?_
      refine J_put O (pc := 14) in_X6_keep_X6 tyX6 tyX6_ok nmX6 0 rfl rfl 1 (by decide) mb_X6_keep_1 rfl rfl rfl (Nat.le_of_ble_eq_true rfl) [(t, .inr (4, [.ref tb, .int a1])), (tb, .inl (cB, t_n, .inl (b8 t_f)))] rfl dX6_keep_14 ?_
      cases hf
      exact J_vret O (pc := 17) dX6_keep_17
theorem hdV_X6_room : yX6_room.cls = RX6 ∧ yX6_room.cls ≠ "java/lang/invoke/MethodHandle" ∧ yX6_room.cls ≠ "java/lang/invoke/VarHandle" ∧ (parseMethodDescriptor yX6_room.desc).map (fun d => d.parameters.length) = some 0 := by decide +kernel
theorem in_X6_append_X6 : ∀ w ∈ u_ws RX6 TX6 2, w ∈ wsX6_append := fun _ h => List.mem_cons_of_mem _ (List.mem_append_right _ h)
theorem mb_X6_append_1 : Cond.fieldLink RX6 13 (TX6 0).1 (TX6 0).2.1 (TX6 0).2.2.1 ∈ wsX6_append := by decide +kernel
theorem mb_X6_append_2 : Cond.fieldLink RX6 19 (TX6 1).1 (TX6 1).2.1 (TX6 1).2.2.1 ∈ wsX6_append := by decide +kernel
abbrev rmX6_append : Room := { frames := 1, cells := 0, slots := 0, locals := 20 }
set_option maxHeartbeats 4000000 in
set_option maxRecDepth 100000 in
theorem wk_X6_append_22 {X : JC} {l : Launch} {D : va_G} {cB cI cJ : ClassId} (O : Jo X (l, D, cB, cI, cJ) cX6_append 5 RX6 wsX6_append rmX6_append none) (t tb : Nat) (t_n : Nat) (a1 : Int32) (a2 : Int64) (fu : Nat) {z : Int32 × (Nat → Int8)} : ∀ (fn : Nat) (v4 : Int32) (t_l : Int32) (t_f : Nat → Int8), p_X6_append_22 fu t_n a1 a2 fn v4 t_l t_f = some z → J X 5 (JQv X [(t, .inr (4, [.ref tb, .int z.1])), (tb, .inl (cB, t_n, .inl (b8 z.2)))] 0 0) [(t, .inr (4, [.ref tb, .int t_l])), (tb, .inl (cB, t_n, .inl (b8 t_f)))] 0 0 22 [(0, .ref t), (2, .long a2), (4, .int v4)] [] := by
  intro fn
  induction fn with
  | zero =>
    intro v4 t_l t_f hf
    rw [p_X6_append_22] at hf
    exact jt_n hf
  | succ fn ih =>
    intro v4 t_l t_f hf
    rw [p_X6_append_22] at hf
    refine J_iload O (i := 4) (pc := 22) 2 rfl dX6_append_22 ?_
    refine J_if_le O (tgt := 63) (pc := 24) dX6_append_24 (by decide) (fun c24 => ?_) (fun c24 => ?_)
    · have hf := jt_t c24 hf
      cases hf
      exact J_vret O (pc := 63) dX6_append_63
    · have hf := jt_f c24 hf
      refine J_aload_n O (i := 0) (k0 := 0) (pc := 27) 0 rfl rfl dX6_append_27 ?_
      refine J_get O (pc := 28) in_X6_append_X6 0 rfl rfl 0 (by decide) mb_X6_append_1 rfl dX6_append_28 ?_
      refine J_aload_n O (i := 0) (k0 := 0) (pc := 31) 0 rfl rfl dX6_append_31 ?_
      refine J_get O (pc := 32) in_X6_append_X6 0 rfl rfl 1 (by decide) mb_X6_append_2 rfl dX6_append_32 ?_
      refine J_lload_n O (i := 2) (k0 := 2) (pc := 35) 1 rfl rfl dX6_append_35 ?_
      refine J_bipush O (v := 8) (pc := 36) (by decide) dX6_append_36 ?_
      refine J_iload O (i := 4) (pc := 38) 2 rfl dX6_append_38 ?_
      refine J_iconst O (v := 1) (pc := 40) (by decide) dX6_append_40 ?_
      refine J_isub O (pc := 41) dX6_append_41 ?_
      refine J_imul O (pc := 42) dX6_append_42 ?_
      refine J_lushr O (pc := 43) dX6_append_43 ?_
      refine J_l2i O (pc := 44) dX6_append_44 ?_
      refine J_i2b O (pc := 45) dX6_append_45 ?_
      obtain ⟨h46, hf⟩ := jt_g hf
      refine J_bast O (pc := 46) 1 0 rfl rfl h46 [(t, .inr (4, [.ref tb, .int t_l])), (tb, .inl (cB, t_n, .inl (b8 (up8 t_f (Int32.toNatClampNeg t_l) (Int32.toInt8 (Int8.toInt32 (Int32.toInt8 (Int64.toInt32 ((a2.toUInt64 >>> ((8 * (v4 - 1)).toInt64.toUInt64 &&& Int64.toUInt64 63)).toInt64)))))))))] rfl dX6_append_46 ?_
      refine J_aload_n O (i := 0) (k0 := 0) (pc := 47) 0 rfl rfl dX6_append_47 ?_
      refine J_dup O (pc := 48) rfl dX6_append_48 ?_
      refine J_get O (pc := 49) in_X6_append_X6 0 rfl rfl 1 (by decide) mb_X6_append_2 rfl dX6_append_49 ?_
      refine J_iconst O (v := 1) (pc := 52) (by decide) dX6_append_52 ?_
      refine J_iadd O (pc := 53) dX6_append_53 ?_
      refine J_put O (pc := 54) in_X6_append_X6 tyX6 tyX6_ok nmX6 0 rfl rfl 1 (by decide) mb_X6_append_2 rfl rfl rfl (Nat.le_of_ble_eq_true rfl) [(t, .inr (4, [.ref tb, .int (t_l + 1)])), (tb, .inl (cB, t_n, .inl (b8 (up8 t_f (Int32.toNatClampNeg t_l) (Int32.toInt8 (Int8.toInt32 (Int32.toInt8 (Int64.toInt32 ((a2.toUInt64 >>> ((8 * (v4 - 1)).toInt64.toUInt64 &&& Int64.toUInt64 63)).toInt64)))))))))] rfl dX6_append_54 ?_
      refine J_iinc O (i := 4) (n := (-1)) (v := v4 + (-1)) (pc := 57) 2 rfl [(4, .int (v4 + (-1))), (0, .ref t), (2, .long a2)] (by decide) (congrArg (_ + ·) (by decide)) rfl dX6_append_57 ?_
      refine J_goto O (tgt := 22) (pc := 60) dX6_append_60 (by decide) ?_
      refine J_sub [1, 2, 0] (lv' := [(0, .ref t), (2, .long a2), (4, .int (v4 + (-1)))]) rfl ?_
      exact ih (v4 + (-1)) (t_l + 1) (up8 t_f (Int32.toNatClampNeg t_l) (Int32.toInt8 (Int8.toInt32 (Int32.toInt8 (Int64.toInt32 ((a2.toUInt64 >>> ((8 * (v4 - 1)).toInt64.toUInt64 &&& Int64.toUInt64 63)).toInt64)))))) hf
set_option maxHeartbeats 4000000 in
set_option maxRecDepth 100000 in
theorem c_X6_append (l : Launch) (D : va_G) (cB cI cJ : ClassId) (t tb t_n : Nat) (t_l : Int32) (t_f : Nat → Int8) (a1 : Int32) (a2 : Int64) (fu : Nat) {z : Int32 × (Nat → Int8)} (hf : p_X6_append fu t_n t_l t_f a1 a2 = some z) : Cv (l, D, cB, cI, cJ) yX6_append wsX6_append rmX6_append [.ref t, .int a1, .long a2] [(t, .inr (4, [.ref tb, .int t_l])), (tb, .inl (cB, t_n, .inl (b8 t_f)))] [(t, .inr (4, [.ref tb, .int z.1])), (tb, .inl (cB, t_n, .inl (b8 z.2)))] := by
  refine Cv_of (cc := cX6_append) (nL := 5) (own := RX6) (ret := none) (by decide) rfl rfl (Nat.le_of_ble_eq_true rfl) (fun X O hnm0 => ?_)
  rw [p_X6_append] at hf
  show J X 5 (JQv X [(t, .inr (4, [.ref tb, .int z.1])), (tb, .inl (cB, t_n, .inl (b8 z.2)))] 0 0) [(t, .inr (4, [.ref tb, .int t_l])), (tb, .inl (cB, t_n, .inl (b8 t_f)))] 0 0 0 [(0, .ref t), (1, .int a1), (2, .long a2)] []
  refine J_iload_n O (i := 1) (k0 := 1) (pc := 0) 1 rfl rfl dX6_append_0 ?_
  refine J_if_lt O (tgt := 18) (pc := 1) dX6_append_1 (by decide) (fun c1 => ?_) (fun c1 => ?_)
  · have hf := jt_t c1 hf
    cases hf
    exact J_vret O (pc := 18) dX6_append_18
  · have hf := jt_f c1 hf
    refine J_iload_n O (i := 1) (k0 := 1) (pc := 4) 1 rfl rfl dX6_append_4 ?_
    refine J_bipush O (v := 8) (pc := 5) (by decide) dX6_append_5 ?_
    refine J_icmp_gt O (tgt := 18) (pc := 7) dX6_append_7 (by decide) (fun c7 => ?_) (fun c7 => ?_)
    · have hf := jt_t c7 hf
      cases hf
      exact J_vret O (pc := 18) dX6_append_18
    · have hf := jt_f c7 hf
      refine J_iload_n O (i := 1) (k0 := 1) (pc := 10) 1 rfl rfl dX6_append_10 ?_
      refine J_aload_n O (i := 0) (k0 := 0) (pc := 11) 0 rfl rfl dX6_append_11 ?_
      obtain ⟨z12, h12, hf⟩ := jt_b hf
      refine J_callVi O (pc := 12) (c_X6_room l D cB cI cJ t tb t_n t_l t_f h12) rfl 0 rfl rfl gX6_append_X6_room hdV_X6_room ⟨(Nat.le_of_ble_eq_true rfl), (Nat.le_of_ble_eq_true rfl)⟩ rfl (st := [.int a1]) rfl (Nat.le_of_ble_eq_true rfl) [0, 1] [] rfl rfl rfl rfl rfl (by decide) [(t, .inr (4, [.ref tb, .int t_l])), (tb, .inl (cB, t_n, .inl (b8 t_f)))] [0, 1] rfl rfl rfl (0) (0) (Nat.le_of_ble_eq_true rfl) (Nat.le_of_ble_eq_true rfl) ⟨(Nat.le_of_ble_eq_true rfl), (Nat.le_of_ble_eq_true rfl)⟩ dX6_append_12 ?_
      refine J_icmp_le O (tgt := 19) (pc := 15) dX6_append_15 (by decide) (fun c15 => ?_) (fun c15 => ?_)
      · have hf := jt_t c15 hf
        refine J_iload_n O (i := 1) (k0 := 1) (pc := 19) 1 rfl rfl dX6_append_19 ?_
        refine J_istore O (i := 4) (pc := 20) [(4, .int a1), (0, .ref t), (1, .int a1), (2, .long a2)] (by decide) rfl dX6_append_20 ?_
        refine J_sub [1, 3, 0] (lv' := [(0, .ref t), (2, .long a2), (4, .int a1)]) rfl ?_
        exact wk_X6_append_22 O t tb t_n a1 a2 fu fu a1 t_l t_f hf
      · have hf := jt_f c15 hf
        cases hf
        exact J_vret O (pc := 18) dX6_append_18
theorem mb_X3_init_0 : Cond.methodLink RX3 1 objectInit ∈ wsX3_init := by decide +kernel
theorem mb_X3_init_1 : Cond.instanceMethod objectInit ∈ wsX3_init := by decide +kernel
theorem mb_X3_init_2 : Cond.code objectInit ⟨#[0xb1]⟩ 1 none ∈ wsX3_init := by decide +kernel
theorem in_X3_init_X3 : ∀ w ∈ u_ws RX3 TX3 3, w ∈ wsX3_init := fun _ h => List.mem_cons_of_mem _ (List.mem_append_right _ h)
theorem mb_X3_init_4 : Cond.fieldLink RX3 13 (TX3 0).1 (TX3 0).2.1 (TX3 0).2.2.1 ∈ wsX3_init := by decide +kernel
theorem mb_X3_init_5 : Cond.fieldLink RX3 19 (TX3 1).1 (TX3 1).2.1 (TX3 1).2.2.1 ∈ wsX3_init := by decide +kernel
theorem mb_X3_init_6 : Cond.fieldLink RX3 22 (TX3 2).1 (TX3 2).2.1 (TX3 2).2.2.1 ∈ wsX3_init := by decide +kernel
theorem in_X3_init_X6 : ∀ w ∈ u_ws RX6 TX6 2, w ∈ wsX3_init := fun _ h => List.mem_cons_of_mem _ (List.mem_append_left _ (List.mem_append_right _ h))
theorem mb_X3_init_8 : Cond.fieldLink RX3 7 (TX6 1).1 (TX6 1).2.1 (TX6 1).2.2.1 ∈ wsX3_init := by decide +kernel
abbrev rmX3_init : Room := { frames := 1, cells := 0, slots := 0, locals := 20 }
set_option maxHeartbeats 4000000 in
set_option maxRecDepth 100000 in
theorem c_X3_init (l : Launch) (D : va_G) (cB cI cJ : ClassId) (q t tb t_n : Nat) (t_l : Int32) (t_f : Nat → Int8) (a2 : Int32) (a3 : Int32) {z : Int32 × Int32} (hf : p_X3_init t_l a2 a3 = some z) : Cv (l, D, cB, cI, cJ) yX3_init wsX3_init rmX3_init [.ref q, .ref t, .int a2, .int a3] [(q, .inr (2, [.null, .int 0, .int 0])), (t, .inr (4, [.ref tb, .int t_l])), (tb, .inl (cB, t_n, .inl (b8 t_f)))] [(q, .inr (2, [.ref t, .int z.1, .int z.2])), (t, .inr (4, [.ref tb, .int t_l])), (tb, .inl (cB, t_n, .inl (b8 t_f)))] := by
  refine Cv_of (cc := cX3_init) (nL := 5) (own := RX3) (ret := none) (by decide) rfl rfl (Nat.le_of_ble_eq_true rfl) (fun X O hnm0 => ?_)
  have hnm := hnm0 rfl
  rw [p_X3_init] at hf
  show J X 5 (JQv X [(q, .inr (2, [.ref t, .int z.1, .int z.2])), (t, .inr (4, [.ref tb, .int t_l])), (tb, .inl (cB, t_n, .inl (b8 t_f)))] 0 0) [(q, .inr (2, [.null, .int 0, .int 0])), (t, .inr (4, [.ref tb, .int t_l])), (tb, .inl (cB, t_n, .inl (b8 t_f)))] 0 0 0 [(0, .ref q), (1, .ref t), (2, .int a2), (3, .int a3)] []
  refine J_aload_n O (i := 0) (k0 := 0) (pc := 0) 0 rfl rfl dX3_init_0 ?_
  refine J_objInit O (pc := 1) mb_X3_init_0 mb_X3_init_1 mb_X3_init_2 (Nat.le_of_ble_eq_true rfl) (Nat.le_of_ble_eq_true rfl) dX3_init_1 ?_
  refine J_iload_n O (i := 2) (k0 := 2) (pc := 4) 2 rfl rfl dX3_init_4 ?_
  refine J_if_lt O (tgt := 26) (pc := 5) dX3_init_5 (by decide) (fun c5 => ?_) (fun c5 => ?_)
  · have hf := jt_t c5 hf
    refine J_iconst O (v := 0) (pc := 26) (by decide) dX3_init_26 ?_
    refine J_istore O (i := 4) (pc := 27) [(4, .int 0), (0, .ref q), (1, .ref t), (2, .int a2), (3, .int a3)] (by decide) rfl dX3_init_27 ?_
    refine J_aload_n O (i := 0) (k0 := 0) (pc := 29) 1 rfl rfl dX3_init_29 ?_
    refine J_aload_n O (i := 1) (k0 := 1) (pc := 30) 2 rfl rfl dX3_init_30 ?_
    refine J_putF O (pc := 31) in_X3_init_X3 tyX3 tyX3_ok nmX3 0 rfl rfl 0 (by decide) mb_X3_init_4 rfl hnm rfl rfl rfl (Nat.le_of_ble_eq_true rfl) [(q, .inr (2, [.ref t, .int 0, .int 0])), (t, .inr (4, [.ref tb, .int t_l])), (tb, .inl (cB, t_n, .inl (b8 t_f)))] rfl dX3_init_31 ?_
    refine J_aload_n O (i := 0) (k0 := 0) (pc := 34) 1 rfl rfl dX3_init_34 ?_
    refine J_iload O (i := 4) (pc := 35) 0 rfl dX3_init_35 ?_
    refine J_if_eq O (tgt := 44) (pc := 37) dX3_init_37 (by decide) (fun c37 => ?_) (fun c37 => ?_)
    · refine J_iconst O (v := 0) (pc := 44) (by decide) dX3_init_44 ?_
      refine J_putF O (pc := 45) in_X3_init_X3 tyX3 tyX3_ok nmX3 0 rfl rfl 1 (by decide) mb_X3_init_5 rfl hnm rfl rfl rfl (Nat.le_of_ble_eq_true rfl) [(q, .inr (2, [.ref t, .int 0, .int 0])), (t, .inr (4, [.ref tb, .int t_l])), (tb, .inl (cB, t_n, .inl (b8 t_f)))] rfl dX3_init_45 ?_
      refine J_aload_n O (i := 0) (k0 := 0) (pc := 48) 1 rfl rfl dX3_init_48 ?_
      refine J_iload O (i := 4) (pc := 49) 0 rfl dX3_init_49 ?_
      refine J_if_eq O (tgt := 58) (pc := 51) dX3_init_51 (by decide) (fun c51 => ?_) (fun c51 => ?_)
      · refine J_iconst O (v := 0) (pc := 58) (by decide) dX3_init_58 ?_
        refine J_putF O (pc := 59) in_X3_init_X3 tyX3 tyX3_ok nmX3 0 rfl rfl 2 (by decide) mb_X3_init_6 rfl hnm rfl rfl rfl (Nat.le_of_ble_eq_true rfl) [(q, .inr (2, [.ref t, .int 0, .int 0])), (t, .inr (4, [.ref tb, .int t_l])), (tb, .inl (cB, t_n, .inl (b8 t_f)))] rfl dX3_init_59 ?_
        cases hf
        exact J_vret O (pc := 62) dX3_init_62
      · exact absurd c51 (by decide)
    · exact absurd c37 (by decide)
  · have hf := jt_f c5 hf
    refine J_iload_n O (i := 3) (k0 := 3) (pc := 8) 3 rfl rfl dX3_init_8 ?_
    refine J_if_lt O (tgt := 26) (pc := 9) dX3_init_9 (by decide) (fun c9 => ?_) (fun c9 => ?_)
    · have hf := jt_t c9 hf
      refine J_iconst O (v := 0) (pc := 26) (by decide) dX3_init_26 ?_
      refine J_istore O (i := 4) (pc := 27) [(4, .int 0), (0, .ref q), (1, .ref t), (2, .int a2), (3, .int a3)] (by decide) rfl dX3_init_27 ?_
      refine J_aload_n O (i := 0) (k0 := 0) (pc := 29) 1 rfl rfl dX3_init_29 ?_
      refine J_aload_n O (i := 1) (k0 := 1) (pc := 30) 2 rfl rfl dX3_init_30 ?_
      refine J_putF O (pc := 31) in_X3_init_X3 tyX3 tyX3_ok nmX3 0 rfl rfl 0 (by decide) mb_X3_init_4 rfl hnm rfl rfl rfl (Nat.le_of_ble_eq_true rfl) [(q, .inr (2, [.ref t, .int 0, .int 0])), (t, .inr (4, [.ref tb, .int t_l])), (tb, .inl (cB, t_n, .inl (b8 t_f)))] rfl dX3_init_31 ?_
      refine J_aload_n O (i := 0) (k0 := 0) (pc := 34) 1 rfl rfl dX3_init_34 ?_
      refine J_iload O (i := 4) (pc := 35) 0 rfl dX3_init_35 ?_
      refine J_if_eq O (tgt := 44) (pc := 37) dX3_init_37 (by decide) (fun c37 => ?_) (fun c37 => ?_)
      · refine J_iconst O (v := 0) (pc := 44) (by decide) dX3_init_44 ?_
        refine J_putF O (pc := 45) in_X3_init_X3 tyX3 tyX3_ok nmX3 0 rfl rfl 1 (by decide) mb_X3_init_5 rfl hnm rfl rfl rfl (Nat.le_of_ble_eq_true rfl) [(q, .inr (2, [.ref t, .int 0, .int 0])), (t, .inr (4, [.ref tb, .int t_l])), (tb, .inl (cB, t_n, .inl (b8 t_f)))] rfl dX3_init_45 ?_
        refine J_aload_n O (i := 0) (k0 := 0) (pc := 48) 1 rfl rfl dX3_init_48 ?_
        refine J_iload O (i := 4) (pc := 49) 0 rfl dX3_init_49 ?_
        refine J_if_eq O (tgt := 58) (pc := 51) dX3_init_51 (by decide) (fun c51 => ?_) (fun c51 => ?_)
        · refine J_iconst O (v := 0) (pc := 58) (by decide) dX3_init_58 ?_
          refine J_putF O (pc := 59) in_X3_init_X3 tyX3 tyX3_ok nmX3 0 rfl rfl 2 (by decide) mb_X3_init_6 rfl hnm rfl rfl rfl (Nat.le_of_ble_eq_true rfl) [(q, .inr (2, [.ref t, .int 0, .int 0])), (t, .inr (4, [.ref tb, .int t_l])), (tb, .inl (cB, t_n, .inl (b8 t_f)))] rfl dX3_init_59 ?_
          cases hf
          exact J_vret O (pc := 62) dX3_init_62
        · exact absurd c51 (by decide)
      · exact absurd c37 (by decide)
    · have hf := jt_f c9 hf
      refine J_iload_n O (i := 2) (k0 := 2) (pc := 12) 2 rfl rfl dX3_init_12 ?_
      refine J_aload_n O (i := 1) (k0 := 1) (pc := 13) 1 rfl rfl dX3_init_13 ?_
      refine J_get O (pc := 14) in_X3_init_X6 1 rfl rfl 1 (by decide) mb_X3_init_8 rfl dX3_init_14 ?_
      refine J_iload_n O (i := 3) (k0 := 3) (pc := 17) 3 rfl rfl dX3_init_17 ?_
      refine J_isub O (pc := 18) dX3_init_18 ?_
      refine J_icmp_gt O (tgt := 26) (pc := 19) dX3_init_19 (by decide) (fun c19 => ?_) (fun c19 => ?_)
      · have hf := jt_t c19 hf
        refine J_iconst O (v := 0) (pc := 26) (by decide) dX3_init_26 ?_
        refine J_istore O (i := 4) (pc := 27) [(4, .int 0), (0, .ref q), (1, .ref t), (2, .int a2), (3, .int a3)] (by decide) rfl dX3_init_27 ?_
        refine J_aload_n O (i := 0) (k0 := 0) (pc := 29) 1 rfl rfl dX3_init_29 ?_
        refine J_aload_n O (i := 1) (k0 := 1) (pc := 30) 2 rfl rfl dX3_init_30 ?_
        refine J_putF O (pc := 31) in_X3_init_X3 tyX3 tyX3_ok nmX3 0 rfl rfl 0 (by decide) mb_X3_init_4 rfl hnm rfl rfl rfl (Nat.le_of_ble_eq_true rfl) [(q, .inr (2, [.ref t, .int 0, .int 0])), (t, .inr (4, [.ref tb, .int t_l])), (tb, .inl (cB, t_n, .inl (b8 t_f)))] rfl dX3_init_31 ?_
        refine J_aload_n O (i := 0) (k0 := 0) (pc := 34) 1 rfl rfl dX3_init_34 ?_
        refine J_iload O (i := 4) (pc := 35) 0 rfl dX3_init_35 ?_
        refine J_if_eq O (tgt := 44) (pc := 37) dX3_init_37 (by decide) (fun c37 => ?_) (fun c37 => ?_)
        · refine J_iconst O (v := 0) (pc := 44) (by decide) dX3_init_44 ?_
          refine J_putF O (pc := 45) in_X3_init_X3 tyX3 tyX3_ok nmX3 0 rfl rfl 1 (by decide) mb_X3_init_5 rfl hnm rfl rfl rfl (Nat.le_of_ble_eq_true rfl) [(q, .inr (2, [.ref t, .int 0, .int 0])), (t, .inr (4, [.ref tb, .int t_l])), (tb, .inl (cB, t_n, .inl (b8 t_f)))] rfl dX3_init_45 ?_
          refine J_aload_n O (i := 0) (k0 := 0) (pc := 48) 1 rfl rfl dX3_init_48 ?_
          refine J_iload O (i := 4) (pc := 49) 0 rfl dX3_init_49 ?_
          refine J_if_eq O (tgt := 58) (pc := 51) dX3_init_51 (by decide) (fun c51 => ?_) (fun c51 => ?_)
          · refine J_iconst O (v := 0) (pc := 58) (by decide) dX3_init_58 ?_
            refine J_putF O (pc := 59) in_X3_init_X3 tyX3 tyX3_ok nmX3 0 rfl rfl 2 (by decide) mb_X3_init_6 rfl hnm rfl rfl rfl (Nat.le_of_ble_eq_true rfl) [(q, .inr (2, [.ref t, .int 0, .int 0])), (t, .inr (4, [.ref tb, .int t_l])), (tb, .inl (cB, t_n, .inl (b8 t_f)))] rfl dX3_init_59 ?_
            cases hf
            exact J_vret O (pc := 62) dX3_init_62
          · exact absurd c51 (by decide)
        · exact absurd c37 (by decide)
      · have hf := jt_f c19 hf
        refine J_iconst O (v := 1) (pc := 22) (by decide) dX3_init_22 ?_
        refine J_goto O (tgt := 27) (pc := 23) dX3_init_23 (by decide) ?_
        refine J_istore O (i := 4) (pc := 27) [(4, .int 1), (0, .ref q), (1, .ref t), (2, .int a2), (3, .int a3)] (by decide) rfl dX3_init_27 ?_
        refine J_aload_n O (i := 0) (k0 := 0) (pc := 29) 1 rfl rfl dX3_init_29 ?_
        refine J_aload_n O (i := 1) (k0 := 1) (pc := 30) 2 rfl rfl dX3_init_30 ?_
        refine J_putF O (pc := 31) in_X3_init_X3 tyX3 tyX3_ok nmX3 0 rfl rfl 0 (by decide) mb_X3_init_4 rfl hnm rfl rfl rfl (Nat.le_of_ble_eq_true rfl) [(q, .inr (2, [.ref t, .int 0, .int 0])), (t, .inr (4, [.ref tb, .int t_l])), (tb, .inl (cB, t_n, .inl (b8 t_f)))] rfl dX3_init_31 ?_
        refine J_aload_n O (i := 0) (k0 := 0) (pc := 34) 1 rfl rfl dX3_init_34 ?_
        refine J_iload O (i := 4) (pc := 35) 0 rfl dX3_init_35 ?_
        refine J_if_eq O (tgt := 44) (pc := 37) dX3_init_37 (by decide) (fun c37 => ?_) (fun c37 => ?_)
        · exact absurd c37 (by decide)
        · refine J_iload_n O (i := 2) (k0 := 2) (pc := 40) 3 rfl rfl dX3_init_40 ?_
          refine J_goto O (tgt := 45) (pc := 41) dX3_init_41 (by decide) ?_
          refine J_putF O (pc := 45) in_X3_init_X3 tyX3 tyX3_ok nmX3 0 rfl rfl 1 (by decide) mb_X3_init_5 rfl hnm rfl rfl rfl (Nat.le_of_ble_eq_true rfl) [(q, .inr (2, [.ref t, .int a2, .int 0])), (t, .inr (4, [.ref tb, .int t_l])), (tb, .inl (cB, t_n, .inl (b8 t_f)))] rfl dX3_init_45 ?_
          refine J_aload_n O (i := 0) (k0 := 0) (pc := 48) 1 rfl rfl dX3_init_48 ?_
          refine J_iload O (i := 4) (pc := 49) 0 rfl dX3_init_49 ?_
          refine J_if_eq O (tgt := 58) (pc := 51) dX3_init_51 (by decide) (fun c51 => ?_) (fun c51 => ?_)
          · exact absurd c51 (by decide)
          · refine J_iload_n O (i := 3) (k0 := 3) (pc := 54) 4 rfl rfl dX3_init_54 ?_
            refine J_goto O (tgt := 59) (pc := 55) dX3_init_55 (by decide) ?_
            refine J_putF O (pc := 59) in_X3_init_X3 tyX3 tyX3_ok nmX3 0 rfl rfl 2 (by decide) mb_X3_init_6 rfl hnm rfl rfl rfl (Nat.le_of_ble_eq_true rfl) [(q, .inr (2, [.ref t, .int a2, .int a3])), (t, .inr (4, [.ref tb, .int t_l])), (tb, .inl (cB, t_n, .inl (b8 t_f)))] rfl dX3_init_59 ?_
            cases hf
            exact J_vret O (pc := 62) dX3_init_62
theorem in_X6_whole_X3 : ∀ w ∈ u_ws RX3 TX3 3, w ∈ wsX6_whole := fun _ h => List.mem_cons_of_mem _ (List.mem_append_left _ (List.mem_append_right _ h))
theorem mb_X6_whole_1 : Cond.classLink RX6 23 RX3 ∈ wsX6_whole := by decide +kernel
theorem mb_X6_whole_2 : Cond.instantiable RX3 3 ∈ wsX6_whole := by decide +kernel
theorem mb_X6_whole_3 : Cond.initialized RX3 ∈ wsX6_whole := by decide +kernel
theorem fs_X3 : ∀ j, j < 3 → defaultValue (tyX3 j) = vp_V [.null, .int 0, .int 0] j := fun j hj => by rcases (show j = 0 ∨ j = 1 ∨ j = 2 by omega) with rfl | rfl | rfl <;> rfl
theorem in_X6_whole_X6 : ∀ w ∈ u_ws RX6 TX6 2, w ∈ wsX6_whole := fun _ h => List.mem_cons_of_mem _ (List.mem_append_right _ h)
theorem mb_X6_whole_5 : Cond.fieldLink RX6 19 (TX6 1).1 (TX6 1).2.1 (TX6 1).2.2.1 ∈ wsX6_whole := by decide +kernel
theorem mb_X6_whole_6 : Cond.initialized yX3_init.cls ∈ wsX6_whole := by decide +kernel
theorem mb_X6_whole_7 : Cond.methodLink RX6 25 yX3_init ∈ wsX6_whole := by decide +kernel
theorem mb_X6_whole_8 : Cond.instanceMethod yX3_init ∈ wsX6_whole := by decide +kernel
theorem hdS_X3_init : yX3_init.cls ≠ "java/lang/invoke/MethodHandle" ∧ yX3_init.cls ≠ "java/lang/invoke/VarHandle" ∧ (parseMethodDescriptor yX3_init.desc).map (fun d => d.parameters.length) = some 3 := by decide +kernel
abbrev rmX6_whole : Room := { frames := 2, cells := 1, slots := 3, locals := 44 }
set_option maxHeartbeats 4000000 in
set_option maxRecDepth 100000 in
theorem c_X6_whole (l : Launch) (D : va_G) (cB cI cJ : ClassId) (t tb t_n : Nat) (t_l : Int32) (t_f : Nat → Int8) {z : Int32 × Int32} (hf : p_X6_whole t_l = some z) : Cr (l, D, cB, cI, cJ) yX6_whole wsX6_whole rmX6_whole [.ref t] [(t, .inr (4, [.ref tb, .int t_l])), (tb, .inl (cB, t_n, .inl (b8 t_f)))] (fun a => [(t, .inr (4, [.ref tb, .int t_l])), (tb, .inl (cB, t_n, .inl (b8 t_f))), (a, .inr (2, [.ref t, .int z.1, .int z.2]))]) := by
  refine Cr_of (cc := cX6_whole) (nL := 1) (own := RX6) (ret := (some (.object "BlorbRows$Part"))) (by decide) rfl rfl (Nat.le_of_ble_eq_true rfl) (fun X O hnm0 => ?_)
  rw [p_X6_whole] at hf
  show J X 1 (JQr X (fun a => [(t, .inr (4, [.ref tb, .int t_l])), (tb, .inl (cB, t_n, .inl (b8 t_f))), (a, .inr (2, [.ref t, .int z.1, .int z.2]))]) 1 3) [(t, .inr (4, [.ref tb, .int t_l])), (tb, .inl (cB, t_n, .inl (b8 t_f)))] 0 0 0 [(0, .ref t)] []
  refine J_new O (pc := 0) in_X6_whole_X3 tyX3 tyX3_ok mb_X6_whole_1 mb_X6_whole_2 mb_X6_whole_3 rfl [.null, .int 0, .int 0] fs_X3 (Nat.le_of_ble_eq_true rfl) (Nat.le_of_ble_eq_true rfl) (fun q0 => [(t, .inr (4, [.ref tb, .int t_l])), (tb, .inl (cB, t_n, .inl (b8 t_f))), (q0, .inr (2, [.null, .int 0, .int 0]))]) (fun _ => rfl) (1) (3) rfl rfl dX6_whole_0 (fun q0 => ?_)
  refine J_dup O (pc := 3) rfl dX6_whole_3 ?_
  refine J_aload_n O (i := 0) (k0 := 0) (pc := 4) 0 rfl rfl dX6_whole_4 ?_
  refine J_iconst O (v := 0) (pc := 5) (by decide) dX6_whole_5 ?_
  refine J_aload_n O (i := 0) (k0 := 0) (pc := 6) 0 rfl rfl dX6_whole_6 ?_
  refine J_get O (pc := 7) in_X6_whole_X6 0 rfl rfl 1 (by decide) mb_X6_whole_5 rfl dX6_whole_7 ?_
  obtain ⟨z10, h10, hf⟩ := jt_b hf
  refine J_callIv O (pc := 10) (ret' := none) (c_X3_init l D cB cI cJ q0 t tb t_n t_l t_f 0 t_l h10) rfl gX6_whole_X3_init mb_X6_whole_6 mb_X6_whole_7 mb_X6_whole_8 rfl hdS_X3_init ⟨(Nat.le_of_ble_eq_true rfl), (Nat.le_of_ble_eq_true rfl)⟩ rfl (st := [.ref q0]) rfl (Nat.le_of_ble_eq_true rfl) [2, 0, 1] [] rfl rfl rfl rfl rfl (by decide) [(t, .inr (4, [.ref tb, .int t_l])), (tb, .inl (cB, t_n, .inl (b8 t_f))), (q0, .inr (2, [.ref t, .int z10.1, .int z10.2]))] [1, 2, 0] rfl rfl rfl (1) (3) (Nat.le_of_ble_eq_true rfl) (Nat.le_of_ble_eq_true rfl) ⟨(Nat.le_of_ble_eq_true rfl), (Nat.le_of_ble_eq_true rfl)⟩ dX6_whole_10 ?_
  cases hf
  exact J_aret O (pc := 13) _ rfl dX6_whole_13
theorem in_X3_holds_X3 : ∀ w ∈ u_ws RX3 TX3 3, w ∈ wsX3_holds := fun _ h => List.mem_cons_of_mem _ (List.mem_append_right _ h)
theorem mb_X3_holds_1 : Cond.fieldLink RX3 22 (TX3 2).1 (TX3 2).2.1 (TX3 2).2.2.1 ∈ wsX3_holds := by decide +kernel
abbrev rmX3_holds : Room := { frames := 0, cells := 0, slots := 0, locals := 0 }
set_option maxHeartbeats 4000000 in
set_option maxRecDepth 100000 in
theorem c_X3_holds (l : Launch) (D : va_G) (cB cI cJ : ClassId) (q t tb t_n : Nat) (q_o : Int32) (q_l : Int32) (t_l : Int32) (t_f : Nat → Int8) (a1 : Int32) (a2 : Int32) {z : Bool} (hf : p_X3_holds q_l a1 a2 = some z) : Ci (l, D, cB, cI, cJ) yX3_holds wsX3_holds rmX3_holds [.ref q, .int a1, .int a2] [(q, .inr (2, [.ref t, .int q_o, .int q_l])), (t, .inr (4, [.ref tb, .int t_l])), (tb, .inl (cB, t_n, .inl (b8 t_f)))] [(q, .inr (2, [.ref t, .int q_o, .int q_l])), (t, .inr (4, [.ref tb, .int t_l])), (tb, .inl (cB, t_n, .inl (b8 t_f)))] (bI z) := by
  refine Ci_of (cc := cX3_holds) (nL := 3) (own := RX3) (ret := (some .boolean)) (by decide) rfl rfl (Nat.le_of_ble_eq_true rfl) (fun X O hnm0 => ?_)
  rw [p_X3_holds] at hf
  show J X 3 (JQi X [(q, .inr (2, [.ref t, .int q_o, .int q_l])), (t, .inr (4, [.ref tb, .int t_l])), (tb, .inl (cB, t_n, .inl (b8 t_f)))] (bI z) 0 0) [(q, .inr (2, [.ref t, .int q_o, .int q_l])), (t, .inr (4, [.ref tb, .int t_l])), (tb, .inl (cB, t_n, .inl (b8 t_f)))] 0 0 0 [(0, .ref q), (1, .int a1), (2, .int a2)] []
  refine J_iload_n O (i := 1) (k0 := 1) (pc := 0) 1 rfl rfl dX3_holds_0 ?_
  refine J_if_lt O (tgt := 18) (pc := 1) dX3_holds_1 (by decide) (fun c1 => ?_) (fun c1 => ?_)
  · have hf := jt_t c1 hf
    refine J_iconst O (v := 0) (pc := 18) (by decide) dX3_holds_18 ?_
    cases hf
    exact J_zret O (pc := 19) rfl dX3_holds_19
  · have hf := jt_f c1 hf
    refine J_iload_n O (i := 1) (k0 := 1) (pc := 4) 1 rfl rfl dX3_holds_4 ?_
    refine J_aload_n O (i := 0) (k0 := 0) (pc := 5) 0 rfl rfl dX3_holds_5 ?_
    refine J_get O (pc := 6) in_X3_holds_X3 0 rfl rfl 2 (by decide) mb_X3_holds_1 rfl dX3_holds_6 ?_
    refine J_iload_n O (i := 2) (k0 := 2) (pc := 9) 2 rfl rfl dX3_holds_9 ?_
    refine J_isub O (pc := 10) dX3_holds_10 ?_
    refine J_icmp_gt O (tgt := 18) (pc := 11) dX3_holds_11 (by decide) (fun c11 => ?_) (fun c11 => ?_)
    · have hf := jt_t c11 hf
      refine J_iconst O (v := 0) (pc := 18) (by decide) dX3_holds_18 ?_
      cases hf
      exact J_zret O (pc := 19) rfl dX3_holds_19
    · have hf := jt_f c11 hf
      refine J_iconst O (v := 1) (pc := 14) (by decide) dX3_holds_14 ?_
      refine J_goto O (tgt := 19) (pc := 15) dX3_holds_15 (by decide) ?_
      cases hf
      exact J_zret O (pc := 19) rfl dX3_holds_19
theorem hdV_X3_holds : yX3_holds.cls = RX3 ∧ yX3_holds.cls ≠ "java/lang/invoke/MethodHandle" ∧ yX3_holds.cls ≠ "java/lang/invoke/VarHandle" ∧ (parseMethodDescriptor yX3_holds.desc).map (fun d => d.parameters.length) = some 2 := by decide +kernel
theorem in_X3_number_X3 : ∀ w ∈ u_ws RX3 TX3 3, w ∈ wsX3_number := fun _ h => List.mem_cons_of_mem _ (List.mem_append_left _ (List.mem_append_right _ h))
theorem mb_X3_number_1 : Cond.fieldLink RX3 13 (TX3 0).1 (TX3 0).2.1 (TX3 0).2.2.1 ∈ wsX3_number := by decide +kernel
theorem in_X3_number_X6 : ∀ w ∈ u_ws RX6 TX6 2, w ∈ wsX3_number := fun _ h => List.mem_cons_of_mem _ (List.mem_append_right _ h)
theorem mb_X3_number_3 : Cond.fieldLink RX3 33 (TX6 0).1 (TX6 0).2.1 (TX6 0).2.2.1 ∈ wsX3_number := by decide +kernel
theorem mb_X3_number_4 : Cond.fieldLink RX3 19 (TX3 1).1 (TX3 1).2.1 (TX3 1).2.2.1 ∈ wsX3_number := by decide +kernel
theorem mb_X3_number_5 : Cond.constantLong RX3 31 (-1) ∈ wsX3_number := by decide +kernel
abbrev rmX3_number : Room := { frames := 1, cells := 0, slots := 0, locals := 22 }
set_option maxHeartbeats 4000000 in
set_option maxRecDepth 100000 in
theorem wk_X3_number_18 {X : JC} {l : Launch} {D : va_G} {cB cI cJ : ClassId} (O : Jo X (l, D, cB, cI, cJ) cX3_number 6 RX3 wsX3_number rmX3_number (some .long)) (q t tb : Nat) (t_n : Nat) (q_o : Int32) (q_l : Int32) (t_l : Int32) (t_f : Nat → Int8) (a1 : Int32) (a2 : Int32) (fu : Nat) {z : Int64} : ∀ (fn : Nat) (v3 : Int64) (v5 : Int32), p_X3_number_18 fu t_n q_o q_l t_f a1 a2 fn v3 v5 = some z → J X 6 (JQl X [(q, .inr (2, [.ref t, .int q_o, .int q_l])), (t, .inr (4, [.ref tb, .int t_l])), (tb, .inl (cB, t_n, .inl (b8 t_f)))] z 0 0) [(q, .inr (2, [.ref t, .int q_o, .int q_l])), (t, .inr (4, [.ref tb, .int t_l])), (tb, .inl (cB, t_n, .inl (b8 t_f)))] 0 0 18 [(0, .ref q), (1, .int a1), (2, .int a2), (3, .long v3), (5, .int v5)] [] := by
  intro fn
  induction fn with
  | zero =>
    intro v3 v5 hf
    rw [p_X3_number_18] at hf
    exact jt_n hf
  | succ fn ih =>
    intro v3 v5 hf
    rw [p_X3_number_18] at hf
    refine J_iload O (i := 5) (pc := 18) 4 rfl dX3_number_18 ?_
    refine J_iload_n O (i := 2) (k0 := 2) (pc := 20) 2 rfl rfl dX3_number_20 ?_
    refine J_icmp_ge O (tgt := 58) (pc := 21) dX3_number_21 (by decide) (fun c21 => ?_) (fun c21 => ?_)
    · have hf := jt_t c21 hf
      refine J_lload_n O (i := 3) (k0 := 3) (pc := 58) 3 rfl rfl dX3_number_58 ?_
      cases hf
      exact J_lret O (pc := 59) rfl dX3_number_59
    · have hf := jt_f c21 hf
      refine J_lload_n O (i := 3) (k0 := 3) (pc := 24) 3 rfl rfl dX3_number_24 ?_
      refine J_bipush O (v := 8) (pc := 25) (by decide) dX3_number_25 ?_
      refine J_lshl O (pc := 27) dX3_number_27 ?_
      refine J_aload_n O (i := 0) (k0 := 0) (pc := 28) 0 rfl rfl dX3_number_28 ?_
      refine J_get O (pc := 29) in_X3_number_X3 0 rfl rfl 0 (by decide) mb_X3_number_1 rfl dX3_number_29 ?_
      refine J_get O (pc := 32) in_X3_number_X6 1 rfl rfl 0 (by decide) mb_X3_number_3 rfl dX3_number_32 ?_
      refine J_aload_n O (i := 0) (k0 := 0) (pc := 35) 0 rfl rfl dX3_number_35 ?_
      refine J_get O (pc := 36) in_X3_number_X3 0 rfl rfl 1 (by decide) mb_X3_number_4 rfl dX3_number_36 ?_
      refine J_iload_n O (i := 1) (k0 := 1) (pc := 39) 1 rfl rfl dX3_number_39 ?_
      refine J_iadd O (pc := 40) dX3_number_40 ?_
      refine J_iload O (i := 5) (pc := 41) 4 rfl dX3_number_41 ?_
      refine J_iadd O (pc := 43) dX3_number_43 ?_
      obtain ⟨h44, hf⟩ := jt_g hf
      refine J_bald O (pc := 44) 2 0 rfl rfl h44 dX3_number_44 ?_
      refine J_sipush O (v := 255) (pc := 45) (by decide) dX3_number_45 ?_
      refine J_iand O (pc := 48) dX3_number_48 ?_
      refine J_i2l O (pc := 49) dX3_number_49 ?_
      refine J_lor O (pc := 50) dX3_number_50 ?_
      refine J_lstore_n O (i := 3) (k0 := 3) (pc := 51) rfl [(3, .long ((v3 <<< ((8 : Int32).toInt64 &&& 63)) ||| (Int32.toInt64 ((Int8.toInt32 (t_f (Int32.toNatClampNeg ((q_o + a1) + v5)))) &&& 255)))), (0, .ref q), (1, .int a1), (2, .int a2), (5, .int v5)] (by decide) rfl dX3_number_51 ?_
      refine J_iinc O (i := 5) (n := 1) (v := v5 + 1) (pc := 52) 4 rfl [(5, .int (v5 + 1)), (3, .long ((v3 <<< ((8 : Int32).toInt64 &&& 63)) ||| (Int32.toInt64 ((Int8.toInt32 (t_f (Int32.toNatClampNeg ((q_o + a1) + v5)))) &&& 255)))), (0, .ref q), (1, .int a1), (2, .int a2)] (by decide) (congrArg (_ + ·) (by decide)) rfl dX3_number_52 ?_
      refine J_goto O (tgt := 18) (pc := 55) dX3_number_55 (by decide) ?_
      refine J_sub [2, 3, 4, 1, 0] (lv' := [(0, .ref q), (1, .int a1), (2, .int a2), (3, .long ((v3 <<< ((8 : Int32).toInt64 &&& 63)) ||| (Int32.toInt64 ((Int8.toInt32 (t_f (Int32.toNatClampNeg ((q_o + a1) + v5)))) &&& 255)))), (5, .int (v5 + 1))]) rfl ?_
      exact ih ((v3 <<< ((8 : Int32).toInt64 &&& 63)) ||| (Int32.toInt64 ((Int8.toInt32 (t_f (Int32.toNatClampNeg ((q_o + a1) + v5)))) &&& 255))) (v5 + 1) hf
set_option maxHeartbeats 4000000 in
set_option maxRecDepth 100000 in
theorem c_X3_number (l : Launch) (D : va_G) (cB cI cJ : ClassId) (q t tb t_n : Nat) (q_o : Int32) (q_l : Int32) (t_l : Int32) (t_f : Nat → Int8) (a1 : Int32) (a2 : Int32) (fu : Nat) {z : Int64} (hf : p_X3_number fu t_n q_o q_l t_f a1 a2 = some z) : Cl (l, D, cB, cI, cJ) yX3_number wsX3_number rmX3_number [.ref q, .int a1, .int a2] [(q, .inr (2, [.ref t, .int q_o, .int q_l])), (t, .inr (4, [.ref tb, .int t_l])), (tb, .inl (cB, t_n, .inl (b8 t_f)))] [(q, .inr (2, [.ref t, .int q_o, .int q_l])), (t, .inr (4, [.ref tb, .int t_l])), (tb, .inl (cB, t_n, .inl (b8 t_f)))] z := by
  refine Cl_of (cc := cX3_number) (nL := 6) (own := RX3) (ret := (some .long)) (by decide) rfl rfl (Nat.le_of_ble_eq_true rfl) (fun X O hnm0 => ?_)
  rw [p_X3_number] at hf
  show J X 6 (JQl X [(q, .inr (2, [.ref t, .int q_o, .int q_l])), (t, .inr (4, [.ref tb, .int t_l])), (tb, .inl (cB, t_n, .inl (b8 t_f)))] z 0 0) [(q, .inr (2, [.ref t, .int q_o, .int q_l])), (t, .inr (4, [.ref tb, .int t_l])), (tb, .inl (cB, t_n, .inl (b8 t_f)))] 0 0 0 [(0, .ref q), (1, .int a1), (2, .int a2)] []
  refine J_aload_n O (i := 0) (k0 := 0) (pc := 0) 0 rfl rfl dX3_number_0 ?_
  refine J_iload_n O (i := 1) (k0 := 1) (pc := 1) 1 rfl rfl dX3_number_1 ?_
  refine J_iload_n O (i := 2) (k0 := 2) (pc := 2) 2 rfl rfl dX3_number_2 ?_
  obtain ⟨z3, h3, hf⟩ := jt_b hf
  refine J_callVi O (pc := 3) (c_X3_holds l D cB cI cJ q t tb t_n q_o q_l t_l t_f a1 a2 h3) rfl 0 rfl rfl gX3_number_X3_holds hdV_X3_holds ⟨(Nat.le_of_ble_eq_true rfl), (Nat.le_of_ble_eq_true rfl)⟩ rfl (st := []) rfl (Nat.le_of_ble_eq_true rfl) [0, 1, 2] [] rfl rfl rfl rfl rfl (by decide) [(q, .inr (2, [.ref t, .int q_o, .int q_l])), (t, .inr (4, [.ref tb, .int t_l])), (tb, .inl (cB, t_n, .inl (b8 t_f)))] [0, 1, 2] rfl rfl rfl (0) (0) (Nat.le_of_ble_eq_true rfl) (Nat.le_of_ble_eq_true rfl) ⟨(Nat.le_of_ble_eq_true rfl), (Nat.le_of_ble_eq_true rfl)⟩ dX3_number_3 ?_
  refine J_zne O (tgt := 13) (pc := 6) dX3_number_6 (by decide) (fun c6 => ?_) (fun c6 => ?_)
  · have hf := jt_t c6 hf
    refine J_lconst O (v := 0) (pc := 13) (by decide) dX3_number_13 ?_
    refine J_lstore_n O (i := 3) (k0 := 3) (pc := 14) rfl [(3, .long 0), (0, .ref q), (1, .int a1), (2, .int a2)] (by decide) rfl dX3_number_14 ?_
    refine J_iconst O (v := 0) (pc := 15) (by decide) dX3_number_15 ?_
    refine J_istore O (i := 5) (pc := 16) [(5, .int 0), (3, .long 0), (0, .ref q), (1, .int a1), (2, .int a2)] (by decide) rfl dX3_number_16 ?_
    refine J_sub [2, 3, 4, 1, 0] (lv' := [(0, .ref q), (1, .int a1), (2, .int a2), (3, .long 0), (5, .int 0)]) rfl ?_
    exact wk_X3_number_18 O q t tb t_n q_o q_l t_l t_f a1 a2 fu fu 0 0 hf
  · have hf := jt_f c6 hf
    refine J_ldc2 O (pc := 9) mb_X3_number_5 dX3_number_9 ?_
    cases hf
    exact J_lret O (pc := 12) rfl dX3_number_12
theorem hdV_X3_number : yX3_number.cls = RX3 ∧ yX3_number.cls ≠ "java/lang/invoke/MethodHandle" ∧ yX3_number.cls ≠ "java/lang/invoke/VarHandle" ∧ (parseMethodDescriptor yX3_number.desc).map (fun d => d.parameters.length) = some 2 := by decide +kernel
abbrev rmX3_at : Room := { frames := 2, cells := 0, slots := 0, locals := 47 }
set_option maxHeartbeats 4000000 in
set_option maxRecDepth 100000 in
theorem c_X3_at (l : Launch) (D : va_G) (cB cI cJ : ClassId) (q t tb t_n : Nat) (q_o : Int32) (q_l : Int32) (t_l : Int32) (t_f : Nat → Int8) (a1 : Int32) (fu : Nat) {z : Int32} (hf : p_X3_at fu t_n q_o q_l t_f a1 = some z) : Ci (l, D, cB, cI, cJ) yX3_at wsX3_at rmX3_at [.ref q, .int a1] [(q, .inr (2, [.ref t, .int q_o, .int q_l])), (t, .inr (4, [.ref tb, .int t_l])), (tb, .inl (cB, t_n, .inl (b8 t_f)))] [(q, .inr (2, [.ref t, .int q_o, .int q_l])), (t, .inr (4, [.ref tb, .int t_l])), (tb, .inl (cB, t_n, .inl (b8 t_f)))] z := by
  refine Ci_of (cc := cX3_at) (nL := 2) (own := RX3) (ret := (some .int)) (by decide) rfl rfl (Nat.le_of_ble_eq_true rfl) (fun X O hnm0 => ?_)
  rw [p_X3_at] at hf
  show J X 2 (JQi X [(q, .inr (2, [.ref t, .int q_o, .int q_l])), (t, .inr (4, [.ref tb, .int t_l])), (tb, .inl (cB, t_n, .inl (b8 t_f)))] z 0 0) [(q, .inr (2, [.ref t, .int q_o, .int q_l])), (t, .inr (4, [.ref tb, .int t_l])), (tb, .inl (cB, t_n, .inl (b8 t_f)))] 0 0 0 [(0, .ref q), (1, .int a1)] []
  refine J_aload_n O (i := 0) (k0 := 0) (pc := 0) 0 rfl rfl dX3_at_0 ?_
  refine J_iload_n O (i := 1) (k0 := 1) (pc := 1) 1 rfl rfl dX3_at_1 ?_
  refine J_iconst O (v := 1) (pc := 2) (by decide) dX3_at_2 ?_
  obtain ⟨z3, h3, hf⟩ := jt_b hf
  refine J_callVl O (pc := 3) (c_X3_number l D cB cI cJ q t tb t_n q_o q_l t_l t_f a1 1 fu h3) rfl 0 rfl rfl gX3_at_X3_number hdV_X3_number ⟨(Nat.le_of_ble_eq_true rfl), (Nat.le_of_ble_eq_true rfl)⟩ rfl (st := []) rfl (Nat.le_of_ble_eq_true rfl) [0, 1, 2] [] rfl rfl rfl rfl rfl (by decide) [(q, .inr (2, [.ref t, .int q_o, .int q_l])), (t, .inr (4, [.ref tb, .int t_l])), (tb, .inl (cB, t_n, .inl (b8 t_f)))] [0, 1, 2] rfl rfl rfl (0) (0) (Nat.le_of_ble_eq_true rfl) (Nat.le_of_ble_eq_true rfl) ⟨(Nat.le_of_ble_eq_true rfl), (Nat.le_of_ble_eq_true rfl)⟩ dX3_at_3 ?_
  refine J_l2i O (pc := 6) dX3_at_6 ?_
  cases hf
  exact J_iret O (pc := 7) rfl dX3_at_7
abbrev rmX3_u2 : Room := { frames := 2, cells := 0, slots := 0, locals := 47 }
set_option maxHeartbeats 4000000 in
set_option maxRecDepth 100000 in
theorem c_X3_u2 (l : Launch) (D : va_G) (cB cI cJ : ClassId) (q t tb t_n : Nat) (q_o : Int32) (q_l : Int32) (t_l : Int32) (t_f : Nat → Int8) (a1 : Int32) (fu : Nat) {z : Int32} (hf : p_X3_u2 fu t_n q_o q_l t_f a1 = some z) : Ci (l, D, cB, cI, cJ) yX3_u2 wsX3_u2 rmX3_u2 [.ref q, .int a1] [(q, .inr (2, [.ref t, .int q_o, .int q_l])), (t, .inr (4, [.ref tb, .int t_l])), (tb, .inl (cB, t_n, .inl (b8 t_f)))] [(q, .inr (2, [.ref t, .int q_o, .int q_l])), (t, .inr (4, [.ref tb, .int t_l])), (tb, .inl (cB, t_n, .inl (b8 t_f)))] z := by
  refine Ci_of (cc := cX3_u2) (nL := 2) (own := RX3) (ret := (some .int)) (by decide) rfl rfl (Nat.le_of_ble_eq_true rfl) (fun X O hnm0 => ?_)
  rw [p_X3_u2] at hf
  show J X 2 (JQi X [(q, .inr (2, [.ref t, .int q_o, .int q_l])), (t, .inr (4, [.ref tb, .int t_l])), (tb, .inl (cB, t_n, .inl (b8 t_f)))] z 0 0) [(q, .inr (2, [.ref t, .int q_o, .int q_l])), (t, .inr (4, [.ref tb, .int t_l])), (tb, .inl (cB, t_n, .inl (b8 t_f)))] 0 0 0 [(0, .ref q), (1, .int a1)] []
  refine J_aload_n O (i := 0) (k0 := 0) (pc := 0) 0 rfl rfl dX3_u2_0 ?_
  refine J_iload_n O (i := 1) (k0 := 1) (pc := 1) 1 rfl rfl dX3_u2_1 ?_
  refine J_iconst O (v := 2) (pc := 2) (by decide) dX3_u2_2 ?_
  obtain ⟨z3, h3, hf⟩ := jt_b hf
  refine J_callVl O (pc := 3) (c_X3_number l D cB cI cJ q t tb t_n q_o q_l t_l t_f a1 2 fu h3) rfl 0 rfl rfl gX3_u2_X3_number hdV_X3_number ⟨(Nat.le_of_ble_eq_true rfl), (Nat.le_of_ble_eq_true rfl)⟩ rfl (st := []) rfl (Nat.le_of_ble_eq_true rfl) [0, 1, 2] [] rfl rfl rfl rfl rfl (by decide) [(q, .inr (2, [.ref t, .int q_o, .int q_l])), (t, .inr (4, [.ref tb, .int t_l])), (tb, .inl (cB, t_n, .inl (b8 t_f)))] [0, 1, 2] rfl rfl rfl (0) (0) (Nat.le_of_ble_eq_true rfl) (Nat.le_of_ble_eq_true rfl) ⟨(Nat.le_of_ble_eq_true rfl), (Nat.le_of_ble_eq_true rfl)⟩ dX3_u2_3 ?_
  refine J_l2i O (pc := 6) dX3_u2_6 ?_
  cases hf
  exact J_iret O (pc := 7) rfl dX3_u2_7
abbrev rmX3_u4 : Room := { frames := 2, cells := 0, slots := 0, locals := 47 }
set_option maxHeartbeats 4000000 in
set_option maxRecDepth 100000 in
theorem c_X3_u4 (l : Launch) (D : va_G) (cB cI cJ : ClassId) (q t tb t_n : Nat) (q_o : Int32) (q_l : Int32) (t_l : Int32) (t_f : Nat → Int8) (a1 : Int32) (fu : Nat) {z : Int64} (hf : p_X3_u4 fu t_n q_o q_l t_f a1 = some z) : Cl (l, D, cB, cI, cJ) yX3_u4 wsX3_u4 rmX3_u4 [.ref q, .int a1] [(q, .inr (2, [.ref t, .int q_o, .int q_l])), (t, .inr (4, [.ref tb, .int t_l])), (tb, .inl (cB, t_n, .inl (b8 t_f)))] [(q, .inr (2, [.ref t, .int q_o, .int q_l])), (t, .inr (4, [.ref tb, .int t_l])), (tb, .inl (cB, t_n, .inl (b8 t_f)))] z := by
  refine Cl_of (cc := cX3_u4) (nL := 2) (own := RX3) (ret := (some .long)) (by decide) rfl rfl (Nat.le_of_ble_eq_true rfl) (fun X O hnm0 => ?_)
  rw [p_X3_u4] at hf
  show J X 2 (JQl X [(q, .inr (2, [.ref t, .int q_o, .int q_l])), (t, .inr (4, [.ref tb, .int t_l])), (tb, .inl (cB, t_n, .inl (b8 t_f)))] z 0 0) [(q, .inr (2, [.ref t, .int q_o, .int q_l])), (t, .inr (4, [.ref tb, .int t_l])), (tb, .inl (cB, t_n, .inl (b8 t_f)))] 0 0 0 [(0, .ref q), (1, .int a1)] []
  refine J_aload_n O (i := 0) (k0 := 0) (pc := 0) 0 rfl rfl dX3_u4_0 ?_
  refine J_iload_n O (i := 1) (k0 := 1) (pc := 1) 1 rfl rfl dX3_u4_1 ?_
  refine J_iconst O (v := 4) (pc := 2) (by decide) dX3_u4_2 ?_
  obtain ⟨z3, h3, hf⟩ := jt_b hf
  refine J_callVl O (pc := 3) (c_X3_number l D cB cI cJ q t tb t_n q_o q_l t_l t_f a1 4 fu h3) rfl 0 rfl rfl gX3_u4_X3_number hdV_X3_number ⟨(Nat.le_of_ble_eq_true rfl), (Nat.le_of_ble_eq_true rfl)⟩ rfl (st := []) rfl (Nat.le_of_ble_eq_true rfl) [0, 1, 2] [] rfl rfl rfl rfl rfl (by decide) [(q, .inr (2, [.ref t, .int q_o, .int q_l])), (t, .inr (4, [.ref tb, .int t_l])), (tb, .inl (cB, t_n, .inl (b8 t_f)))] [0, 1, 2] rfl rfl rfl (0) (0) (Nat.le_of_ble_eq_true rfl) (Nat.le_of_ble_eq_true rfl) ⟨(Nat.le_of_ble_eq_true rfl), (Nat.le_of_ble_eq_true rfl)⟩ dX3_u4_3 ?_
  cases hf
  exact J_lret O (pc := 6) rfl dX3_u4_6
theorem in_X6_splice_X6 : ∀ w ∈ u_ws RX6 TX6 2, w ∈ wsX6_splice := fun _ h => List.mem_cons_of_mem _ (List.mem_append_left _ (List.mem_append_right _ h))
theorem mb_X6_splice_1 : Cond.fieldLink RX6 19 (TX6 1).1 (TX6 1).2.1 (TX6 1).2.2.1 ∈ wsX6_splice := by decide +kernel
theorem in_X6_splice_X3 : ∀ w ∈ u_ws RX3 TX3 3, w ∈ wsX6_splice := fun _ h => List.mem_cons_of_mem _ (List.mem_append_right _ h)
theorem mb_X6_splice_3 : Cond.fieldLink RX6 32 (TX3 2).1 (TX3 2).2.1 (TX3 2).2.2.1 ∈ wsX6_splice := by decide +kernel
theorem mb_X6_splice_4 : Cond.fieldLink RX6 13 (TX6 0).1 (TX6 0).2.1 (TX6 0).2.2.1 ∈ wsX6_splice := by decide +kernel
theorem mb_X6_splice_5 : Cond.methodLink RX6 33 arraycopyName ∈ wsX6_splice := by decide +kernel
theorem mb_X6_splice_6 : Cond.native arraycopyName ∈ wsX6_splice := by decide +kernel
theorem mb_X6_splice_7 : Cond.static arraycopyName ∈ wsX6_splice := by decide +kernel
theorem mb_X6_splice_8 : Cond.initialized "java/lang/System" ∈ wsX6_splice := by decide +kernel
theorem mb_X6_splice_9 : Cond.fieldLink RX6 39 (TX3 0).1 (TX3 0).2.1 (TX3 0).2.2.1 ∈ wsX6_splice := by decide +kernel
theorem mb_X6_splice_10 : Cond.fieldLink RX6 43 (TX3 1).1 (TX3 1).2.1 (TX3 1).2.2.1 ∈ wsX6_splice := by decide +kernel
abbrev rmX6_spliceA : Room := { frames := 1, cells := 0, slots := 0, locals := 40 }
set_option maxHeartbeats 4000000 in
set_option maxRecDepth 100000 in
theorem c_X6_spliceA (l : Launch) (D : va_G) (cB cI cJ : ClassId) (t tb q u ub t_n u_n : Nat) (t_l : Int32) (t_f : Nat → Int8) (q_o : Int32) (q_l : Int32) (u_l : Int32) (u_f : Nat → Int8) (a1 : Int32) (a2 : Int32) {z : Int32 × (Nat → Int8)} (hf : p_X6_spliceA t_n u_n t_l t_f q_o q_l u_f a1 a2 = some z) : Cv (l, D, cB, cI, cJ) yX6_splice wsX6_splice rmX6_spliceA [.ref t, .int a1, .int a2, .ref q] [(t, .inr (4, [.ref tb, .int t_l])), (tb, .inl (cB, t_n, .inl (b8 t_f))), (q, .inr (2, [.ref u, .int q_o, .int q_l])), (u, .inr (4, [.ref ub, .int u_l])), (ub, .inl (cB, u_n, .inl (b8 u_f)))] [(t, .inr (4, [.ref tb, .int z.1])), (tb, .inl (cB, t_n, .inl (b8 z.2))), (q, .inr (2, [.ref u, .int q_o, .int q_l])), (u, .inr (4, [.ref ub, .int u_l])), (ub, .inl (cB, u_n, .inl (b8 u_f)))] := by
  refine Cv_of (cc := cX6_splice) (nL := 5) (own := RX6) (ret := none) (by decide) rfl rfl (Nat.le_of_ble_eq_true rfl) (fun X O hnm0 => ?_)
  rw [p_X6_spliceA] at hf
  show J X 5 (JQv X [(t, .inr (4, [.ref tb, .int z.1])), (tb, .inl (cB, t_n, .inl (b8 z.2))), (q, .inr (2, [.ref u, .int q_o, .int q_l])), (u, .inr (4, [.ref ub, .int u_l])), (ub, .inl (cB, u_n, .inl (b8 u_f)))] 0 0) [(t, .inr (4, [.ref tb, .int t_l])), (tb, .inl (cB, t_n, .inl (b8 t_f))), (q, .inr (2, [.ref u, .int q_o, .int q_l])), (u, .inr (4, [.ref ub, .int u_l])), (ub, .inl (cB, u_n, .inl (b8 u_f)))] 0 0 0 [(0, .ref t), (1, .int a1), (2, .int a2), (3, .ref q)] []
  refine J_iload_n O (i := 1) (k0 := 1) (pc := 0) 1 rfl rfl dX6_splice_0 ?_
  refine J_if_lt O (tgt := 31) (pc := 1) dX6_splice_1 (by decide) (fun c1 => ?_) (fun c1 => ?_)
  · have hf := jt_t c1 hf
    cases hf
    exact J_vret O (pc := 31) dX6_splice_31
  · have hf := jt_f c1 hf
    refine J_iload_n O (i := 2) (k0 := 2) (pc := 4) 2 rfl rfl dX6_splice_4 ?_
    refine J_if_lt O (tgt := 31) (pc := 5) dX6_splice_5 (by decide) (fun c5 => ?_) (fun c5 => ?_)
    · have hf := jt_t c5 hf
      cases hf
      exact J_vret O (pc := 31) dX6_splice_31
    · have hf := jt_f c5 hf
      refine J_iload_n O (i := 1) (k0 := 1) (pc := 8) 1 rfl rfl dX6_splice_8 ?_
      refine J_aload_n O (i := 0) (k0 := 0) (pc := 9) 0 rfl rfl dX6_splice_9 ?_
      refine J_get O (pc := 10) in_X6_splice_X6 0 rfl rfl 1 (by decide) mb_X6_splice_1 rfl dX6_splice_10 ?_
      refine J_iload_n O (i := 2) (k0 := 2) (pc := 13) 2 rfl rfl dX6_splice_13 ?_
      refine J_isub O (pc := 14) dX6_splice_14 ?_
      refine J_icmp_gt O (tgt := 31) (pc := 15) dX6_splice_15 (by decide) (fun c15 => ?_) (fun c15 => ?_)
      · have hf := jt_t c15 hf
        cases hf
        exact J_vret O (pc := 31) dX6_splice_31
      · have hf := jt_f c15 hf
        refine J_aload_n O (i := 3) (k0 := 3) (pc := 18) 3 rfl rfl dX6_splice_18 ?_
        refine J_get O (pc := 19) in_X6_splice_X3 2 rfl rfl 2 (by decide) mb_X6_splice_3 rfl dX6_splice_19 ?_
        refine J_iload_n O (i := 2) (k0 := 2) (pc := 22) 2 rfl rfl dX6_splice_22 ?_
        refine J_isub O (pc := 23) dX6_splice_23 ?_
        refine J_aload_n O (i := 0) (k0 := 0) (pc := 24) 0 rfl rfl dX6_splice_24 ?_
        obtain ⟨z25, h25, hf⟩ := jt_b hf
        refine J_callVi O (pc := 25) (c_X6_room l D cB cI cJ t tb t_n t_l t_f h25) rfl 0 rfl rfl gX6_splice_X6_room hdV_X6_room ⟨(Nat.le_of_ble_eq_true rfl), (Nat.le_of_ble_eq_true rfl)⟩ rfl (st := [.int (q_l - a2)]) rfl (Nat.le_of_ble_eq_true rfl) [0, 1] [2, 3, 4] rfl rfl rfl rfl rfl (by decide) [(t, .inr (4, [.ref tb, .int t_l])), (tb, .inl (cB, t_n, .inl (b8 t_f))), (q, .inr (2, [.ref u, .int q_o, .int q_l])), (u, .inr (4, [.ref ub, .int u_l])), (ub, .inl (cB, u_n, .inl (b8 u_f)))] [3, 4, 0, 1, 2] rfl rfl rfl (0) (0) (Nat.le_of_ble_eq_true rfl) (Nat.le_of_ble_eq_true rfl) ⟨(Nat.le_of_ble_eq_true rfl), (Nat.le_of_ble_eq_true rfl)⟩ dX6_splice_25 ?_
        refine J_icmp_le O (tgt := 32) (pc := 28) dX6_splice_28 (by decide) (fun c28 => ?_) (fun c28 => ?_)
        · have hf := jt_t c28 hf
          refine J_iload_n O (i := 1) (k0 := 1) (pc := 32) 1 rfl rfl dX6_splice_32 ?_
          refine J_iload_n O (i := 2) (k0 := 2) (pc := 33) 2 rfl rfl dX6_splice_33 ?_
          refine J_iadd O (pc := 34) dX6_splice_34 ?_
          refine J_istore O (i := 4) (pc := 35) [(4, .int (a1 + a2)), (0, .ref t), (1, .int a1), (2, .int a2), (3, .ref q)] (by decide) rfl dX6_splice_35 ?_
          refine J_aload_n O (i := 0) (k0 := 0) (pc := 37) 1 rfl rfl dX6_splice_37 ?_
          refine J_get O (pc := 38) in_X6_splice_X6 0 rfl rfl 0 (by decide) mb_X6_splice_4 rfl dX6_splice_38 ?_
          refine J_iload O (i := 4) (pc := 41) 0 rfl dX6_splice_41 ?_
          refine J_aload_n O (i := 0) (k0 := 0) (pc := 43) 1 rfl rfl dX6_splice_43 ?_
          refine J_get O (pc := 44) in_X6_splice_X6 0 rfl rfl 0 (by decide) mb_X6_splice_4 rfl dX6_splice_44 ?_
          refine J_iload_n O (i := 1) (k0 := 1) (pc := 47) 2 rfl rfl dX6_splice_47 ?_
          refine J_aload_n O (i := 3) (k0 := 3) (pc := 48) 4 rfl rfl dX6_splice_48 ?_
          refine J_get O (pc := 49) in_X6_splice_X3 2 rfl rfl 2 (by decide) mb_X6_splice_3 rfl dX6_splice_49 ?_
          refine J_iadd O (pc := 52) dX6_splice_52 ?_
          refine J_aload_n O (i := 0) (k0 := 0) (pc := 53) 1 rfl rfl dX6_splice_53 ?_
          refine J_get O (pc := 54) in_X6_splice_X6 0 rfl rfl 1 (by decide) mb_X6_splice_1 rfl dX6_splice_54 ?_
          refine J_iload O (i := 4) (pc := 57) 0 rfl dX6_splice_57 ?_
          refine J_isub O (pc := 59) dX6_splice_59 ?_
          obtain ⟨⟨h60, h60a, h60b, h60c, h60d⟩, hf⟩ := jt_g hf
          refine J_copy O (pc := 60) 1 1 rfl rfl rfl rfl h60 h60a h60b h60c h60d mb_X6_splice_5 mb_X6_splice_6 mb_X6_splice_7 mb_X6_splice_8 (Nat.le_of_ble_eq_true rfl) (Nat.le_of_ble_eq_true rfl) [(t, .inr (4, [.ref tb, .int t_l])), (tb, .inl (cB, t_n, .inl (b8 (va_cpy t_f t_f (Int32.toNatClampNeg (a1 + a2)) (Int32.toNatClampNeg (a1 + q_l)) (Int32.toNatClampNeg (t_l - (a1 + a2))))))), (q, .inr (2, [.ref u, .int q_o, .int q_l])), (u, .inr (4, [.ref ub, .int u_l])), (ub, .inl (cB, u_n, .inl (b8 u_f)))] rfl dX6_splice_60 ?_
          refine J_aload_n O (i := 3) (k0 := 3) (pc := 63) 4 rfl rfl dX6_splice_63 ?_
          refine J_get O (pc := 64) in_X6_splice_X3 2 rfl rfl 0 (by decide) mb_X6_splice_9 rfl dX6_splice_64 ?_
          refine J_get O (pc := 67) in_X6_splice_X6 3 rfl rfl 0 (by decide) mb_X6_splice_4 rfl dX6_splice_67 ?_
          refine J_aload_n O (i := 3) (k0 := 3) (pc := 70) 4 rfl rfl dX6_splice_70 ?_
          refine J_get O (pc := 71) in_X6_splice_X3 2 rfl rfl 1 (by decide) mb_X6_splice_10 rfl dX6_splice_71 ?_
          refine J_aload_n O (i := 0) (k0 := 0) (pc := 74) 1 rfl rfl dX6_splice_74 ?_
          refine J_get O (pc := 75) in_X6_splice_X6 0 rfl rfl 0 (by decide) mb_X6_splice_4 rfl dX6_splice_75 ?_
          refine J_iload_n O (i := 1) (k0 := 1) (pc := 78) 2 rfl rfl dX6_splice_78 ?_
          refine J_aload_n O (i := 3) (k0 := 3) (pc := 79) 4 rfl rfl dX6_splice_79 ?_
          refine J_get O (pc := 80) in_X6_splice_X3 2 rfl rfl 2 (by decide) mb_X6_splice_3 rfl dX6_splice_80 ?_
          obtain ⟨⟨h83, h83a, h83b, h83c, h83d⟩, hf⟩ := jt_g hf
          refine J_copy O (pc := 83) 4 1 rfl rfl rfl rfl h83 h83a h83b h83c h83d mb_X6_splice_5 mb_X6_splice_6 mb_X6_splice_7 mb_X6_splice_8 (Nat.le_of_ble_eq_true rfl) (Nat.le_of_ble_eq_true rfl) [(t, .inr (4, [.ref tb, .int t_l])), (tb, .inl (cB, t_n, .inl (b8 (va_cpy u_f (va_cpy t_f t_f (Int32.toNatClampNeg (a1 + a2)) (Int32.toNatClampNeg (a1 + q_l)) (Int32.toNatClampNeg (t_l - (a1 + a2)))) (Int32.toNatClampNeg q_o) (Int32.toNatClampNeg a1) (Int32.toNatClampNeg q_l))))), (q, .inr (2, [.ref u, .int q_o, .int q_l])), (u, .inr (4, [.ref ub, .int u_l])), (ub, .inl (cB, u_n, .inl (b8 u_f)))] rfl dX6_splice_83 ?_
          refine J_aload_n O (i := 0) (k0 := 0) (pc := 86) 1 rfl rfl dX6_splice_86 ?_
          refine J_dup O (pc := 87) rfl dX6_splice_87 ?_
          refine J_get O (pc := 88) in_X6_splice_X6 0 rfl rfl 1 (by decide) mb_X6_splice_1 rfl dX6_splice_88 ?_
          refine J_aload_n O (i := 3) (k0 := 3) (pc := 91) 4 rfl rfl dX6_splice_91 ?_
          refine J_get O (pc := 92) in_X6_splice_X3 2 rfl rfl 2 (by decide) mb_X6_splice_3 rfl dX6_splice_92 ?_
          refine J_iload_n O (i := 2) (k0 := 2) (pc := 95) 3 rfl rfl dX6_splice_95 ?_
          refine J_isub O (pc := 96) dX6_splice_96 ?_
          refine J_iadd O (pc := 97) dX6_splice_97 ?_
          refine J_put O (pc := 98) in_X6_splice_X6 tyX6 tyX6_ok nmX6 0 rfl rfl 1 (by decide) mb_X6_splice_1 rfl rfl rfl (Nat.le_of_ble_eq_true rfl) [(t, .inr (4, [.ref tb, .int (t_l + (q_l - a2))])), (tb, .inl (cB, t_n, .inl (b8 (va_cpy u_f (va_cpy t_f t_f (Int32.toNatClampNeg (a1 + a2)) (Int32.toNatClampNeg (a1 + q_l)) (Int32.toNatClampNeg (t_l - (a1 + a2)))) (Int32.toNatClampNeg q_o) (Int32.toNatClampNeg a1) (Int32.toNatClampNeg q_l))))), (q, .inr (2, [.ref u, .int q_o, .int q_l])), (u, .inr (4, [.ref ub, .int u_l])), (ub, .inl (cB, u_n, .inl (b8 u_f)))] rfl dX6_splice_98 ?_
          cases hf
          exact J_vret O (pc := 101) dX6_splice_101
        · have hf := jt_f c28 hf
          cases hf
          exact J_vret O (pc := 31) dX6_splice_31
abbrev rmX6_spliceB : Room := { frames := 1, cells := 0, slots := 0, locals := 40 }
set_option maxHeartbeats 4000000 in
set_option maxRecDepth 100000 in
theorem c_X6_spliceB (l : Launch) (D : va_G) (cB cI cJ : ClassId) (t tb q t_n : Nat) (t_l : Int32) (t_f : Nat → Int8) (q_o : Int32) (q_l : Int32) (a1 : Int32) (a2 : Int32) {z : Int32 × (Nat → Int8)} (hf : p_X6_spliceB t_n t_l t_f q_o q_l a1 a2 = some z) : Cv (l, D, cB, cI, cJ) yX6_splice wsX6_splice rmX6_spliceB [.ref t, .int a1, .int a2, .ref q] [(t, .inr (4, [.ref tb, .int t_l])), (tb, .inl (cB, t_n, .inl (b8 t_f))), (q, .inr (2, [.ref t, .int q_o, .int q_l]))] [(t, .inr (4, [.ref tb, .int z.1])), (tb, .inl (cB, t_n, .inl (b8 z.2))), (q, .inr (2, [.ref t, .int q_o, .int q_l]))] := by
  refine Cv_of (cc := cX6_splice) (nL := 5) (own := RX6) (ret := none) (by decide) rfl rfl (Nat.le_of_ble_eq_true rfl) (fun X O hnm0 => ?_)
  rw [p_X6_spliceB] at hf
  show J X 5 (JQv X [(t, .inr (4, [.ref tb, .int z.1])), (tb, .inl (cB, t_n, .inl (b8 z.2))), (q, .inr (2, [.ref t, .int q_o, .int q_l]))] 0 0) [(t, .inr (4, [.ref tb, .int t_l])), (tb, .inl (cB, t_n, .inl (b8 t_f))), (q, .inr (2, [.ref t, .int q_o, .int q_l]))] 0 0 0 [(0, .ref t), (1, .int a1), (2, .int a2), (3, .ref q)] []
  refine J_iload_n O (i := 1) (k0 := 1) (pc := 0) 1 rfl rfl dX6_splice_0 ?_
  refine J_if_lt O (tgt := 31) (pc := 1) dX6_splice_1 (by decide) (fun c1 => ?_) (fun c1 => ?_)
  · have hf := jt_t c1 hf
    cases hf
    exact J_vret O (pc := 31) dX6_splice_31
  · have hf := jt_f c1 hf
    refine J_iload_n O (i := 2) (k0 := 2) (pc := 4) 2 rfl rfl dX6_splice_4 ?_
    refine J_if_lt O (tgt := 31) (pc := 5) dX6_splice_5 (by decide) (fun c5 => ?_) (fun c5 => ?_)
    · have hf := jt_t c5 hf
      cases hf
      exact J_vret O (pc := 31) dX6_splice_31
    · have hf := jt_f c5 hf
      refine J_iload_n O (i := 1) (k0 := 1) (pc := 8) 1 rfl rfl dX6_splice_8 ?_
      refine J_aload_n O (i := 0) (k0 := 0) (pc := 9) 0 rfl rfl dX6_splice_9 ?_
      refine J_get O (pc := 10) in_X6_splice_X6 0 rfl rfl 1 (by decide) mb_X6_splice_1 rfl dX6_splice_10 ?_
      refine J_iload_n O (i := 2) (k0 := 2) (pc := 13) 2 rfl rfl dX6_splice_13 ?_
      refine J_isub O (pc := 14) dX6_splice_14 ?_
      refine J_icmp_gt O (tgt := 31) (pc := 15) dX6_splice_15 (by decide) (fun c15 => ?_) (fun c15 => ?_)
      · have hf := jt_t c15 hf
        cases hf
        exact J_vret O (pc := 31) dX6_splice_31
      · have hf := jt_f c15 hf
        refine J_aload_n O (i := 3) (k0 := 3) (pc := 18) 3 rfl rfl dX6_splice_18 ?_
        refine J_get O (pc := 19) in_X6_splice_X3 2 rfl rfl 2 (by decide) mb_X6_splice_3 rfl dX6_splice_19 ?_
        refine J_iload_n O (i := 2) (k0 := 2) (pc := 22) 2 rfl rfl dX6_splice_22 ?_
        refine J_isub O (pc := 23) dX6_splice_23 ?_
        refine J_aload_n O (i := 0) (k0 := 0) (pc := 24) 0 rfl rfl dX6_splice_24 ?_
        obtain ⟨z25, h25, hf⟩ := jt_b hf
        refine J_callVi O (pc := 25) (c_X6_room l D cB cI cJ t tb t_n t_l t_f h25) rfl 0 rfl rfl gX6_splice_X6_room hdV_X6_room ⟨(Nat.le_of_ble_eq_true rfl), (Nat.le_of_ble_eq_true rfl)⟩ rfl (st := [.int (q_l - a2)]) rfl (Nat.le_of_ble_eq_true rfl) [0, 1] [2] rfl rfl rfl rfl rfl (by decide) [(t, .inr (4, [.ref tb, .int t_l])), (tb, .inl (cB, t_n, .inl (b8 t_f))), (q, .inr (2, [.ref t, .int q_o, .int q_l]))] [1, 2, 0] rfl rfl rfl (0) (0) (Nat.le_of_ble_eq_true rfl) (Nat.le_of_ble_eq_true rfl) ⟨(Nat.le_of_ble_eq_true rfl), (Nat.le_of_ble_eq_true rfl)⟩ dX6_splice_25 ?_
        refine J_icmp_le O (tgt := 32) (pc := 28) dX6_splice_28 (by decide) (fun c28 => ?_) (fun c28 => ?_)
        · have hf := jt_t c28 hf
          refine J_iload_n O (i := 1) (k0 := 1) (pc := 32) 1 rfl rfl dX6_splice_32 ?_
          refine J_iload_n O (i := 2) (k0 := 2) (pc := 33) 2 rfl rfl dX6_splice_33 ?_
          refine J_iadd O (pc := 34) dX6_splice_34 ?_
          refine J_istore O (i := 4) (pc := 35) [(4, .int (a1 + a2)), (0, .ref t), (1, .int a1), (2, .int a2), (3, .ref q)] (by decide) rfl dX6_splice_35 ?_
          refine J_aload_n O (i := 0) (k0 := 0) (pc := 37) 1 rfl rfl dX6_splice_37 ?_
          refine J_get O (pc := 38) in_X6_splice_X6 0 rfl rfl 0 (by decide) mb_X6_splice_4 rfl dX6_splice_38 ?_
          refine J_iload O (i := 4) (pc := 41) 0 rfl dX6_splice_41 ?_
          refine J_aload_n O (i := 0) (k0 := 0) (pc := 43) 1 rfl rfl dX6_splice_43 ?_
          refine J_get O (pc := 44) in_X6_splice_X6 0 rfl rfl 0 (by decide) mb_X6_splice_4 rfl dX6_splice_44 ?_
          refine J_iload_n O (i := 1) (k0 := 1) (pc := 47) 2 rfl rfl dX6_splice_47 ?_
          refine J_aload_n O (i := 3) (k0 := 3) (pc := 48) 4 rfl rfl dX6_splice_48 ?_
          refine J_get O (pc := 49) in_X6_splice_X3 2 rfl rfl 2 (by decide) mb_X6_splice_3 rfl dX6_splice_49 ?_
          refine J_iadd O (pc := 52) dX6_splice_52 ?_
          refine J_aload_n O (i := 0) (k0 := 0) (pc := 53) 1 rfl rfl dX6_splice_53 ?_
          refine J_get O (pc := 54) in_X6_splice_X6 0 rfl rfl 1 (by decide) mb_X6_splice_1 rfl dX6_splice_54 ?_
          refine J_iload O (i := 4) (pc := 57) 0 rfl dX6_splice_57 ?_
          refine J_isub O (pc := 59) dX6_splice_59 ?_
          obtain ⟨⟨h60, h60a, h60b, h60c, h60d⟩, hf⟩ := jt_g hf
          refine J_copy O (pc := 60) 1 1 rfl rfl rfl rfl h60 h60a h60b h60c h60d mb_X6_splice_5 mb_X6_splice_6 mb_X6_splice_7 mb_X6_splice_8 (Nat.le_of_ble_eq_true rfl) (Nat.le_of_ble_eq_true rfl) [(t, .inr (4, [.ref tb, .int t_l])), (tb, .inl (cB, t_n, .inl (b8 (va_cpy t_f t_f (Int32.toNatClampNeg (a1 + a2)) (Int32.toNatClampNeg (a1 + q_l)) (Int32.toNatClampNeg (t_l - (a1 + a2))))))), (q, .inr (2, [.ref t, .int q_o, .int q_l]))] rfl dX6_splice_60 ?_
          refine J_aload_n O (i := 3) (k0 := 3) (pc := 63) 4 rfl rfl dX6_splice_63 ?_
          refine J_get O (pc := 64) in_X6_splice_X3 2 rfl rfl 0 (by decide) mb_X6_splice_9 rfl dX6_splice_64 ?_
          refine J_get O (pc := 67) in_X6_splice_X6 0 rfl rfl 0 (by decide) mb_X6_splice_4 rfl dX6_splice_67 ?_
          refine J_aload_n O (i := 3) (k0 := 3) (pc := 70) 4 rfl rfl dX6_splice_70 ?_
          refine J_get O (pc := 71) in_X6_splice_X3 2 rfl rfl 1 (by decide) mb_X6_splice_10 rfl dX6_splice_71 ?_
          refine J_aload_n O (i := 0) (k0 := 0) (pc := 74) 1 rfl rfl dX6_splice_74 ?_
          refine J_get O (pc := 75) in_X6_splice_X6 0 rfl rfl 0 (by decide) mb_X6_splice_4 rfl dX6_splice_75 ?_
          refine J_iload_n O (i := 1) (k0 := 1) (pc := 78) 2 rfl rfl dX6_splice_78 ?_
          refine J_aload_n O (i := 3) (k0 := 3) (pc := 79) 4 rfl rfl dX6_splice_79 ?_
          refine J_get O (pc := 80) in_X6_splice_X3 2 rfl rfl 2 (by decide) mb_X6_splice_3 rfl dX6_splice_80 ?_
          obtain ⟨⟨h83, h83a, h83b, h83c, h83d⟩, hf⟩ := jt_g hf
          refine J_copy O (pc := 83) 1 1 rfl rfl rfl rfl h83 h83a h83b h83c h83d mb_X6_splice_5 mb_X6_splice_6 mb_X6_splice_7 mb_X6_splice_8 (Nat.le_of_ble_eq_true rfl) (Nat.le_of_ble_eq_true rfl) [(t, .inr (4, [.ref tb, .int t_l])), (tb, .inl (cB, t_n, .inl (b8 (va_cpy (va_cpy t_f t_f (Int32.toNatClampNeg (a1 + a2)) (Int32.toNatClampNeg (a1 + q_l)) (Int32.toNatClampNeg (t_l - (a1 + a2)))) (va_cpy t_f t_f (Int32.toNatClampNeg (a1 + a2)) (Int32.toNatClampNeg (a1 + q_l)) (Int32.toNatClampNeg (t_l - (a1 + a2)))) (Int32.toNatClampNeg q_o) (Int32.toNatClampNeg a1) (Int32.toNatClampNeg q_l))))), (q, .inr (2, [.ref t, .int q_o, .int q_l]))] rfl dX6_splice_83 ?_
          refine J_aload_n O (i := 0) (k0 := 0) (pc := 86) 1 rfl rfl dX6_splice_86 ?_
          refine J_dup O (pc := 87) rfl dX6_splice_87 ?_
          refine J_get O (pc := 88) in_X6_splice_X6 0 rfl rfl 1 (by decide) mb_X6_splice_1 rfl dX6_splice_88 ?_
          refine J_aload_n O (i := 3) (k0 := 3) (pc := 91) 4 rfl rfl dX6_splice_91 ?_
          refine J_get O (pc := 92) in_X6_splice_X3 2 rfl rfl 2 (by decide) mb_X6_splice_3 rfl dX6_splice_92 ?_
          refine J_iload_n O (i := 2) (k0 := 2) (pc := 95) 3 rfl rfl dX6_splice_95 ?_
          refine J_isub O (pc := 96) dX6_splice_96 ?_
          refine J_iadd O (pc := 97) dX6_splice_97 ?_
          refine J_put O (pc := 98) in_X6_splice_X6 tyX6 tyX6_ok nmX6 0 rfl rfl 1 (by decide) mb_X6_splice_1 rfl rfl rfl (Nat.le_of_ble_eq_true rfl) [(t, .inr (4, [.ref tb, .int (t_l + (q_l - a2))])), (tb, .inl (cB, t_n, .inl (b8 (va_cpy (va_cpy t_f t_f (Int32.toNatClampNeg (a1 + a2)) (Int32.toNatClampNeg (a1 + q_l)) (Int32.toNatClampNeg (t_l - (a1 + a2)))) (va_cpy t_f t_f (Int32.toNatClampNeg (a1 + a2)) (Int32.toNatClampNeg (a1 + q_l)) (Int32.toNatClampNeg (t_l - (a1 + a2)))) (Int32.toNatClampNeg q_o) (Int32.toNatClampNeg a1) (Int32.toNatClampNeg q_l))))), (q, .inr (2, [.ref t, .int q_o, .int q_l]))] rfl dX6_splice_98 ?_
          cases hf
          exact J_vret O (pc := 101) dX6_splice_101
        · have hf := jt_f c28 hf
          cases hf
          exact J_vret O (pc := 31) dX6_splice_31
theorem mb_X5_init_0 : Cond.methodLink RX5 3 objectInit ∈ wsX5_init := by decide +kernel
theorem mb_X5_init_1 : Cond.instanceMethod objectInit ∈ wsX5_init := by decide +kernel
theorem mb_X5_init_2 : Cond.code objectInit ⟨#[0xb1]⟩ 1 none ∈ wsX5_init := by decide +kernel
theorem in_X5_init_X5 : ∀ w ∈ u_ws RX5 TX5 2, w ∈ wsX5_init := fun _ h => List.mem_cons_of_mem _ (List.mem_append_right _ h)
theorem mb_X5_init_4 : Cond.fieldLink RX5 9 (TX5 0).1 (TX5 0).2.1 (TX5 0).2.2.1 ∈ wsX5_init := by decide +kernel
theorem mb_X5_init_5 : Cond.fieldLink RX5 15 (TX5 1).1 (TX5 1).2.1 (TX5 1).2.2.1 ∈ wsX5_init := by decide +kernel
abbrev rmX5_init : Room := { frames := 1, cells := 0, slots := 0, locals := 20 }
set_option maxHeartbeats 4000000 in
set_option maxRecDepth 100000 in
theorem c_X5_init (l : Launch) (D : va_G) (cB cI cJ : ClassId) (r : Nat) (a1 : Int64) (a3 : Int64) {z : Int64 × Int64} (hf : p_X5_init a1 a3 = some z) : Cv (l, D, cB, cI, cJ) yX5_init wsX5_init rmX5_init [.ref r, .long a1, .long a3] [(r, .inr (3, [.long 0, .long 0]))] [(r, .inr (3, [.long z.1, .long z.2]))] := by
  refine Cv_of (cc := cX5_init) (nL := 5) (own := RX5) (ret := none) (by decide) rfl rfl (Nat.le_of_ble_eq_true rfl) (fun X O hnm0 => ?_)
  have hnm := hnm0 rfl
  rw [p_X5_init] at hf
  show J X 5 (JQv X [(r, .inr (3, [.long z.1, .long z.2]))] 0 0) [(r, .inr (3, [.long 0, .long 0]))] 0 0 0 [(0, .ref r), (1, .long a1), (3, .long a3)] []
  refine J_aload_n O (i := 0) (k0 := 0) (pc := 0) 0 rfl rfl dX5_init_0 ?_
  refine J_objInit O (pc := 1) mb_X5_init_0 mb_X5_init_1 mb_X5_init_2 (Nat.le_of_ble_eq_true rfl) (Nat.le_of_ble_eq_true rfl) dX5_init_1 ?_
  refine J_aload_n O (i := 0) (k0 := 0) (pc := 4) 0 rfl rfl dX5_init_4 ?_
  refine J_lload_n O (i := 1) (k0 := 1) (pc := 5) 1 rfl rfl dX5_init_5 ?_
  refine J_putF O (pc := 6) in_X5_init_X5 tyX5 tyX5_ok nmX5 0 rfl rfl 0 (by decide) mb_X5_init_4 rfl hnm rfl rfl rfl (Nat.le_of_ble_eq_true rfl) [(r, .inr (3, [.long a1, .long 0]))] rfl dX5_init_6 ?_
  refine J_aload_n O (i := 0) (k0 := 0) (pc := 9) 0 rfl rfl dX5_init_9 ?_
  refine J_lload_n O (i := 3) (k0 := 3) (pc := 10) 2 rfl rfl dX5_init_10 ?_
  refine J_putF O (pc := 11) in_X5_init_X5 tyX5 tyX5_ok nmX5 0 rfl rfl 1 (by decide) mb_X5_init_5 rfl hnm rfl rfl rfl (Nat.le_of_ble_eq_true rfl) [(r, .inr (3, [.long a1, .long a3]))] rfl dX5_init_11 ?_
  cases hf
  exact J_vret O (pc := 14) dX5_init_14
theorem in_X5_isNothing_X5 : ∀ w ∈ u_ws RX5 TX5 2, w ∈ wsX5_isNothing := fun _ h => List.mem_cons_of_mem _ (List.mem_append_right _ h)
theorem mb_X5_isNothing_1 : Cond.fieldLink RX5 9 (TX5 0).1 (TX5 0).2.1 (TX5 0).2.2.1 ∈ wsX5_isNothing := by decide +kernel
theorem mb_X5_isNothing_2 : Cond.fieldLink RX5 15 (TX5 1).1 (TX5 1).2.1 (TX5 1).2.2.1 ∈ wsX5_isNothing := by decide +kernel
abbrev rmX5_isNothing : Room := { frames := 0, cells := 0, slots := 0, locals := 0 }
set_option maxHeartbeats 4000000 in
set_option maxRecDepth 100000 in
theorem c_X5_isNothing (l : Launch) (D : va_G) (cB cI cJ : ClassId) (r : Nat) (r_a : Int64) (r_b : Int64) {z : Bool} (hf : p_X5_isNothing r_a r_b = some z) : Ci (l, D, cB, cI, cJ) yX5_isNothing wsX5_isNothing rmX5_isNothing [.ref r] [(r, .inr (3, [.long r_a, .long r_b]))] [(r, .inr (3, [.long r_a, .long r_b]))] (bI z) := by
  refine Ci_of (cc := cX5_isNothing) (nL := 1) (own := RX5) (ret := (some .boolean)) (by decide) rfl rfl (Nat.le_of_ble_eq_true rfl) (fun X O hnm0 => ?_)
  rw [p_X5_isNothing] at hf
  show J X 1 (JQi X [(r, .inr (3, [.long r_a, .long r_b]))] (bI z) 0 0) [(r, .inr (3, [.long r_a, .long r_b]))] 0 0 0 [(0, .ref r)] []
  refine J_aload_n O (i := 0) (k0 := 0) (pc := 0) 0 rfl rfl dX5_isNothing_0 ?_
  refine J_get O (pc := 1) in_X5_isNothing_X5 0 rfl rfl 0 (by decide) mb_X5_isNothing_1 rfl dX5_isNothing_1 ?_
  refine J_lconst O (v := 0) (pc := 4) (by decide) dX5_isNothing_4 ?_
  refine J_lif_ne O (tgt := 22) (pc := 5) dX5_isNothing_5 dX5_isNothing_6 (by decide) (fun c5 => ?_) (fun c5 => ?_)
  · have hf := jt_f c5 hf
    refine J_iconst O (v := 0) (pc := 22) (by decide) dX5_isNothing_22 ?_
    cases hf
    exact J_zret O (pc := 23) rfl dX5_isNothing_23
  · have hf := jt_t c5 hf
    refine J_aload_n O (i := 0) (k0 := 0) (pc := 9) 0 rfl rfl dX5_isNothing_9 ?_
    refine J_get O (pc := 10) in_X5_isNothing_X5 0 rfl rfl 1 (by decide) mb_X5_isNothing_2 rfl dX5_isNothing_10 ?_
    refine J_lconst O (v := 0) (pc := 13) (by decide) dX5_isNothing_13 ?_
    refine J_lif_ne O (tgt := 22) (pc := 14) dX5_isNothing_14 dX5_isNothing_15 (by decide) (fun c14 => ?_) (fun c14 => ?_)
    · have hf := jt_f c14 hf
      refine J_iconst O (v := 0) (pc := 22) (by decide) dX5_isNothing_22 ?_
      cases hf
      exact J_zret O (pc := 23) rfl dX5_isNothing_23
    · have hf := jt_t c14 hf
      refine J_iconst O (v := 1) (pc := 18) (by decide) dX5_isNothing_18 ?_
      refine J_goto O (tgt := 23) (pc := 19) dX5_isNothing_19 (by decide) ?_
      cases hf
      exact J_zret O (pc := 23) rfl dX5_isNothing_23
theorem in_X5_isProper_X5 : ∀ w ∈ u_ws RX5 TX5 2, w ∈ wsX5_isProper := fun _ h => List.mem_cons_of_mem _ (List.mem_append_right _ h)
theorem mb_X5_isProper_1 : Cond.fieldLink RX5 9 (TX5 0).1 (TX5 0).2.1 (TX5 0).2.2.1 ∈ wsX5_isProper := by decide +kernel
theorem mb_X5_isProper_2 : Cond.fieldLink RX5 15 (TX5 1).1 (TX5 1).2.1 (TX5 1).2.2.1 ∈ wsX5_isProper := by decide +kernel
abbrev rmX5_isProper : Room := { frames := 0, cells := 0, slots := 0, locals := 0 }
set_option maxHeartbeats 4000000 in
set_option maxRecDepth 100000 in
theorem c_X5_isProper (l : Launch) (D : va_G) (cB cI cJ : ClassId) (r : Nat) (r_a : Int64) (r_b : Int64) {z : Bool} (hf : p_X5_isProper r_a r_b = some z) : Ci (l, D, cB, cI, cJ) yX5_isProper wsX5_isProper rmX5_isProper [.ref r] [(r, .inr (3, [.long r_a, .long r_b]))] [(r, .inr (3, [.long r_a, .long r_b]))] (bI z) := by
  refine Ci_of (cc := cX5_isProper) (nL := 1) (own := RX5) (ret := (some .boolean)) (by decide) rfl rfl (Nat.le_of_ble_eq_true rfl) (fun X O hnm0 => ?_)
  rw [p_X5_isProper] at hf
  show J X 1 (JQi X [(r, .inr (3, [.long r_a, .long r_b]))] (bI z) 0 0) [(r, .inr (3, [.long r_a, .long r_b]))] 0 0 0 [(0, .ref r)] []
  refine J_aload_n O (i := 0) (k0 := 0) (pc := 0) 0 rfl rfl dX5_isProper_0 ?_
  refine J_get O (pc := 1) in_X5_isProper_X5 0 rfl rfl 0 (by decide) mb_X5_isProper_1 rfl dX5_isProper_1 ?_
  refine J_lconst O (v := 0) (pc := 4) (by decide) dX5_isProper_4 ?_
  refine J_lif_lt O (tgt := 22) (pc := 5) dX5_isProper_5 dX5_isProper_6 (by decide) (fun c5 => ?_) (fun c5 => ?_)
  · have hf := jt_t c5 hf
    refine J_iconst O (v := 0) (pc := 22) (by decide) dX5_isProper_22 ?_
    cases hf
    exact J_zret O (pc := 23) rfl dX5_isProper_23
  · have hf := jt_f c5 hf
    refine J_aload_n O (i := 0) (k0 := 0) (pc := 9) 0 rfl rfl dX5_isProper_9 ?_
    refine J_get O (pc := 10) in_X5_isProper_X5 0 rfl rfl 1 (by decide) mb_X5_isProper_2 rfl dX5_isProper_10 ?_
    refine J_lconst O (v := 0) (pc := 13) (by decide) dX5_isProper_13 ?_
    refine J_lif_le O (tgt := 22) (pc := 14) dX5_isProper_14 dX5_isProper_15 (by decide) (fun c14 => ?_) (fun c14 => ?_)
    · have hf := jt_t c14 hf
      refine J_iconst O (v := 0) (pc := 22) (by decide) dX5_isProper_22 ?_
      cases hf
      exact J_zret O (pc := 23) rfl dX5_isProper_23
    · have hf := jt_f c14 hf
      refine J_iconst O (v := 1) (pc := 18) (by decide) dX5_isProper_18 ?_
      refine J_goto O (tgt := 23) (pc := 19) dX5_isProper_19 (by decide) ?_
      cases hf
      exact J_zret O (pc := 23) rfl dX5_isProper_23
theorem hdV_X5_isProper : yX5_isProper.cls = RX5 ∧ yX5_isProper.cls ≠ "java/lang/invoke/MethodHandle" ∧ yX5_isProper.cls ≠ "java/lang/invoke/VarHandle" ∧ (parseMethodDescriptor yX5_isProper.desc).map (fun d => d.parameters.length) = some 0 := by decide +kernel
theorem in_X5_isUsable_X5 : ∀ w ∈ u_ws RX5 TX5 2, w ∈ wsX5_isUsable := fun _ h => List.mem_cons_of_mem _ (List.mem_append_right _ h)
theorem mb_X5_isUsable_1 : Cond.fieldLink RX5 9 (TX5 0).1 (TX5 0).2.1 (TX5 0).2.2.1 ∈ wsX5_isUsable := by decide +kernel
theorem mb_X5_isUsable_2 : Cond.constantLong RX5 22 65535 ∈ wsX5_isUsable := by decide +kernel
theorem mb_X5_isUsable_3 : Cond.fieldLink RX5 15 (TX5 1).1 (TX5 1).2.1 (TX5 1).2.2.1 ∈ wsX5_isUsable := by decide +kernel
abbrev rmX5_isUsable : Room := { frames := 1, cells := 0, slots := 0, locals := 20 }
set_option maxHeartbeats 4000000 in
set_option maxRecDepth 100000 in
theorem c_X5_isUsable (l : Launch) (D : va_G) (cB cI cJ : ClassId) (r : Nat) (r_a : Int64) (r_b : Int64) {z : Bool} (hf : p_X5_isUsable r_a r_b = some z) : Ci (l, D, cB, cI, cJ) yX5_isUsable wsX5_isUsable rmX5_isUsable [.ref r] [(r, .inr (3, [.long r_a, .long r_b]))] [(r, .inr (3, [.long r_a, .long r_b]))] (bI z) := by
  refine Ci_of (cc := cX5_isUsable) (nL := 1) (own := RX5) (ret := (some .boolean)) (by decide) rfl rfl (Nat.le_of_ble_eq_true rfl) (fun X O hnm0 => ?_)
  rw [p_X5_isUsable] at hf
  show J X 1 (JQi X [(r, .inr (3, [.long r_a, .long r_b]))] (bI z) 0 0) [(r, .inr (3, [.long r_a, .long r_b]))] 0 0 0 [(0, .ref r)] []
  refine J_aload_n O (i := 0) (k0 := 0) (pc := 0) 0 rfl rfl dX5_isUsable_0 ?_
  obtain ⟨z1, h1, hf⟩ := jt_b hf
  refine J_callVi O (pc := 1) (c_X5_isProper l D cB cI cJ r r_a r_b h1) rfl 0 rfl rfl gX5_isUsable_X5_isProper hdV_X5_isProper ⟨(Nat.le_of_ble_eq_true rfl), (Nat.le_of_ble_eq_true rfl)⟩ rfl (st := []) rfl (Nat.le_of_ble_eq_true rfl) [0] [] rfl rfl rfl rfl rfl (by decide) [(r, .inr (3, [.long r_a, .long r_b]))] [0] rfl rfl rfl (0) (0) (Nat.le_of_ble_eq_true rfl) (Nat.le_of_ble_eq_true rfl) ⟨(Nat.le_of_ble_eq_true rfl), (Nat.le_of_ble_eq_true rfl)⟩ dX5_isUsable_1 ?_
  refine J_zeq O (tgt := 33) (pc := 4) dX5_isUsable_4 (by decide) (fun c4 => ?_) (fun c4 => ?_)
  · have hf := jt_f c4 hf
    refine J_iconst O (v := 0) (pc := 33) (by decide) dX5_isUsable_33 ?_
    cases hf
    exact J_zret O (pc := 34) rfl dX5_isUsable_34
  · have hf := jt_t c4 hf
    refine J_aload_n O (i := 0) (k0 := 0) (pc := 7) 0 rfl rfl dX5_isUsable_7 ?_
    refine J_get O (pc := 8) in_X5_isUsable_X5 0 rfl rfl 0 (by decide) mb_X5_isUsable_1 rfl dX5_isUsable_8 ?_
    refine J_ldc2 O (pc := 11) mb_X5_isUsable_2 dX5_isUsable_11 ?_
    refine J_lif_gt O (tgt := 33) (pc := 14) dX5_isUsable_14 dX5_isUsable_15 (by decide) (fun c14 => ?_) (fun c14 => ?_)
    · have hf := jt_t c14 hf
      refine J_iconst O (v := 0) (pc := 33) (by decide) dX5_isUsable_33 ?_
      cases hf
      exact J_zret O (pc := 34) rfl dX5_isUsable_34
    · have hf := jt_f c14 hf
      refine J_aload_n O (i := 0) (k0 := 0) (pc := 18) 0 rfl rfl dX5_isUsable_18 ?_
      refine J_get O (pc := 19) in_X5_isUsable_X5 0 rfl rfl 1 (by decide) mb_X5_isUsable_3 rfl dX5_isUsable_19 ?_
      refine J_ldc2 O (pc := 22) mb_X5_isUsable_2 dX5_isUsable_22 ?_
      refine J_lif_gt O (tgt := 33) (pc := 25) dX5_isUsable_25 dX5_isUsable_26 (by decide) (fun c25 => ?_) (fun c25 => ?_)
      · have hf := jt_t c25 hf
        refine J_iconst O (v := 0) (pc := 33) (by decide) dX5_isUsable_33 ?_
        cases hf
        exact J_zret O (pc := 34) rfl dX5_isUsable_34
      · have hf := jt_f c25 hf
        refine J_iconst O (v := 1) (pc := 29) (by decide) dX5_isUsable_29 ?_
        refine J_goto O (tgt := 34) (pc := 30) dX5_isUsable_30 (by decide) ?_
        cases hf
        exact J_zret O (pc := 34) rfl dX5_isUsable_34
theorem hdV_X5_isNothing : yX5_isNothing.cls = RX5 ∧ yX5_isNothing.cls ≠ "java/lang/invoke/MethodHandle" ∧ yX5_isNothing.cls ≠ "java/lang/invoke/VarHandle" ∧ (parseMethodDescriptor yX5_isNothing.desc).map (fun d => d.parameters.length) = some 0 := by decide +kernel
theorem hdV_X5_isUsable : yX5_isUsable.cls = RX5 ∧ yX5_isUsable.cls ≠ "java/lang/invoke/MethodHandle" ∧ yX5_isUsable.cls ≠ "java/lang/invoke/VarHandle" ∧ (parseMethodDescriptor yX5_isUsable.desc).map (fun d => d.parameters.length) = some 0 := by decide +kernel
abbrev rmX5_isLimit : Room := { frames := 2, cells := 0, slots := 0, locals := 40 }
set_option maxHeartbeats 4000000 in
set_option maxRecDepth 100000 in
theorem c_X5_isLimit (l : Launch) (D : va_G) (cB cI cJ : ClassId) (r : Nat) (r_a : Int64) (r_b : Int64) {z : Bool} (hf : p_X5_isLimit r_a r_b = some z) : Ci (l, D, cB, cI, cJ) yX5_isLimit wsX5_isLimit rmX5_isLimit [.ref r] [(r, .inr (3, [.long r_a, .long r_b]))] [(r, .inr (3, [.long r_a, .long r_b]))] (bI z) := by
  refine Ci_of (cc := cX5_isLimit) (nL := 1) (own := RX5) (ret := (some .boolean)) (by decide) rfl rfl (Nat.le_of_ble_eq_true rfl) (fun X O hnm0 => ?_)
  rw [p_X5_isLimit] at hf
  show J X 1 (JQi X [(r, .inr (3, [.long r_a, .long r_b]))] (bI z) 0 0) [(r, .inr (3, [.long r_a, .long r_b]))] 0 0 0 [(0, .ref r)] []
  refine J_aload_n O (i := 0) (k0 := 0) (pc := 0) 0 rfl rfl dX5_isLimit_0 ?_
  obtain ⟨z1, h1, hf⟩ := jt_b hf
  refine J_callVi O (pc := 1) (c_X5_isNothing l D cB cI cJ r r_a r_b h1) rfl 0 rfl rfl gX5_isLimit_X5_isNothing hdV_X5_isNothing ⟨(Nat.le_of_ble_eq_true rfl), (Nat.le_of_ble_eq_true rfl)⟩ rfl (st := []) rfl (Nat.le_of_ble_eq_true rfl) [0] [] rfl rfl rfl rfl rfl (by decide) [(r, .inr (3, [.long r_a, .long r_b]))] [0] rfl rfl rfl (0) (0) (Nat.le_of_ble_eq_true rfl) (Nat.le_of_ble_eq_true rfl) ⟨(Nat.le_of_ble_eq_true rfl), (Nat.le_of_ble_eq_true rfl)⟩ dX5_isLimit_1 ?_
  refine J_zne O (tgt := 14) (pc := 4) dX5_isLimit_4 (by decide) (fun c4 => ?_) (fun c4 => ?_)
  · have hf := jt_t c4 hf
    refine J_iconst O (v := 1) (pc := 14) (by decide) dX5_isLimit_14 ?_
    refine J_goto O (tgt := 19) (pc := 15) dX5_isLimit_15 (by decide) ?_
    cases hf
    exact J_zret O (pc := 19) rfl dX5_isLimit_19
  · have hf := jt_f c4 hf
    refine J_aload_n O (i := 0) (k0 := 0) (pc := 7) 0 rfl rfl dX5_isLimit_7 ?_
    obtain ⟨z8, h8, hf⟩ := jt_b hf
    refine J_callVi O (pc := 8) (c_X5_isUsable l D cB cI cJ r r_a r_b h8) rfl 0 rfl rfl gX5_isLimit_X5_isUsable hdV_X5_isUsable ⟨(Nat.le_of_ble_eq_true rfl), (Nat.le_of_ble_eq_true rfl)⟩ rfl (st := []) rfl (Nat.le_of_ble_eq_true rfl) [0] [] rfl rfl rfl rfl rfl (by decide) [(r, .inr (3, [.long r_a, .long r_b]))] [0] rfl rfl rfl (0) (0) (Nat.le_of_ble_eq_true rfl) (Nat.le_of_ble_eq_true rfl) ⟨(Nat.le_of_ble_eq_true rfl), (Nat.le_of_ble_eq_true rfl)⟩ dX5_isLimit_8 ?_
    refine J_zeq O (tgt := 18) (pc := 11) dX5_isLimit_11 (by decide) (fun c11 => ?_) (fun c11 => ?_)
    · have hf := jt_f c11 hf
      refine J_iconst O (v := 0) (pc := 18) (by decide) dX5_isLimit_18 ?_
      cases hf
      exact J_zret O (pc := 19) rfl dX5_isLimit_19
    · have hf := jt_t c11 hf
      refine J_iconst O (v := 1) (pc := 14) (by decide) dX5_isLimit_14 ?_
      refine J_goto O (tgt := 19) (pc := 15) dX5_isLimit_15 (by decide) ?_
      cases hf
      exact J_zret O (pc := 19) rfl dX5_isLimit_19
theorem in_X5_isBelow_X5 : ∀ w ∈ u_ws RX5 TX5 2, w ∈ wsX5_isBelow := fun _ h => List.mem_cons_of_mem _ (List.mem_append_right _ h)
theorem mb_X5_isBelow_1 : Cond.fieldLink RX5 9 (TX5 0).1 (TX5 0).2.1 (TX5 0).2.2.1 ∈ wsX5_isBelow := by decide +kernel
theorem mb_X5_isBelow_2 : Cond.fieldLink RX5 15 (TX5 1).1 (TX5 1).2.1 (TX5 1).2.2.1 ∈ wsX5_isBelow := by decide +kernel
abbrev rmX5_isBelow : Room := { frames := 0, cells := 0, slots := 0, locals := 0 }
set_option maxHeartbeats 4000000 in
set_option maxRecDepth 100000 in
theorem c_X5_isBelow (l : Launch) (D : va_G) (cB cI cJ : ClassId) (r s : Nat) (r_a : Int64) (r_b : Int64) (s_a : Int64) (s_b : Int64) {z : Bool} (hf : p_X5_isBelow r_a r_b s_a s_b = some z) : Ci (l, D, cB, cI, cJ) yX5_isBelow wsX5_isBelow rmX5_isBelow [.ref r, .ref s] [(r, .inr (3, [.long r_a, .long r_b])), (s, .inr (3, [.long s_a, .long s_b]))] [(r, .inr (3, [.long r_a, .long r_b])), (s, .inr (3, [.long s_a, .long s_b]))] (bI z) := by
  refine Ci_of (cc := cX5_isBelow) (nL := 2) (own := RX5) (ret := (some .boolean)) (by decide) rfl rfl (Nat.le_of_ble_eq_true rfl) (fun X O hnm0 => ?_)
  rw [p_X5_isBelow] at hf
  show J X 2 (JQi X [(r, .inr (3, [.long r_a, .long r_b])), (s, .inr (3, [.long s_a, .long s_b]))] (bI z) 0 0) [(r, .inr (3, [.long r_a, .long r_b])), (s, .inr (3, [.long s_a, .long s_b]))] 0 0 0 [(0, .ref r), (1, .ref s)] []
  refine J_aload_n O (i := 0) (k0 := 0) (pc := 0) 0 rfl rfl dX5_isBelow_0 ?_
  refine J_get O (pc := 1) in_X5_isBelow_X5 0 rfl rfl 0 (by decide) mb_X5_isBelow_1 rfl dX5_isBelow_1 ?_
  refine J_aload_n O (i := 1) (k0 := 1) (pc := 4) 1 rfl rfl dX5_isBelow_4 ?_
  refine J_get O (pc := 5) in_X5_isBelow_X5 1 rfl rfl 1 (by decide) mb_X5_isBelow_2 rfl dX5_isBelow_5 ?_
  refine J_lmul O (pc := 8) dX5_isBelow_8 ?_
  refine J_aload_n O (i := 1) (k0 := 1) (pc := 9) 1 rfl rfl dX5_isBelow_9 ?_
  refine J_get O (pc := 10) in_X5_isBelow_X5 1 rfl rfl 0 (by decide) mb_X5_isBelow_1 rfl dX5_isBelow_10 ?_
  refine J_aload_n O (i := 0) (k0 := 0) (pc := 13) 0 rfl rfl dX5_isBelow_13 ?_
  refine J_get O (pc := 14) in_X5_isBelow_X5 0 rfl rfl 1 (by decide) mb_X5_isBelow_2 rfl dX5_isBelow_14 ?_
  refine J_lmul O (pc := 17) dX5_isBelow_17 ?_
  refine J_lif_ge O (tgt := 26) (pc := 18) dX5_isBelow_18 dX5_isBelow_19 (by decide) (fun c18 => ?_) (fun c18 => ?_)
  · have hf := jt_t c18 hf
    refine J_iconst O (v := 0) (pc := 26) (by decide) dX5_isBelow_26 ?_
    cases hf
    exact J_zret O (pc := 27) rfl dX5_isBelow_27
  · have hf := jt_f c18 hf
    refine J_iconst O (v := 1) (pc := 22) (by decide) dX5_isBelow_22 ?_
    refine J_goto O (tgt := 27) (pc := 23) dX5_isBelow_23 (by decide) ?_
    cases hf
    exact J_zret O (pc := 27) rfl dX5_isBelow_27
theorem in_X5_times_X5 : ∀ w ∈ u_ws RX5 TX5 2, w ∈ wsX5_times := fun _ h => List.mem_cons_of_mem _ (List.mem_append_right _ h)
theorem mb_X5_times_1 : Cond.classLink RX5 10 RX5 ∈ wsX5_times := by decide +kernel
theorem mb_X5_times_2 : Cond.instantiable RX5 2 ∈ wsX5_times := by decide +kernel
theorem mb_X5_times_3 : Cond.initialized RX5 ∈ wsX5_times := by decide +kernel
theorem fs_X5 : ∀ j, j < 2 → defaultValue (tyX5 j) = vp_V [.long 0, .long 0] j := fun j hj => by rcases (show j = 0 ∨ j = 1 by omega) with rfl | rfl <;> rfl
theorem mb_X5_times_4 : Cond.fieldLink RX5 9 (TX5 0).1 (TX5 0).2.1 (TX5 0).2.2.1 ∈ wsX5_times := by decide +kernel
theorem mb_X5_times_5 : Cond.fieldLink RX5 15 (TX5 1).1 (TX5 1).2.1 (TX5 1).2.2.1 ∈ wsX5_times := by decide +kernel
theorem mb_X5_times_6 : Cond.initialized yX5_init.cls ∈ wsX5_times := by decide +kernel
theorem mb_X5_times_7 : Cond.methodLink RX5 30 yX5_init ∈ wsX5_times := by decide +kernel
theorem mb_X5_times_8 : Cond.instanceMethod yX5_init ∈ wsX5_times := by decide +kernel
theorem hdS_X5_init : yX5_init.cls ≠ "java/lang/invoke/MethodHandle" ∧ yX5_init.cls ≠ "java/lang/invoke/VarHandle" ∧ (parseMethodDescriptor yX5_init.desc).map (fun d => d.parameters.length) = some 2 := by decide +kernel
abbrev rmX5_times : Room := { frames := 2, cells := 1, slots := 2, locals := 44 }
set_option maxHeartbeats 4000000 in
set_option maxRecDepth 100000 in
theorem c_X5_times (l : Launch) (D : va_G) (cB cI cJ : ClassId) (r s : Nat) (r_a : Int64) (r_b : Int64) (s_a : Int64) (s_b : Int64) {z : Int64 × Int64} (hf : p_X5_times r_a r_b s_a s_b = some z) : Cr (l, D, cB, cI, cJ) yX5_times wsX5_times rmX5_times [.ref r, .ref s] [(r, .inr (3, [.long r_a, .long r_b])), (s, .inr (3, [.long s_a, .long s_b]))] (fun a => [(r, .inr (3, [.long r_a, .long r_b])), (s, .inr (3, [.long s_a, .long s_b])), (a, .inr (3, [.long z.1, .long z.2]))]) := by
  refine Cr_of (cc := cX5_times) (nL := 2) (own := RX5) (ret := (some (.object "BlorbRows$Ratio"))) (by decide) rfl rfl (Nat.le_of_ble_eq_true rfl) (fun X O hnm0 => ?_)
  rw [p_X5_times] at hf
  show J X 2 (JQr X (fun a => [(r, .inr (3, [.long r_a, .long r_b])), (s, .inr (3, [.long s_a, .long s_b])), (a, .inr (3, [.long z.1, .long z.2]))]) 1 2) [(r, .inr (3, [.long r_a, .long r_b])), (s, .inr (3, [.long s_a, .long s_b]))] 0 0 0 [(0, .ref r), (1, .ref s)] []
  refine J_new O (pc := 0) in_X5_times_X5 tyX5 tyX5_ok mb_X5_times_1 mb_X5_times_2 mb_X5_times_3 rfl [.long 0, .long 0] fs_X5 (Nat.le_of_ble_eq_true rfl) (Nat.le_of_ble_eq_true rfl) (fun q0 => [(r, .inr (3, [.long r_a, .long r_b])), (s, .inr (3, [.long s_a, .long s_b])), (q0, .inr (3, [.long 0, .long 0]))]) (fun _ => rfl) (1) (2) rfl rfl dX5_times_0 (fun q0 => ?_)
  refine J_dup O (pc := 3) rfl dX5_times_3 ?_
  refine J_aload_n O (i := 0) (k0 := 0) (pc := 4) 0 rfl rfl dX5_times_4 ?_
  refine J_get O (pc := 5) in_X5_times_X5 0 rfl rfl 0 (by decide) mb_X5_times_4 rfl dX5_times_5 ?_
  refine J_aload_n O (i := 1) (k0 := 1) (pc := 8) 1 rfl rfl dX5_times_8 ?_
  refine J_get O (pc := 9) in_X5_times_X5 1 rfl rfl 0 (by decide) mb_X5_times_4 rfl dX5_times_9 ?_
  refine J_lmul O (pc := 12) dX5_times_12 ?_
  refine J_aload_n O (i := 0) (k0 := 0) (pc := 13) 0 rfl rfl dX5_times_13 ?_
  refine J_get O (pc := 14) in_X5_times_X5 0 rfl rfl 1 (by decide) mb_X5_times_5 rfl dX5_times_14 ?_
  refine J_aload_n O (i := 1) (k0 := 1) (pc := 17) 1 rfl rfl dX5_times_17 ?_
  refine J_get O (pc := 18) in_X5_times_X5 1 rfl rfl 1 (by decide) mb_X5_times_5 rfl dX5_times_18 ?_
  refine J_lmul O (pc := 21) dX5_times_21 ?_
  obtain ⟨z22, h22, hf⟩ := jt_b hf
  refine J_callIv O (pc := 22) (ret' := none) (c_X5_init l D cB cI cJ q0 (r_a * s_a) (r_b * s_b) h22) rfl gX5_times_X5_init mb_X5_times_6 mb_X5_times_7 mb_X5_times_8 rfl hdS_X5_init ⟨(Nat.le_of_ble_eq_true rfl), (Nat.le_of_ble_eq_true rfl)⟩ rfl (st := [.ref q0]) rfl (Nat.le_of_ble_eq_true rfl) [2] [0, 1] rfl rfl rfl rfl rfl (by decide) [(r, .inr (3, [.long r_a, .long r_b])), (s, .inr (3, [.long s_a, .long s_b])), (q0, .inr (3, [.long z22.1, .long z22.2]))] [0, 1, 2] rfl rfl rfl (1) (2) (Nat.le_of_ble_eq_true rfl) (Nat.le_of_ble_eq_true rfl) ⟨(Nat.le_of_ble_eq_true rfl), (Nat.le_of_ble_eq_true rfl)⟩ dX5_times_22 ?_
  cases hf
  exact J_aret O (pc := 25) _ rfl dX5_times_25
theorem in_X5_of_X5 : ∀ w ∈ u_ws RX5 TX5 2, w ∈ wsX5_of := fun _ h => List.mem_cons_of_mem _ (List.mem_append_right _ h)
theorem mb_X5_of_1 : Cond.fieldLink RX5 15 (TX5 1).1 (TX5 1).2.1 (TX5 1).2.2.1 ∈ wsX5_of := by decide +kernel
theorem mb_X5_of_2 : Cond.constantLong RX5 33 (-2) ∈ wsX5_of := by decide +kernel
theorem mb_X5_of_3 : Cond.fieldLink RX5 9 (TX5 0).1 (TX5 0).2.1 (TX5 0).2.2.1 ∈ wsX5_of := by decide +kernel
abbrev rmX5_of : Room := { frames := 0, cells := 0, slots := 0, locals := 0 }
set_option maxHeartbeats 4000000 in
set_option maxRecDepth 100000 in
theorem c_X5_of (l : Launch) (D : va_G) (cB cI cJ : ClassId) (r : Nat) (r_a : Int64) (r_b : Int64) (a1 : Int64) {z : Int64} (hf : p_X5_of r_a r_b a1 = some z) : Cl (l, D, cB, cI, cJ) yX5_of wsX5_of rmX5_of [.ref r, .long a1] [(r, .inr (3, [.long r_a, .long r_b]))] [(r, .inr (3, [.long r_a, .long r_b]))] z := by
  refine Cl_of (cc := cX5_of) (nL := 3) (own := RX5) (ret := (some .long)) (by decide) rfl rfl (Nat.le_of_ble_eq_true rfl) (fun X O hnm0 => ?_)
  rw [p_X5_of] at hf
  show J X 3 (JQl X [(r, .inr (3, [.long r_a, .long r_b]))] z 0 0) [(r, .inr (3, [.long r_a, .long r_b]))] 0 0 0 [(0, .ref r), (1, .long a1)] []
  refine J_aload_n O (i := 0) (k0 := 0) (pc := 0) 0 rfl rfl dX5_of_0 ?_
  refine J_get O (pc := 1) in_X5_of_X5 0 rfl rfl 1 (by decide) mb_X5_of_1 rfl dX5_of_1 ?_
  refine J_lconst O (v := 0) (pc := 4) (by decide) dX5_of_4 ?_
  refine J_lif_le O (tgt := 23) (pc := 5) dX5_of_5 dX5_of_6 (by decide) (fun c5 => ?_) (fun c5 => ?_)
  · have hf := jt_t c5 hf
    refine J_ldc2 O (pc := 23) mb_X5_of_2 dX5_of_23 ?_
    cases hf
    exact J_lret O (pc := 26) rfl dX5_of_26
  · have hf := jt_f c5 hf
    refine J_lload_n O (i := 1) (k0 := 1) (pc := 9) 1 rfl rfl dX5_of_9 ?_
    refine J_aload_n O (i := 0) (k0 := 0) (pc := 10) 0 rfl rfl dX5_of_10 ?_
    refine J_get O (pc := 11) in_X5_of_X5 0 rfl rfl 0 (by decide) mb_X5_of_3 rfl dX5_of_11 ?_
    refine J_lmul O (pc := 14) dX5_of_14 ?_
    refine J_aload_n O (i := 0) (k0 := 0) (pc := 15) 0 rfl rfl dX5_of_15 ?_
    refine J_get O (pc := 16) in_X5_of_X5 0 rfl rfl 1 (by decide) mb_X5_of_1 rfl dX5_of_16 ?_
    obtain ⟨h19, hf⟩ := jt_g hf
    refine J_ldiv O (pc := 19) h19 dX5_of_19 ?_
    refine J_goto O (tgt := 26) (pc := 20) dX5_of_20 (by decide) ?_
    cases hf
    exact J_lret O (pc := 26) rfl dX5_of_26
abbrev rmX2_isLetter : Room := { frames := 0, cells := 0, slots := 0, locals := 0 }
set_option maxHeartbeats 4000000 in
set_option maxRecDepth 100000 in
theorem c_X2_isLetter (l : Launch) (D : va_G) (cB cI cJ : ClassId)  (a0 : Int32) {z : Bool} (hf : p_X2_isLetter a0 = some z) : Ci (l, D, cB, cI, cJ) yX2_isLetter wsX2_isLetter rmX2_isLetter [.int a0] [] [] (bI z) := by
  refine Ci_of (cc := cX2_isLetter) (nL := 1) (own := RX2) (ret := (some .boolean)) (by decide) rfl rfl (Nat.le_of_ble_eq_true rfl) (fun X O hnm0 => ?_)
  rw [p_X2_isLetter] at hf
  show J X 1 (JQi X [] (bI z) 0 0) [] 0 0 0 [(0, .int a0)] []
  refine J_iload_n O (i := 0) (k0 := 0) (pc := 0) 0 rfl rfl dX2_isLetter_0 ?_
  refine J_bipush O (v := 32) (pc := 1) (by decide) dX2_isLetter_1 ?_
  refine J_icmp_lt O (tgt := 16) (pc := 3) dX2_isLetter_3 (by decide) (fun c3 => ?_) (fun c3 => ?_)
  · have hf := jt_t c3 hf
    refine J_iconst O (v := 0) (pc := 16) (by decide) dX2_isLetter_16 ?_
    cases hf
    exact J_zret O (pc := 17) rfl dX2_isLetter_17
  · have hf := jt_f c3 hf
    refine J_iload_n O (i := 0) (k0 := 0) (pc := 6) 0 rfl rfl dX2_isLetter_6 ?_
    refine J_bipush O (v := 126) (pc := 7) (by decide) dX2_isLetter_7 ?_
    refine J_icmp_gt O (tgt := 16) (pc := 9) dX2_isLetter_9 (by decide) (fun c9 => ?_) (fun c9 => ?_)
    · have hf := jt_t c9 hf
      refine J_iconst O (v := 0) (pc := 16) (by decide) dX2_isLetter_16 ?_
      cases hf
      exact J_zret O (pc := 17) rfl dX2_isLetter_17
    · have hf := jt_f c9 hf
      refine J_iconst O (v := 1) (pc := 12) (by decide) dX2_isLetter_12 ?_
      refine J_goto O (tgt := 17) (pc := 13) dX2_isLetter_13 (by decide) ?_
      cases hf
      exact J_zret O (pc := 17) rfl dX2_isLetter_17
