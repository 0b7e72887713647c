theorem mb_X9_isNumber_0 : Cond.constantLong RX9 234 4294967295 ∈ wsX9_isNumber := by decide +kernel
abbrev rmX9_isNumber : Room := { frames := 0, cells := 0, slots := 0, locals := 0 }
set_option maxHeartbeats 4000000 in
set_option maxRecDepth 100000 in
theorem c_X9_isNumber (l : Launch) (D : va_G) (cB cI cJ : ClassId)  (a0 : Int64) {z : Bool} (hf : p_X9_isNumber a0 = some z) : Ci (l, D, cB, cI, cJ) yX9_isNumber wsX9_isNumber rmX9_isNumber [.long a0] [] [] (bI z) := by
  refine Ci_of (cc := cX9_isNumber) (nL := 2) (own := RX9) (ret := (some .boolean)) (by decide) rfl rfl (Nat.le_of_ble_eq_true rfl) (fun X O hnm0 => ?_)
  rw [p_X9_isNumber] at hf
  show J X 2 (JQi X [] (bI z) 0 0) [] 0 0 0 [(0, .long a0)] []
  refine J_lload_n O (i := 0) (k0 := 0) (pc := 0) 0 rfl rfl dX9_isNumber_0 ?_
  refine J_lconst O (v := 0) (pc := 1) (by decide) dX9_isNumber_1 ?_
  refine J_lif_lt O (tgt := 18) (pc := 2) dX9_isNumber_2 dX9_isNumber_3 (by decide) (fun c2 => ?_) (fun c2 => ?_)
  · have hf := jt_t c2 hf
    refine J_iconst O (v := 0) (pc := 18) (by decide) dX9_isNumber_18 ?_
    have e9 := Option.some.inj hf
    subst e9
    exact J_zret O (pc := 19) rfl dX9_isNumber_19
  · have hf := jt_f c2 hf
    refine J_lload_n O (i := 0) (k0 := 0) (pc := 6) 0 rfl rfl dX9_isNumber_6 ?_
    refine J_ldc2 O (pc := 7) mb_X9_isNumber_0 dX9_isNumber_7 ?_
    refine J_lif_gt O (tgt := 18) (pc := 10) dX9_isNumber_10 dX9_isNumber_11 (by decide) (fun c10 => ?_) (fun c10 => ?_)
    · have hf := jt_t c10 hf
      refine J_iconst O (v := 0) (pc := 18) (by decide) dX9_isNumber_18 ?_
      have e9 := Option.some.inj hf
      subst e9
      exact J_zret O (pc := 19) rfl dX9_isNumber_19
    · have hf := jt_f c10 hf
      refine J_iconst O (v := 1) (pc := 14) (by decide) dX9_isNumber_14 ?_
      refine J_goto O (tgt := 19) (pc := 15) dX9_isNumber_15 (by decide) ?_
      have e9 := Option.some.inj hf
      subst e9
      exact J_zret O (pc := 19) rfl dX9_isNumber_19
theorem hdS_X9_isNumber : yX9_isNumber.cls ≠ "java/lang/invoke/MethodHandle" ∧ yX9_isNumber.cls ≠ "java/lang/invoke/VarHandle" ∧ (parseMethodDescriptor yX9_isNumber.desc).map (fun d => d.parameters.length) = some 1 := by decide +kernel
abbrev rmX9_isName : Room := { frames := 1, cells := 0, slots := 0, locals := 21 }
set_option maxHeartbeats 4000000 in
set_option maxRecDepth 100000 in
theorem c_X9_isName (l : Launch) (D : va_G) (cB cI cJ : ClassId)  (a0 : Int32) (a1 : Int64) {z : Bool} (hf : p_X9_isName a0 a1 = some z) : Ci (l, D, cB, cI, cJ) yX9_isName wsX9_isName rmX9_isName [.int a0, .long a1] [] [] (bI z) := by
  refine Ci_of (cc := cX9_isName) (nL := 3) (own := RX9) (ret := (some .boolean)) (by decide) rfl rfl (Nat.le_of_ble_eq_true rfl) (fun X O hnm0 => ?_)
  rw [p_X9_isName] at hf
  show J X 3 (JQi X [] (bI z) 0 0) [] 0 0 0 [(0, .int a0), (1, .long a1)] []
  refine J_iload_n O (i := 0) (k0 := 0) (pc := 0) 0 rfl rfl dX9_isName_0 ?_
  obtain ⟨z1, h1, hf⟩ := jt_b hf
  refine J_callSi O (pc := 1) (c_X2_isUse l D cB cI cJ a0 h1) rfl gX9_isName_X2_isUse hdS_X2_isUse ⟨(Nat.le_of_ble_eq_true rfl), (Nat.le_of_ble_eq_true rfl)⟩ rfl (st := []) rfl (Nat.le_of_ble_eq_true rfl) [] [] rfl rfl rfl rfl rfl (by decide) [] [] rfl rfl rfl (0) (0) (Nat.le_of_ble_eq_true rfl) (Nat.le_of_ble_eq_true rfl) ⟨(Nat.le_of_ble_eq_true rfl), (Nat.le_of_ble_eq_true rfl)⟩ dX9_isName_1 ?_
  refine J_zeq O (tgt := 18) (pc := 4) dX9_isName_4 (by decide) (fun c4 => ?_) (fun c4 => ?_)
  · have hf := jt_f c4 hf
    refine J_iconst O (v := 0) (pc := 18) (by decide) dX9_isName_18 ?_
    have e9 := Option.some.inj hf
    subst e9
    exact J_zret O (pc := 19) rfl dX9_isName_19
  · have hf := jt_t c4 hf
    refine J_lload_n O (i := 1) (k0 := 1) (pc := 7) 1 rfl rfl dX9_isName_7 ?_
    obtain ⟨z8, h8, hf⟩ := jt_b hf
    refine J_callSi O (pc := 8) (c_X9_isNumber l D cB cI cJ a1 h8) rfl gX9_isName_X9_isNumber hdS_X9_isNumber ⟨(Nat.le_of_ble_eq_true rfl), (Nat.le_of_ble_eq_true rfl)⟩ rfl (st := []) rfl (Nat.le_of_ble_eq_true rfl) [] [] rfl rfl rfl rfl rfl (by decide) [] [] rfl rfl rfl (0) (0) (Nat.le_of_ble_eq_true rfl) (Nat.le_of_ble_eq_true rfl) ⟨(Nat.le_of_ble_eq_true rfl), (Nat.le_of_ble_eq_true rfl)⟩ dX9_isName_8 ?_
    refine J_zeq O (tgt := 18) (pc := 11) dX9_isName_11 (by decide) (fun c11 => ?_) (fun c11 => ?_)
    · have hf := jt_f c11 hf
      refine J_iconst O (v := 0) (pc := 18) (by decide) dX9_isName_18 ?_
      have e9 := Option.some.inj hf
      subst e9
      exact J_zret O (pc := 19) rfl dX9_isName_19
    · have hf := jt_t c11 hf
      refine J_iconst O (v := 1) (pc := 14) (by decide) dX9_isName_14 ?_
      refine J_goto O (tgt := 19) (pc := 15) dX9_isName_15 (by decide) ?_
      have e9 := Option.some.inj hf
      subst e9
      exact J_zret O (pc := 19) rfl dX9_isName_19
abbrev rmX9_isAxis : Room := { frames := 0, cells := 0, slots := 0, locals := 0 }
set_option maxHeartbeats 4000000 in
set_option maxRecDepth 100000 in
theorem c_X9_isAxis (l : Launch) (D : va_G) (cB cI cJ : ClassId)  (a0 : Int32) {z : Bool} (hf : p_X9_isAxis a0 = some z) : Ci (l, D, cB, cI, cJ) yX9_isAxis wsX9_isAxis rmX9_isAxis [.int a0] [] [] (bI z) := by
  refine Ci_of (cc := cX9_isAxis) (nL := 1) (own := RX9) (ret := (some .boolean)) (by decide) rfl rfl (Nat.le_of_ble_eq_true rfl) (fun X O hnm0 => ?_)
  rw [p_X9_isAxis] at hf
  show J X 1 (JQi X [] (bI z) 0 0) [] 0 0 0 [(0, .int a0)] []
  refine J_iload_n O (i := 0) (k0 := 0) (pc := 0) 0 rfl rfl dX9_isAxis_0 ?_
  refine J_if_eq O (tgt := 9) (pc := 1) dX9_isAxis_1 (by decide) (fun c1 => ?_) (fun c1 => ?_)
  · have hf := jt_t c1 hf
    refine J_iconst O (v := 1) (pc := 9) (by decide) dX9_isAxis_9 ?_
    refine J_goto O (tgt := 14) (pc := 10) dX9_isAxis_10 (by decide) ?_
    have e9 := Option.some.inj hf
    subst e9
    exact J_zret O (pc := 14) rfl dX9_isAxis_14
  · have hf := jt_f c1 hf
    refine J_iload_n O (i := 0) (k0 := 0) (pc := 4) 0 rfl rfl dX9_isAxis_4 ?_
    refine J_iconst O (v := 1) (pc := 5) (by decide) dX9_isAxis_5 ?_
    refine J_icmp_ne O (tgt := 13) (pc := 6) dX9_isAxis_6 (by decide) (fun c6 => ?_) (fun c6 => ?_)
    · have hf := jt_f c6 hf
      refine J_iconst O (v := 0) (pc := 13) (by decide) dX9_isAxis_13 ?_
      have e9 := Option.some.inj hf
      subst e9
      exact J_zret O (pc := 14) rfl dX9_isAxis_14
    · have hf := jt_t c6 hf
      refine J_iconst O (v := 1) (pc := 9) (by decide) dX9_isAxis_9 ?_
      refine J_goto O (tgt := 14) (pc := 10) dX9_isAxis_10 (by decide) ?_
      have e9 := Option.some.inj hf
      subst e9
      exact J_zret O (pc := 14) rfl dX9_isAxis_14
theorem mb_X9_isSide_0 : Cond.constantLong RX9 186 65535 ∈ wsX9_isSide := by decide +kernel
abbrev rmX9_isSide : Room := { frames := 0, cells := 0, slots := 0, locals := 0 }
set_option maxHeartbeats 4000000 in
set_option maxRecDepth 100000 in
theorem c_X9_isSide (l : Launch) (D : va_G) (cB cI cJ : ClassId)  (a0 : Int64) {z : Bool} (hf : p_X9_isSide a0 = some z) : Ci (l, D, cB, cI, cJ) yX9_isSide wsX9_isSide rmX9_isSide [.long a0] [] [] (bI z) := by
  refine Ci_of (cc := cX9_isSide) (nL := 2) (own := RX9) (ret := (some .boolean)) (by decide) rfl rfl (Nat.le_of_ble_eq_true rfl) (fun X O hnm0 => ?_)
  rw [p_X9_isSide] at hf
  show J X 2 (JQi X [] (bI z) 0 0) [] 0 0 0 [(0, .long a0)] []
  refine J_lload_n O (i := 0) (k0 := 0) (pc := 0) 0 rfl rfl dX9_isSide_0 ?_
  refine J_lconst O (v := 1) (pc := 1) (by decide) dX9_isSide_1 ?_
  refine J_lif_lt O (tgt := 18) (pc := 2) dX9_isSide_2 dX9_isSide_3 (by decide) (fun c2 => ?_) (fun c2 => ?_)
  · have hf := jt_t c2 hf
    refine J_iconst O (v := 0) (pc := 18) (by decide) dX9_isSide_18 ?_
    have e9 := Option.some.inj hf
    subst e9
    exact J_zret O (pc := 19) rfl dX9_isSide_19
  · have hf := jt_f c2 hf
    refine J_lload_n O (i := 0) (k0 := 0) (pc := 6) 0 rfl rfl dX9_isSide_6 ?_
    refine J_ldc2 O (pc := 7) mb_X9_isSide_0 dX9_isSide_7 ?_
    refine J_lif_gt O (tgt := 18) (pc := 10) dX9_isSide_10 dX9_isSide_11 (by decide) (fun c10 => ?_) (fun c10 => ?_)
    · have hf := jt_t c10 hf
      refine J_iconst O (v := 0) (pc := 18) (by decide) dX9_isSide_18 ?_
      have e9 := Option.some.inj hf
      subst e9
      exact J_zret O (pc := 19) rfl dX9_isSide_19
    · have hf := jt_f c10 hf
      refine J_iconst O (v := 1) (pc := 14) (by decide) dX9_isSide_14 ?_
      refine J_goto O (tgt := 19) (pc := 15) dX9_isSide_15 (by decide) ?_
      have e9 := Option.some.inj hf
      subst e9
      exact J_zret O (pc := 19) rfl dX9_isSide_19
theorem in_X9_feed_X9 : ∀ w ∈ u_ws RX9 TX9 5, w ∈ wsX9_feed := fun _ h => List.mem_cons_of_mem _ (List.mem_append_left _ (List.mem_append_right _ h))
theorem mb_X9_feed_1 : Cond.fieldLink RX9 14 (TX9 0).1 (TX9 0).2.1 (TX9 0).2.2.1 ∈ wsX9_feed := by decide +kernel
theorem in_X9_feed_X6 : ∀ w ∈ u_ws RX6 TX6 2, w ∈ wsX9_feed := fun _ h => List.mem_cons_of_mem _ (List.mem_append_right _ h)
theorem mb_X9_feed_3 : Cond.fieldLink RX9 47 (TX6 1).1 (TX6 1).2.1 (TX6 1).2.2.1 ∈ wsX9_feed := by decide +kernel
abbrev rmX9_feed : Room := { frames := 2, cells := 0, slots := 0, locals := 44 }
set_option maxHeartbeats 4000000 in
set_option maxRecDepth 100000 in
theorem c_X9_feed (l : Launch) (D : va_G) (cB cI cJ : ClassId) (x t tb o ob h d db hk hs hu hn hg j jp : Nat) (x_p : Int32) (t_l : Int32) (t_f : Nat → Int8) (o_l : Int32) (o_f : Nat → Int8) (h_c : Int32) (h_e : Int32) (d_l : Int32) (d_f : Nat → Int8) (h_k : Nat → Int32) (h_s : Nat → Int32) (h_u : Nat → Int32) (h_n : Nat → Int64) (h_g : Nat → Int32) (j_c : Int32) (j_a : Int32) (j_p : Nat → Int32) (a1 : Int32) (a2 : Int64) (fu : Nat) {z : Int32 × Int32 × (Nat → Int8)} (hf : p_X9_feed fu t_l t_f a1 a2 = some z) : Ci (l, D, cB, cI, cJ) yX9_feed wsX9_feed rmX9_feed [.ref x, .int a1, .long a2] [(x, .inr (5, [.ref t, .ref o, .ref h, .ref j, .int x_p])), (t, .inr (4, [.ref tb, .int t_l])), (tb, .inl (cB, 6000, .inl (b8 t_f))), (o, .inr (4, [.ref ob, .int o_l])), (ob, .inl (cB, 13044, .inl (b8 o_f))), (h, .inr (0, [.ref d, .ref hk, .ref hs, .int h_c, .ref hu, .ref hn, .ref hg, .int h_e])), (d, .inr (4, [.ref db, .int d_l])), (db, .inl (cB, 12000, .inl (b8 d_f))), (hk, .inl (cI, 60, .inl h_k)), (hs, .inl (cI, 61, .inl h_s)), (hu, .inl (cI, 40, .inl h_u)), (hn, .inl (cJ, 40, .inr (.inl h_n))), (hg, .inl (cI, 40, .inl h_g)), (j, .inr (1, [.ref jp, .int j_c, .int j_a])), (jp, .inl (cI, 60, .inl j_p))] [(x, .inr (5, [.ref t, .ref o, .ref h, .ref j, .int x_p])), (t, .inr (4, [.ref tb, .int z.2.1])), (tb, .inl (cB, 6000, .inl (b8 z.2.2))), (o, .inr (4, [.ref ob, .int o_l])), (ob, .inl (cB, 13044, .inl (b8 o_f))), (h, .inr (0, [.ref d, .ref hk, .ref hs, .int h_c, .ref hu, .ref hn, .ref hg, .int h_e])), (d, .inr (4, [.ref db, .int d_l])), (db, .inl (cB, 12000, .inl (b8 d_f))), (hk, .inl (cI, 60, .inl h_k)), (hs, .inl (cI, 61, .inl h_s)), (hu, .inl (cI, 40, .inl h_u)), (hn, .inl (cJ, 40, .inr (.inl h_n))), (hg, .inl (cI, 40, .inl h_g)), (j, .inr (1, [.ref jp, .int j_c, .int j_a])), (jp, .inl (cI, 60, .inl j_p))] z.1 := by
  refine Ci_of (cc := cX9_feed) (nL := 4) (own := RX9) (ret := (some .int)) (by decide) rfl rfl (Nat.le_of_ble_eq_true rfl) (fun X O hnm0 => ?_)
  rw [p_X9_feed] at hf
  show J X 4 (JQi X [(x, .inr (5, [.ref t, .ref o, .ref h, .ref j, .int x_p])), (t, .inr (4, [.ref tb, .int z.2.1])), (tb, .inl (cB, 6000, .inl (b8 z.2.2))), (o, .inr (4, [.ref ob, .int o_l])), (ob, .inl (cB, 13044, .inl (b8 o_f))), (h, .inr (0, [.ref d, .ref hk, .ref hs, .int h_c, .ref hu, .ref hn, .ref hg, .int h_e])), (d, .inr (4, [.ref db, .int d_l])), (db, .inl (cB, 12000, .inl (b8 d_f))), (hk, .inl (cI, 60, .inl h_k)), (hs, .inl (cI, 61, .inl h_s)), (hu, .inl (cI, 40, .inl h_u)), (hn, .inl (cJ, 40, .inr (.inl h_n))), (hg, .inl (cI, 40, .inl h_g)), (j, .inr (1, [.ref jp, .int j_c, .int j_a])), (jp, .inl (cI, 60, .inl j_p))] z.1 0 0) [(x, .inr (5, [.ref t, .ref o, .ref h, .ref j, .int x_p])), (t, .inr (4, [.ref tb, .int t_l])), (tb, .inl (cB, 6000, .inl (b8 t_f))), (o, .inr (4, [.ref ob, .int o_l])), (ob, .inl (cB, 13044, .inl (b8 o_f))), (h, .inr (0, [.ref d, .ref hk, .ref hs, .int h_c, .ref hu, .ref hn, .ref hg, .int h_e])), (d, .inr (4, [.ref db, .int d_l])), (db, .inl (cB, 12000, .inl (b8 d_f))), (hk, .inl (cI, 60, .inl h_k)), (hs, .inl (cI, 61, .inl h_s)), (hu, .inl (cI, 40, .inl h_u)), (hn, .inl (cJ, 40, .inr (.inl h_n))), (hg, .inl (cI, 40, .inl h_g)), (j, .inr (1, [.ref jp, .int j_c, .int j_a])), (jp, .inl (cI, 60, .inl j_p))] 0 0 0 [(0, .ref x), (1, .int a1), (2, .long a2)] []
  refine J_iload_n O (i := 1) (k0 := 1) (pc := 0) 1 rfl rfl dX9_feed_0 ?_
  refine J_iconst O (v := 1) (pc := 1) (by decide) dX9_feed_1 ?_
  refine J_icmp_lt O (tgt := 11) (pc := 2) dX9_feed_2 (by decide) (fun c2 => ?_) (fun c2 => ?_)
  · have hf := jt_t c2 hf
    refine J_iconst O (v := (-1)) (pc := 11) (by decide) dX9_feed_11 ?_
    have e9 := Option.some.inj hf
    subst e9
    exact J_iret O (pc := 12) rfl dX9_feed_12
  · have hf := jt_f c2 hf
    refine J_iload_n O (i := 1) (k0 := 1) (pc := 5) 1 rfl rfl dX9_feed_5 ?_
    refine J_bipush O (v := 8) (pc := 6) (by decide) dX9_feed_6 ?_
    refine J_icmp_le O (tgt := 13) (pc := 8) dX9_feed_8 (by decide) (fun c8 => ?_) (fun c8 => ?_)
    · have hf := jt_t c8 hf
      refine J_iload_n O (i := 1) (k0 := 1) (pc := 13) 1 rfl rfl dX9_feed_13 ?_
      refine J_aload_n O (i := 0) (k0 := 0) (pc := 14) 0 rfl rfl dX9_feed_14 ?_
      refine J_get O (pc := 15) in_X9_feed_X9 0 rfl rfl 0 (by decide) mb_X9_feed_1 rfl dX9_feed_15 ?_
      obtain ⟨z18, h18, hf⟩ := jt_b hf
      refine J_callVi O (pc := 18) (c_X6_room l D cB cI cJ t tb 6000 t_l t_f h18) rfl 0 rfl rfl gX9_feed_X6_room hdV_X6_room ⟨(Nat.le_of_ble_eq_true rfl), (Nat.le_of_ble_eq_true rfl)⟩ rfl (st := [.int a1]) rfl (Nat.le_of_ble_eq_true rfl) [1, 2] [0, 3, 4, 5, 6, 7, 8, 9, 10, 11, 12, 13, 14] rfl rfl rfl rfl rfl (by decide) [(x, .inr (5, [.ref t, .ref o, .ref h, .ref j, .int x_p])), (t, .inr (4, [.ref tb, .int t_l])), (tb, .inl (cB, 6000, .inl (b8 t_f))), (o, .inr (4, [.ref ob, .int o_l])), (ob, .inl (cB, 13044, .inl (b8 o_f))), (h, .inr (0, [.ref d, .ref hk, .ref hs, .int h_c, .ref hu, .ref hn, .ref hg, .int h_e])), (d, .inr (4, [.ref db, .int d_l])), (db, .inl (cB, 12000, .inl (b8 d_f))), (hk, .inl (cI, 60, .inl h_k)), (hs, .inl (cI, 61, .inl h_s)), (hu, .inl (cI, 40, .inl h_u)), (hn, .inl (cJ, 40, .inr (.inl h_n))), (hg, .inl (cI, 40, .inl h_g)), (j, .inr (1, [.ref jp, .int j_c, .int j_a])), (jp, .inl (cI, 60, .inl j_p))] [0, 13, 14, 1, 2, 3, 4, 5, 6, 7, 8, 9, 10, 11, 12] rfl rfl rfl (0) (0) (Nat.le_of_ble_eq_true rfl) (Nat.le_of_ble_eq_true rfl) ⟨(Nat.le_of_ble_eq_true rfl), (Nat.le_of_ble_eq_true rfl)⟩ dX9_feed_18 ?_
      refine J_icmp_le O (tgt := 27) (pc := 21) dX9_feed_21 (by decide) (fun c21 => ?_) (fun c21 => ?_)
      · have hf := jt_t c21 hf
        refine J_aload_n O (i := 0) (k0 := 0) (pc := 27) 0 rfl rfl dX9_feed_27 ?_
        refine J_get O (pc := 28) in_X9_feed_X9 0 rfl rfl 0 (by decide) mb_X9_feed_1 rfl dX9_feed_28 ?_
        refine J_iload_n O (i := 1) (k0 := 1) (pc := 31) 1 rfl rfl dX9_feed_31 ?_
        refine J_lload_n O (i := 2) (k0 := 2) (pc := 32) 2 rfl rfl dX9_feed_32 ?_
        obtain ⟨z33, h33, hf⟩ := jt_b hf
        refine J_callVv O (pc := 33) (c_X6_append l D cB cI cJ t tb 6000 t_l t_f a1 a2 fu h33) rfl 0 rfl rfl gX9_feed_X6_append hdV_X6_append ⟨(Nat.le_of_ble_eq_true rfl), (Nat.le_of_ble_eq_true rfl)⟩ rfl (st := []) rfl (Nat.le_of_ble_eq_true rfl) [1, 2] [0, 3, 4, 5, 6, 7, 8, 9, 10, 11, 12, 13, 14] rfl rfl rfl rfl rfl (by decide) [(x, .inr (5, [.ref t, .ref o, .ref h, .ref j, .int x_p])), (t, .inr (4, [.ref tb, .int z33.1])), (tb, .inl (cB, 6000, .inl (b8 z33.2))), (o, .inr (4, [.ref ob, .int o_l])), (ob, .inl (cB, 13044, .inl (b8 o_f))), (h, .inr (0, [.ref d, .ref hk, .ref hs, .int h_c, .ref hu, .ref hn, .ref hg, .int h_e])), (d, .inr (4, [.ref db, .int d_l])), (db, .inl (cB, 12000, .inl (b8 d_f))), (hk, .inl (cI, 60, .inl h_k)), (hs, .inl (cI, 61, .inl h_s)), (hu, .inl (cI, 40, .inl h_u)), (hn, .inl (cJ, 40, .inr (.inl h_n))), (hg, .inl (cI, 40, .inl h_g)), (j, .inr (1, [.ref jp, .int j_c, .int j_a])), (jp, .inl (cI, 60, .inl j_p))] [0, 13, 14, 1, 2, 3, 4, 5, 6, 7, 8, 9, 10, 11, 12] rfl rfl rfl (0) (0) (Nat.le_of_ble_eq_true rfl) (Nat.le_of_ble_eq_true rfl) ⟨(Nat.le_of_ble_eq_true rfl), (Nat.le_of_ble_eq_true rfl)⟩ dX9_feed_33 ?_
        refine J_aload_n O (i := 0) (k0 := 0) (pc := 36) 0 rfl rfl dX9_feed_36 ?_
        refine J_get O (pc := 37) in_X9_feed_X9 0 rfl rfl 0 (by decide) mb_X9_feed_1 rfl dX9_feed_37 ?_
        refine J_get O (pc := 40) in_X9_feed_X6 1 rfl rfl 1 (by decide) mb_X9_feed_3 rfl dX9_feed_40 ?_
        have e9 := Option.some.inj hf
        subst e9
        exact J_iret O (pc := 43) rfl dX9_feed_43
      · have hf := jt_f c21 hf
        refine J_bipush O (v := (-4)) (pc := 24) (by decide) dX9_feed_24 ?_
        have e9 := Option.some.inj hf
        subst e9
        exact J_iret O (pc := 26) rfl dX9_feed_26
    · have hf := jt_f c8 hf
      refine J_iconst O (v := (-1)) (pc := 11) (by decide) dX9_feed_11 ?_
      have e9 := Option.some.inj hf
      subst e9
      exact J_iret O (pc := 12) rfl dX9_feed_12
theorem in_X9_cut_X9 : ∀ w ∈ u_ws RX9 TX9 5, w ∈ wsX9_cut := fun _ h => List.mem_cons_of_mem _ (List.mem_append_left _ (List.mem_append_right _ h))
theorem mb_X9_cut_1 : Cond.fieldLink RX9 14 (TX9 0).1 (TX9 0).2.1 (TX9 0).2.2.1 ∈ wsX9_cut := by decide +kernel
theorem in_X9_cut_X6 : ∀ w ∈ u_ws RX6 TX6 2, w ∈ wsX9_cut := fun _ h => List.mem_cons_of_mem _ (List.mem_append_right _ h)
theorem mb_X9_cut_3 : Cond.fieldLink RX9 47 (TX6 1).1 (TX6 1).2.1 (TX6 1).2.2.1 ∈ wsX9_cut := by decide +kernel
abbrev rmX9_cut : Room := { frames := 1, cells := 0, slots := 0, locals := 21 }
set_option maxHeartbeats 4000000 in
set_option maxRecDepth 100000 in
theorem c_X9_cut (l : Launch) (D : va_G) (cB cI cJ : ClassId) (x t tb o ob h d db hk hs hu hn hg j jp : Nat) (x_p : Int32) (t_l : Int32) (t_f : Nat → Int8) (o_l : Int32) (o_f : Nat → Int8) (h_c : Int32) (h_e : Int32) (d_l : Int32) (d_f : Nat → Int8) (h_k : Nat → Int32) (h_s : Nat → Int32) (h_u : Nat → Int32) (h_n : Nat → Int64) (h_g : Nat → Int32) (j_c : Int32) (j_a : Int32) (j_p : Nat → Int32) (a1 : Int32) {z : Int32 × Int32} (hf : p_X9_cut t_l a1 = some z) : Ci (l, D, cB, cI, cJ) yX9_cut wsX9_cut rmX9_cut [.ref x, .int a1] [(x, .inr (5, [.ref t, .ref o, .ref h, .ref j, .int x_p])), (t, .inr (4, [.ref tb, .int t_l])), (tb, .inl (cB, 6000, .inl (b8 t_f))), (o, .inr (4, [.ref ob, .int o_l])), (ob, .inl (cB, 13044, .inl (b8 o_f))), (h, .inr (0, [.ref d, .ref hk, .ref hs, .int h_c, .ref hu, .ref hn, .ref hg, .int h_e])), (d, .inr (4, [.ref db, .int d_l])), (db, .inl (cB, 12000, .inl (b8 d_f))), (hk, .inl (cI, 60, .inl h_k)), (hs, .inl (cI, 61, .inl h_s)), (hu, .inl (cI, 40, .inl h_u)), (hn, .inl (cJ, 40, .inr (.inl h_n))), (hg, .inl (cI, 40, .inl h_g)), (j, .inr (1, [.ref jp, .int j_c, .int j_a])), (jp, .inl (cI, 60, .inl j_p))] [(x, .inr (5, [.ref t, .ref o, .ref h, .ref j, .int x_p])), (t, .inr (4, [.ref tb, .int z.2])), (tb, .inl (cB, 6000, .inl (b8 t_f))), (o, .inr (4, [.ref ob, .int o_l])), (ob, .inl (cB, 13044, .inl (b8 o_f))), (h, .inr (0, [.ref d, .ref hk, .ref hs, .int h_c, .ref hu, .ref hn, .ref hg, .int h_e])), (d, .inr (4, [.ref db, .int d_l])), (db, .inl (cB, 12000, .inl (b8 d_f))), (hk, .inl (cI, 60, .inl h_k)), (hs, .inl (cI, 61, .inl h_s)), (hu, .inl (cI, 40, .inl h_u)), (hn, .inl (cJ, 40, .inr (.inl h_n))), (hg, .inl (cI, 40, .inl h_g)), (j, .inr (1, [.ref jp, .int j_c, .int j_a])), (jp, .inl (cI, 60, .inl j_p))] z.1 := by
  refine Ci_of (cc := cX9_cut) (nL := 3) (own := RX9) (ret := (some .int)) (by decide) rfl rfl (Nat.le_of_ble_eq_true rfl) (fun X O hnm0 => ?_)
  rw [p_X9_cut] at hf
  show J X 3 (JQi X [(x, .inr (5, [.ref t, .ref o, .ref h, .ref j, .int x_p])), (t, .inr (4, [.ref tb, .int z.2])), (tb, .inl (cB, 6000, .inl (b8 t_f))), (o, .inr (4, [.ref ob, .int o_l])), (ob, .inl (cB, 13044, .inl (b8 o_f))), (h, .inr (0, [.ref d, .ref hk, .ref hs, .int h_c, .ref hu, .ref hn, .ref hg, .int h_e])), (d, .inr (4, [.ref db, .int d_l])), (db, .inl (cB, 12000, .inl (b8 d_f))), (hk, .inl (cI, 60, .inl h_k)), (hs, .inl (cI, 61, .inl h_s)), (hu, .inl (cI, 40, .inl h_u)), (hn, .inl (cJ, 40, .inr (.inl h_n))), (hg, .inl (cI, 40, .inl h_g)), (j, .inr (1, [.ref jp, .int j_c, .int j_a])), (jp, .inl (cI, 60, .inl j_p))] z.1 0 0) [(x, .inr (5, [.ref t, .ref o, .ref h, .ref j, .int x_p])), (t, .inr (4, [.ref tb, .int t_l])), (tb, .inl (cB, 6000, .inl (b8 t_f))), (o, .inr (4, [.ref ob, .int o_l])), (ob, .inl (cB, 13044, .inl (b8 o_f))), (h, .inr (0, [.ref d, .ref hk, .ref hs, .int h_c, .ref hu, .ref hn, .ref hg, .int h_e])), (d, .inr (4, [.ref db, .int d_l])), (db, .inl (cB, 12000, .inl (b8 d_f))), (hk, .inl (cI, 60, .inl h_k)), (hs, .inl (cI, 61, .inl h_s)), (hu, .inl (cI, 40, .inl h_u)), (hn, .inl (cJ, 40, .inr (.inl h_n))), (hg, .inl (cI, 40, .inl h_g)), (j, .inr (1, [.ref jp, .int j_c, .int j_a])), (jp, .inl (cI, 60, .inl j_p))] 0 0 0 [(0, .ref x), (1, .int a1)] []
  refine J_iload_n O (i := 1) (k0 := 1) (pc := 0) 1 rfl rfl dX9_cut_0 ?_
  refine J_if_lt O (tgt := 15) (pc := 1) dX9_cut_1 (by decide) (fun c1 => ?_) (fun c1 => ?_)
  · have hf := jt_t c1 hf
    refine J_iconst O (v := (-1)) (pc := 15) (by decide) dX9_cut_15 ?_
    have e9 := Option.some.inj hf
    subst e9
    exact J_iret O (pc := 16) rfl dX9_cut_16
  · have hf := jt_f c1 hf
    refine J_iload_n O (i := 1) (k0 := 1) (pc := 4) 1 rfl rfl dX9_cut_4 ?_
    refine J_aload_n O (i := 0) (k0 := 0) (pc := 5) 0 rfl rfl dX9_cut_5 ?_
    refine J_get O (pc := 6) in_X9_cut_X9 0 rfl rfl 0 (by decide) mb_X9_cut_1 rfl dX9_cut_6 ?_
    refine J_get O (pc := 9) in_X9_cut_X6 1 rfl rfl 1 (by decide) mb_X9_cut_3 rfl dX9_cut_9 ?_
    refine J_icmp_le O (tgt := 17) (pc := 12) dX9_cut_12 (by decide) (fun c12 => ?_) (fun c12 => ?_)
    · have hf := jt_t c12 hf
      refine J_aload_n O (i := 0) (k0 := 0) (pc := 17) 0 rfl rfl dX9_cut_17 ?_
      refine J_get O (pc := 18) in_X9_cut_X9 0 rfl rfl 0 (by decide) mb_X9_cut_1 rfl dX9_cut_18 ?_
      refine J_get O (pc := 21) in_X9_cut_X6 1 rfl rfl 1 (by decide) mb_X9_cut_3 rfl dX9_cut_21 ?_
      refine J_iload_n O (i := 1) (k0 := 1) (pc := 24) 1 rfl rfl dX9_cut_24 ?_
      refine J_isub O (pc := 25) dX9_cut_25 ?_
      refine J_istore_n O (i := 2) (k0 := 2) (pc := 26) rfl [(2, .int (t_l - a1)), (0, .ref x), (1, .int a1)] (by decide) rfl dX9_cut_26 ?_
      refine J_aload_n O (i := 0) (k0 := 0) (pc := 27) 1 rfl rfl dX9_cut_27 ?_
      refine J_get O (pc := 28) in_X9_cut_X9 0 rfl rfl 0 (by decide) mb_X9_cut_1 rfl dX9_cut_28 ?_
      refine J_iload_n O (i := 1) (k0 := 1) (pc := 31) 2 rfl rfl dX9_cut_31 ?_
      obtain ⟨z32, h32, hf⟩ := jt_b hf
      refine J_callVv O (pc := 32) (c_X6_keep l D cB cI cJ t tb 6000 t_l t_f a1 h32) rfl 0 rfl rfl gX9_cut_X6_keep hdV_X6_keep ⟨(Nat.le_of_ble_eq_true rfl), (Nat.le_of_ble_eq_true rfl)⟩ rfl (st := []) rfl (Nat.le_of_ble_eq_true rfl) [1, 2] [0, 3, 4, 5, 6, 7, 8, 9, 10, 11, 12, 13, 14] rfl rfl rfl rfl rfl (by decide) [(x, .inr (5, [.ref t, .ref o, .ref h, .ref j, .int x_p])), (t, .inr (4, [.ref tb, .int z32])), (tb, .inl (cB, 6000, .inl (b8 t_f))), (o, .inr (4, [.ref ob, .int o_l])), (ob, .inl (cB, 13044, .inl (b8 o_f))), (h, .inr (0, [.ref d, .ref hk, .ref hs, .int h_c, .ref hu, .ref hn, .ref hg, .int h_e])), (d, .inr (4, [.ref db, .int d_l])), (db, .inl (cB, 12000, .inl (b8 d_f))), (hk, .inl (cI, 60, .inl h_k)), (hs, .inl (cI, 61, .inl h_s)), (hu, .inl (cI, 40, .inl h_u)), (hn, .inl (cJ, 40, .inr (.inl h_n))), (hg, .inl (cI, 40, .inl h_g)), (j, .inr (1, [.ref jp, .int j_c, .int j_a])), (jp, .inl (cI, 60, .inl j_p))] [0, 13, 14, 1, 2, 3, 4, 5, 6, 7, 8, 9, 10, 11, 12] rfl rfl rfl (0) (0) (Nat.le_of_ble_eq_true rfl) (Nat.le_of_ble_eq_true rfl) ⟨(Nat.le_of_ble_eq_true rfl), (Nat.le_of_ble_eq_true rfl)⟩ dX9_cut_32 ?_
      refine J_iload_n O (i := 2) (k0 := 2) (pc := 35) 0 rfl rfl dX9_cut_35 ?_
      have e9 := Option.some.inj hf
      subst e9
      exact J_iret O (pc := 36) rfl dX9_cut_36
    · have hf := jt_f c12 hf
      refine J_iconst O (v := (-1)) (pc := 15) (by decide) dX9_cut_15 ?_
      have e9 := Option.some.inj hf
      subst e9
      exact J_iret O (pc := 16) rfl dX9_cut_16
theorem in_X9_read_X9 : ∀ w ∈ u_ws RX9 TX9 5, w ∈ wsX9_read := fun _ h => List.mem_cons_of_mem _ (List.mem_append_left _ (List.mem_append_left _ (List.mem_append_left _ (List.mem_append_left _ (List.mem_append_right _ h)))))
theorem mb_X9_read_1 : Cond.fieldLink RX9 14 (TX9 0).1 (TX9 0).2.1 (TX9 0).2.2.1 ∈ wsX9_read := by decide +kernel
theorem hdV_X6_whole : yX6_whole.cls = RX6 ∧ yX6_whole.cls ≠ "java/lang/invoke/MethodHandle" ∧ yX6_whole.cls ≠ "java/lang/invoke/VarHandle" ∧ (parseMethodDescriptor yX6_whole.desc).map (fun d => d.parameters.length) = some 0 := by decide +kernel
theorem mb_X9_read_2 : Cond.fieldLink RX9 31 (TX9 3).1 (TX9 3).2.1 (TX9 3).2.2.1 ∈ wsX9_read := by decide +kernel
theorem hdV_X1_faultOf : yX1_faultOf.cls = RX1 ∧ yX1_faultOf.cls ≠ "java/lang/invoke/MethodHandle" ∧ yX1_faultOf.cls ≠ "java/lang/invoke/VarHandle" ∧ (parseMethodDescriptor yX1_faultOf.desc).map (fun d => d.parameters.length) = some 1 := by decide +kernel
theorem mb_X9_read_3 : Cond.fieldLink RX9 35 (TX9 4).1 (TX9 4).2.1 (TX9 4).2.2.1 ∈ wsX9_read := by decide +kernel
theorem in_X9_read_X1 : ∀ w ∈ u_ws RX1 TX1 3, w ∈ wsX9_read := fun _ h => List.mem_cons_of_mem _ (List.mem_append_left _ (List.mem_append_left _ (List.mem_append_left _ (List.mem_append_right _ h))))
theorem mb_X9_read_5 : Cond.fieldLink RX9 65 (TX1 2).1 (TX1 2).2.1 (TX1 2).2.2.1 ∈ wsX9_read := by decide +kernel
theorem mb_X9_read_6 : Cond.fieldLink RX9 24 (TX9 2).1 (TX9 2).2.1 (TX9 2).2.2.1 ∈ wsX9_read := by decide +kernel
theorem in_X9_read_X0 : ∀ w ∈ u_ws RX0 TX0 8, w ∈ wsX9_read := fun _ h => List.mem_cons_of_mem _ (List.mem_append_left _ (List.mem_append_left _ (List.mem_append_right _ h)))
theorem mb_X9_read_8 : Cond.fieldLink RX9 68 (TX0 3).1 (TX0 3).2.1 (TX0 3).2.2.1 ∈ wsX9_read := by decide +kernel
theorem hdV_X1_moveInto : yX1_moveInto.cls = RX1 ∧ yX1_moveInto.cls ≠ "java/lang/invoke/MethodHandle" ∧ yX1_moveInto.cls ≠ "java/lang/invoke/VarHandle" ∧ (parseMethodDescriptor yX1_moveInto.desc).map (fun d => d.parameters.length) = some 2 := by decide +kernel
abbrev rmX9_read : Room := { frames := 6, cells := 66, slots := 198, locals := 143 }
set_option maxHeartbeats 4000000 in
set_option maxRecDepth 100000 in
theorem wk_X9_read_53 {X : JC} {l : Launch} {D : va_G} {cB cI cJ : ClassId} (O : Jo X (l, D, cB, cI, cJ) cX9_read 3 RX9 wsX9_read rmX9_read (some .int)) (x t tb o ob h d db hk hs hu hn hg j jp : Nat) (t_f : Nat → Int8) (o_l : Int32) (o_f : Nat → Int8) (fu : Nat) {z : Int32 × Int32 × Int32 × Int32 × Int32 × Int32 × (Nat → Int8) × (Nat → Int32) × (Nat → Int32) × (Nat → Int32) × (Nat → Int64) × (Nat → Int32) × Int32 × Int32 × (Nat → Int32)} (v2 : Int32) (x_p : Int32) (t_l : Int32) (h_c : Int32) (h_e : Int32) (d_l : Int32) (d_f : Nat → Int8) (h_k : Nat → Int32) (h_s : Nat → Int32) (h_u : Nat → Int32) (h_n : Nat → Int64) (h_g : Nat → Int32) (j_c : Int32) (j_a : Int32) (j_p : Nat → Int32) (hf : p_X9_read_53 fu t_f v2 x_p t_l h_c h_e d_l d_f h_k h_s h_u h_n h_g j_c j_a j_p = some z) : J X 3 (JQi X [(x, .inr (5, [.ref t, .ref o, .ref h, .ref j, .int z.2.1])), (t, .inr (4, [.ref tb, .int z.2.2.1])), (tb, .inl (cB, 6000, .inl (b8 t_f))), (o, .inr (4, [.ref ob, .int o_l])), (ob, .inl (cB, 13044, .inl (b8 o_f))), (h, .inr (0, [.ref d, .ref hk, .ref hs, .int z.2.2.2.1, .ref hu, .ref hn, .ref hg, .int z.2.2.2.2.1])), (d, .inr (4, [.ref db, .int z.2.2.2.2.2.1])), (db, .inl (cB, 12000, .inl (b8 z.2.2.2.2.2.2.1))), (hk, .inl (cI, 60, .inl z.2.2.2.2.2.2.2.1)), (hs, .inl (cI, 61, .inl z.2.2.2.2.2.2.2.2.1)), (hu, .inl (cI, 40, .inl z.2.2.2.2.2.2.2.2.2.1)), (hn, .inl (cJ, 40, .inr (.inl z.2.2.2.2.2.2.2.2.2.2.1))), (hg, .inl (cI, 40, .inl z.2.2.2.2.2.2.2.2.2.2.2.1)), (j, .inr (1, [.ref jp, .int z.2.2.2.2.2.2.2.2.2.2.2.2.1, .int z.2.2.2.2.2.2.2.2.2.2.2.2.2.1])), (jp, .inl (cI, 60, .inl z.2.2.2.2.2.2.2.2.2.2.2.2.2.2))] z.1 66 198) [(x, .inr (5, [.ref t, .ref o, .ref h, .ref j, .int x_p])), (t, .inr (4, [.ref tb, .int t_l])), (tb, .inl (cB, 6000, .inl (b8 t_f))), (o, .inr (4, [.ref ob, .int o_l])), (ob, .inl (cB, 13044, .inl (b8 o_f))), (h, .inr (0, [.ref d, .ref hk, .ref hs, .int h_c, .ref hu, .ref hn, .ref hg, .int h_e])), (d, .inr (4, [.ref db, .int d_l])), (db, .inl (cB, 12000, .inl (b8 d_f))), (hk, .inl (cI, 60, .inl h_k)), (hs, .inl (cI, 61, .inl h_s)), (hu, .inl (cI, 40, .inl h_u)), (hn, .inl (cJ, 40, .inr (.inl h_n))), (hg, .inl (cI, 40, .inl h_g)), (j, .inr (1, [.ref jp, .int j_c, .int j_a])), (jp, .inl (cI, 60, .inl j_p))] 66 198 53 [(0, .ref x), (2, .int v2)] [] := by
  rw [p_X9_read_53] at hf
  refine J_aload_n O (i := 0) (k0 := 0) (pc := 53) 0 rfl rfl dX9_read_53 ?_
  refine J_get O (pc := 54) in_X9_read_X9 0 rfl rfl 0 (by decide) mb_X9_read_1 rfl dX9_read_54 ?_
  refine J_iconst O (v := 0) (pc := 57) (by decide) dX9_read_57 ?_
  obtain ⟨z58, h58, hf⟩ := jt_b hf
  refine J_callVv O (pc := 58) (c_X6_keep l D cB cI cJ t tb 6000 t_l t_f 0 h58) rfl 0 rfl rfl gX9_read_X6_keep hdV_X6_keep ⟨(Nat.le_of_ble_eq_true rfl), (Nat.le_of_ble_eq_true rfl)⟩ rfl (st := []) rfl (Nat.le_of_ble_eq_true rfl) [1, 2] [0, 3, 4, 5, 6, 7, 8, 9, 10, 11, 12, 13, 14] rfl rfl rfl rfl rfl (by decide) [(x, .inr (5, [.ref t, .ref o, .ref h, .ref j, .int x_p])), (t, .inr (4, [.ref tb, .int z58])), (tb, .inl (cB, 6000, .inl (b8 t_f))), (o, .inr (4, [.ref ob, .int o_l])), (ob, .inl (cB, 13044, .inl (b8 o_f))), (h, .inr (0, [.ref d, .ref hk, .ref hs, .int h_c, .ref hu, .ref hn, .ref hg, .int h_e])), (d, .inr (4, [.ref db, .int d_l])), (db, .inl (cB, 12000, .inl (b8 d_f))), (hk, .inl (cI, 60, .inl h_k)), (hs, .inl (cI, 61, .inl h_s)), (hu, .inl (cI, 40, .inl h_u)), (hn, .inl (cJ, 40, .inr (.inl h_n))), (hg, .inl (cI, 40, .inl h_g)), (j, .inr (1, [.ref jp, .int j_c, .int j_a])), (jp, .inl (cI, 60, .inl j_p))] [0, 13, 14, 1, 2, 3, 4, 5, 6, 7, 8, 9, 10, 11, 12] rfl rfl rfl (66) (198) (Nat.le_of_ble_eq_true rfl) (Nat.le_of_ble_eq_true rfl) ⟨(Nat.le_of_ble_eq_true rfl), (Nat.le_of_ble_eq_true rfl)⟩ dX9_read_58 ?_
  refine J_iload_n O (i := 2) (k0 := 2) (pc := 61) 1 rfl rfl dX9_read_61 ?_
  refine J_if_ne O (tgt := 75) (pc := 62) dX9_read_62 (by decide) (fun c62 => ?_) (fun c62 => ?_)
  · have hf := jt_f c62 hf
    refine J_bipush O (v := (-10)) (pc := 75) (by decide) dX9_read_75 ?_
    refine J_iload_n O (i := 2) (k0 := 2) (pc := 77) 1 rfl rfl dX9_read_77 ?_
    refine J_isub O (pc := 78) dX9_read_78 ?_
    have e9 := Option.some.inj hf
    subst e9
    exact J_iret O (pc := 79) rfl dX9_read_79
  · have hf := jt_t c62 hf
    refine J_aload_n O (i := 0) (k0 := 0) (pc := 65) 0 rfl rfl dX9_read_65 ?_
    refine J_get O (pc := 66) in_X9_read_X9 0 rfl rfl 2 (by decide) mb_X9_read_6 rfl dX9_read_66 ?_
    refine J_get O (pc := 69) in_X9_read_X0 5 rfl rfl 3 (by decide) mb_X9_read_8 rfl dX9_read_69 ?_
    refine J_goto O (tgt := 79) (pc := 72) dX9_read_72 (by decide) ?_
    have e9 := Option.some.inj hf
    subst e9
    exact J_iret O (pc := 79) rfl dX9_read_79
set_option maxHeartbeats 4000000 in
set_option maxRecDepth 100000 in
theorem c_X9_read (l : Launch) (D : va_G) (cB cI cJ : ClassId) (x t tb o ob h d db hk hs hu hn hg j jp : Nat) (x_p : Int32) (t_l : Int32) (t_f : Nat → Int8) (o_l : Int32) (o_f : Nat → Int8) (h_c : Int32) (h_e : Int32) (d_l : Int32) (d_f : Nat → Int8) (h_k : Nat → Int32) (h_s : Nat → Int32) (h_u : Nat → Int32) (h_n : Nat → Int64) (h_g : Nat → Int32) (j_c : Int32) (j_a : Int32) (j_p : Nat → Int32) (fu : Nat) {z : Int32 × Int32 × Int32 × Int32 × Int32 × Int32 × (Nat → Int8) × (Nat → Int32) × (Nat → Int32) × (Nat → Int32) × (Nat → Int64) × (Nat → Int32) × Int32 × Int32 × (Nat → Int32)} (hf : p_X9_read fu x_p t_l t_f h_c h_e d_l d_f h_k h_s h_u h_n h_g j_c j_a j_p = some z) : Ci (l, D, cB, cI, cJ) yX9_read wsX9_read rmX9_read [.ref x] [(x, .inr (5, [.ref t, .ref o, .ref h, .ref j, .int x_p])), (t, .inr (4, [.ref tb, .int t_l])), (tb, .inl (cB, 6000, .inl (b8 t_f))), (o, .inr (4, [.ref ob, .int o_l])), (ob, .inl (cB, 13044, .inl (b8 o_f))), (h, .inr (0, [.ref d, .ref hk, .ref hs, .int h_c, .ref hu, .ref hn, .ref hg, .int h_e])), (d, .inr (4, [.ref db, .int d_l])), (db, .inl (cB, 12000, .inl (b8 d_f))), (hk, .inl (cI, 60, .inl h_k)), (hs, .inl (cI, 61, .inl h_s)), (hu, .inl (cI, 40, .inl h_u)), (hn, .inl (cJ, 40, .inr (.inl h_n))), (hg, .inl (cI, 40, .inl h_g)), (j, .inr (1, [.ref jp, .int j_c, .int j_a])), (jp, .inl (cI, 60, .inl j_p))] [(x, .inr (5, [.ref t, .ref o, .ref h, .ref j, .int z.2.1])), (t, .inr (4, [.ref tb, .int z.2.2.1])), (tb, .inl (cB, 6000, .inl (b8 t_f))), (o, .inr (4, [.ref ob, .int o_l])), (ob, .inl (cB, 13044, .inl (b8 o_f))), (h, .inr (0, [.ref d, .ref hk, .ref hs, .int z.2.2.2.1, .ref hu, .ref hn, .ref hg, .int z.2.2.2.2.1])), (d, .inr (4, [.ref db, .int z.2.2.2.2.2.1])), (db, .inl (cB, 12000, .inl (b8 z.2.2.2.2.2.2.1))), (hk, .inl (cI, 60, .inl z.2.2.2.2.2.2.2.1)), (hs, .inl (cI, 61, .inl z.2.2.2.2.2.2.2.2.1)), (hu, .inl (cI, 40, .inl z.2.2.2.2.2.2.2.2.2.1)), (hn, .inl (cJ, 40, .inr (.inl z.2.2.2.2.2.2.2.2.2.2.1))), (hg, .inl (cI, 40, .inl z.2.2.2.2.2.2.2.2.2.2.2.1)), (j, .inr (1, [.ref jp, .int z.2.2.2.2.2.2.2.2.2.2.2.2.1, .int z.2.2.2.2.2.2.2.2.2.2.2.2.2.1])), (jp, .inl (cI, 60, .inl z.2.2.2.2.2.2.2.2.2.2.2.2.2.2))] z.1 := by
  refine Ci_of (cc := cX9_read) (nL := 3) (own := RX9) (ret := (some .int)) (by decide) rfl rfl (Nat.le_of_ble_eq_true rfl) (fun X O hnm0 => ?_)
  rw [p_X9_read] at hf
  show J X 3 (JQi X [(x, .inr (5, [.ref t, .ref o, .ref h, .ref j, .int z.2.1])), (t, .inr (4, [.ref tb, .int z.2.2.1])), (tb, .inl (cB, 6000, .inl (b8 t_f))), (o, .inr (4, [.ref ob, .int o_l])), (ob, .inl (cB, 13044, .inl (b8 o_f))), (h, .inr (0, [.ref d, .ref hk, .ref hs, .int z.2.2.2.1, .ref hu, .ref hn, .ref hg, .int z.2.2.2.2.1])), (d, .inr (4, [.ref db, .int z.2.2.2.2.2.1])), (db, .inl (cB, 12000, .inl (b8 z.2.2.2.2.2.2.1))), (hk, .inl (cI, 60, .inl z.2.2.2.2.2.2.2.1)), (hs, .inl (cI, 61, .inl z.2.2.2.2.2.2.2.2.1)), (hu, .inl (cI, 40, .inl z.2.2.2.2.2.2.2.2.2.1)), (hn, .inl (cJ, 40, .inr (.inl z.2.2.2.2.2.2.2.2.2.2.1))), (hg, .inl (cI, 40, .inl z.2.2.2.2.2.2.2.2.2.2.2.1)), (j, .inr (1, [.ref jp, .int z.2.2.2.2.2.2.2.2.2.2.2.2.1, .int z.2.2.2.2.2.2.2.2.2.2.2.2.2.1])), (jp, .inl (cI, 60, .inl z.2.2.2.2.2.2.2.2.2.2.2.2.2.2))] z.1 66 198) [(x, .inr (5, [.ref t, .ref o, .ref h, .ref j, .int x_p])), (t, .inr (4, [.ref tb, .int t_l])), (tb, .inl (cB, 6000, .inl (b8 t_f))), (o, .inr (4, [.ref ob, .int o_l])), (ob, .inl (cB, 13044, .inl (b8 o_f))), (h, .inr (0, [.ref d, .ref hk, .ref hs, .int h_c, .ref hu, .ref hn, .ref hg, .int h_e])), (d, .inr (4, [.ref db, .int d_l])), (db, .inl (cB, 12000, .inl (b8 d_f))), (hk, .inl (cI, 60, .inl h_k)), (hs, .inl (cI, 61, .inl h_s)), (hu, .inl (cI, 40, .inl h_u)), (hn, .inl (cJ, 40, .inr (.inl h_n))), (hg, .inl (cI, 40, .inl h_g)), (j, .inr (1, [.ref jp, .int j_c, .int j_a])), (jp, .inl (cI, 60, .inl j_p))] 0 0 0 [(0, .ref x)] []
  refine J_aload_n O (i := 0) (k0 := 0) (pc := 0) 0 rfl rfl dX9_read_0 ?_
  refine J_get O (pc := 1) in_X9_read_X9 0 rfl rfl 0 (by decide) mb_X9_read_1 rfl dX9_read_1 ?_
  obtain ⟨z4, h4, hf⟩ := jt_b hf
  refine J_callVr O (pc := 4) (c_X6_whole l D cB cI cJ t tb 6000 t_l t_f h4) rfl 0 rfl rfl gX9_read_X6_whole hdV_X6_whole ⟨(Nat.le_of_ble_eq_true rfl), (Nat.le_of_ble_eq_true rfl)⟩ rfl (st := []) rfl (Nat.le_of_ble_eq_true rfl) [1, 2] [0, 3, 4, 5, 6, 7, 8, 9, 10, 11, 12, 13, 14] rfl rfl rfl rfl rfl (by decide) (fun q4 => [(x, .inr (5, [.ref t, .ref o, .ref h, .ref j, .int x_p])), (t, .inr (4, [.ref tb, .int t_l])), (tb, .inl (cB, 6000, .inl (b8 t_f))), (o, .inr (4, [.ref ob, .int o_l])), (ob, .inl (cB, 13044, .inl (b8 o_f))), (h, .inr (0, [.ref d, .ref hk, .ref hs, .int h_c, .ref hu, .ref hn, .ref hg, .int h_e])), (d, .inr (4, [.ref db, .int d_l])), (db, .inl (cB, 12000, .inl (b8 d_f))), (hk, .inl (cI, 60, .inl h_k)), (hs, .inl (cI, 61, .inl h_s)), (hu, .inl (cI, 40, .inl h_u)), (hn, .inl (cJ, 40, .inr (.inl h_n))), (hg, .inl (cI, 40, .inl h_g)), (j, .inr (1, [.ref jp, .int j_c, .int j_a])), (jp, .inl (cI, 60, .inl j_p)), (q4, .inr (2, [.ref t, .int z4.1, .int z4.2]))]) [0, 13, 14, 1, 2, 3, 4, 5, 6, 7, 8, 9, 10, 11, 12, 15] rfl (fun _ => rfl) (fun _ => rfl) (1) (3) (Nat.le_of_ble_eq_true rfl) (Nat.le_of_ble_eq_true rfl) ⟨(Nat.le_of_ble_eq_true rfl), (Nat.le_of_ble_eq_true rfl)⟩ dX9_read_4 (fun q4 => ?_)
  refine J_astore_n O (i := 1) (k0 := 1) (pc := 7) rfl [(1, .ref q4), (0, .ref x)] (by decide) rfl dX9_read_7 ?_
  refine J_aload_n O (i := 0) (k0 := 0) (pc := 8) 1 rfl rfl dX9_read_8 ?_
  refine J_get O (pc := 9) in_X9_read_X9 0 rfl rfl 3 (by decide) mb_X9_read_2 rfl dX9_read_9 ?_
  refine J_aload_n O (i := 1) (k0 := 1) (pc := 12) 0 rfl rfl dX9_read_12 ?_
  obtain ⟨z13, h13, hf⟩ := jt_b hf
  refine J_callVi O (pc := 13) (c_X1_faultOf l D cB cI cJ j jp q4 t tb 6000 j_c j_a j_p z4.1 z4.2 t_l t_f fu h13) rfl 0 rfl rfl gX9_read_X1_faultOf hdV_X1_faultOf ⟨(Nat.le_of_ble_eq_true rfl), (Nat.le_of_ble_eq_true rfl)⟩ rfl (st := []) rfl (Nat.le_of_ble_eq_true rfl) [13, 14, 15, 1, 2] [0, 3, 4, 5, 6, 7, 8, 9, 10, 11, 12] rfl rfl rfl rfl rfl (by decide) [(x, .inr (5, [.ref t, .ref o, .ref h, .ref j, .int x_p])), (t, .inr (4, [.ref tb, .int t_l])), (tb, .inl (cB, 6000, .inl (b8 t_f))), (o, .inr (4, [.ref ob, .int o_l])), (ob, .inl (cB, 13044, .inl (b8 o_f))), (h, .inr (0, [.ref d, .ref hk, .ref hs, .int h_c, .ref hu, .ref hn, .ref hg, .int h_e])), (d, .inr (4, [.ref db, .int d_l])), (db, .inl (cB, 12000, .inl (b8 d_f))), (hk, .inl (cI, 60, .inl h_k)), (hs, .inl (cI, 61, .inl h_s)), (hu, .inl (cI, 40, .inl h_u)), (hn, .inl (cJ, 40, .inr (.inl h_n))), (hg, .inl (cI, 40, .inl h_g)), (j, .inr (1, [.ref jp, .int z13.2.1, .int z13.2.2.1])), (jp, .inl (cI, 60, .inl z13.2.2.2)), (q4, .inr (2, [.ref t, .int z4.1, .int z4.2]))] [0, 14, 15, 1, 2, 3, 4, 5, 6, 7, 8, 9, 10, 11, 12, 13] rfl rfl rfl (1) (3) (Nat.le_of_ble_eq_true rfl) (Nat.le_of_ble_eq_true rfl) ⟨(Nat.le_of_ble_eq_true rfl), (Nat.le_of_ble_eq_true rfl)⟩ dX9_read_13 ?_
  refine J_istore_n O (i := 2) (k0 := 2) (pc := 16) rfl [(2, .int z13.1), (1, .ref q4), (0, .ref x)] (by decide) rfl dX9_read_16 ?_
  refine J_aload_n O (i := 0) (k0 := 0) (pc := 17) 2 rfl rfl dX9_read_17 ?_
  refine J_bipush O (v := (-2)) (pc := 18) (by decide) dX9_read_18 ?_
  refine J_put O (pc := 20) in_X9_read_X9 tyX9 tyX9_ok nmX9 0 rfl rfl 4 (by decide) mb_X9_read_3 rfl rfl rfl (Nat.le_of_ble_eq_true rfl) [(x, .inr (5, [.ref t, .ref o, .ref h, .ref j, .int (-2)])), (t, .inr (4, [.ref tb, .int t_l])), (tb, .inl (cB, 6000, .inl (b8 t_f))), (o, .inr (4, [.ref ob, .int o_l])), (ob, .inl (cB, 13044, .inl (b8 o_f))), (h, .inr (0, [.ref d, .ref hk, .ref hs, .int h_c, .ref hu, .ref hn, .ref hg, .int h_e])), (d, .inr (4, [.ref db, .int d_l])), (db, .inl (cB, 12000, .inl (b8 d_f))), (hk, .inl (cI, 60, .inl h_k)), (hs, .inl (cI, 61, .inl h_s)), (hu, .inl (cI, 40, .inl h_u)), (hn, .inl (cJ, 40, .inr (.inl h_n))), (hg, .inl (cI, 40, .inl h_g)), (j, .inr (1, [.ref jp, .int z13.2.1, .int z13.2.2.1])), (jp, .inl (cI, 60, .inl z13.2.2.2)), (q4, .inr (2, [.ref t, .int z4.1, .int z4.2]))] rfl dX9_read_20 ?_
  refine J_iload_n O (i := 2) (k0 := 2) (pc := 23) 0 rfl rfl dX9_read_23 ?_
  refine J_if_ne O (tgt := 42) (pc := 24) dX9_read_24 (by decide) (fun c24 => ?_) (fun c24 => ?_)
  · have hf := jt_f c24 hf
    refine J_aload_n O (i := 0) (k0 := 0) (pc := 42) 2 rfl rfl dX9_read_42 ?_
    refine J_aload_n O (i := 0) (k0 := 0) (pc := 43) 2 rfl rfl dX9_read_43 ?_
    refine J_get O (pc := 44) in_X9_read_X9 0 rfl rfl 3 (by decide) mb_X9_read_2 rfl dX9_read_44 ?_
    refine J_get O (pc := 47) in_X9_read_X1 13 rfl rfl 2 (by decide) mb_X9_read_5 rfl dX9_read_47 ?_
    refine J_put O (pc := 50) in_X9_read_X9 tyX9 tyX9_ok nmX9 0 rfl rfl 4 (by decide) mb_X9_read_3 rfl rfl rfl (Nat.le_of_ble_eq_true rfl) [(x, .inr (5, [.ref t, .ref o, .ref h, .ref j, .int z13.2.2.1])), (t, .inr (4, [.ref tb, .int t_l])), (tb, .inl (cB, 6000, .inl (b8 t_f))), (o, .inr (4, [.ref ob, .int o_l])), (ob, .inl (cB, 13044, .inl (b8 o_f))), (h, .inr (0, [.ref d, .ref hk, .ref hs, .int h_c, .ref hu, .ref hn, .ref hg, .int h_e])), (d, .inr (4, [.ref db, .int d_l])), (db, .inl (cB, 12000, .inl (b8 d_f))), (hk, .inl (cI, 60, .inl h_k)), (hs, .inl (cI, 61, .inl h_s)), (hu, .inl (cI, 40, .inl h_u)), (hn, .inl (cJ, 40, .inr (.inl h_n))), (hg, .inl (cI, 40, .inl h_g)), (j, .inr (1, [.ref jp, .int z13.2.1, .int z13.2.2.1])), (jp, .inl (cI, 60, .inl z13.2.2.2)), (q4, .inr (2, [.ref t, .int z4.1, .int z4.2]))] rfl dX9_read_50 ?_
    refine J_wsub [0, 1, 2, 3, 4, 5, 6, 7, 8, 9, 10, 11, 12, 13, 14] [(x, .inr (5, [.ref t, .ref o, .ref h, .ref j, .int z13.2.2.1])), (t, .inr (4, [.ref tb, .int t_l])), (tb, .inl (cB, 6000, .inl (b8 t_f))), (o, .inr (4, [.ref ob, .int o_l])), (ob, .inl (cB, 13044, .inl (b8 o_f))), (h, .inr (0, [.ref d, .ref hk, .ref hs, .int h_c, .ref hu, .ref hn, .ref hg, .int h_e])), (d, .inr (4, [.ref db, .int d_l])), (db, .inl (cB, 12000, .inl (b8 d_f))), (hk, .inl (cI, 60, .inl h_k)), (hs, .inl (cI, 61, .inl h_s)), (hu, .inl (cI, 40, .inl h_u)), (hn, .inl (cJ, 40, .inr (.inl h_n))), (hg, .inl (cI, 40, .inl h_g)), (j, .inr (1, [.ref jp, .int z13.2.1, .int z13.2.2.1])), (jp, .inl (cI, 60, .inl z13.2.2.2))] rfl rfl rfl ?_
    refine J_sub [2, 0] (lv' := [(0, .ref x), (2, .int z13.1)]) rfl ?_
    refine J_widen 66 198 (Nat.le_of_ble_eq_true rfl) (Nat.le_of_ble_eq_true rfl) ?_
    exact wk_X9_read_53 O x t tb o ob h d db hk hs hu hn hg j jp t_f o_l o_f fu z13.1 z13.2.2.1 t_l h_c h_e d_l d_f h_k h_s h_u h_n h_g z13.2.1 z13.2.2.1 z13.2.2.2 hf
  · have hf := jt_t c24 hf
    refine J_aload_n O (i := 0) (k0 := 0) (pc := 27) 2 rfl rfl dX9_read_27 ?_
    refine J_get O (pc := 28) in_X9_read_X9 0 rfl rfl 3 (by decide) mb_X9_read_2 rfl dX9_read_28 ?_
    refine J_aload_n O (i := 0) (k0 := 0) (pc := 31) 2 rfl rfl dX9_read_31 ?_
    refine J_get O (pc := 32) in_X9_read_X9 0 rfl rfl 2 (by decide) mb_X9_read_6 rfl dX9_read_32 ?_
    refine J_aload_n O (i := 1) (k0 := 1) (pc := 35) 1 rfl rfl dX9_read_35 ?_
    obtain ⟨z36, h36, hf⟩ := jt_b hf
    refine J_callVv O (pc := 36) (c_X1_moveInto l D cB cI cJ j jp h d db hk hs hu hn hg q4 t tb 6000 z13.2.1 z13.2.2.1 z13.2.2.2 h_c h_e d_l d_f h_k h_s h_u h_n h_g z4.1 z4.2 t_l t_f fu h36) rfl 0 rfl rfl gX9_read_X1_moveInto hdV_X1_moveInto ⟨(Nat.le_of_ble_eq_true rfl), (Nat.le_of_ble_eq_true rfl)⟩ rfl (st := []) rfl (Nat.le_of_ble_eq_true rfl) [13, 14, 5, 6, 7, 8, 9, 10, 11, 12, 15, 1, 2] [0, 3, 4] rfl rfl rfl rfl rfl (by decide) [(x, .inr (5, [.ref t, .ref o, .ref h, .ref j, .int (-2)])), (t, .inr (4, [.ref tb, .int t_l])), (tb, .inl (cB, 6000, .inl (b8 t_f))), (o, .inr (4, [.ref ob, .int o_l])), (ob, .inl (cB, 13044, .inl (b8 o_f))), (h, .inr (0, [.ref d, .ref hk, .ref hs, .int z36.1, .ref hu, .ref hn, .ref hg, .int z36.2.1])), (d, .inr (4, [.ref db, .int z36.2.2.1])), (db, .inl (cB, 12000, .inl (b8 z36.2.2.2.1))), (hk, .inl (cI, 60, .inl z36.2.2.2.2.1)), (hs, .inl (cI, 61, .inl z36.2.2.2.2.2.1)), (hu, .inl (cI, 40, .inl z36.2.2.2.2.2.2.1)), (hn, .inl (cJ, 40, .inr (.inl z36.2.2.2.2.2.2.2.1))), (hg, .inl (cI, 40, .inl z36.2.2.2.2.2.2.2.2)), (j, .inr (1, [.ref jp, .int z13.2.1, .int z13.2.2.1])), (jp, .inl (cI, 60, .inl z13.2.2.2)), (q4, .inr (2, [.ref t, .int z4.1, .int z4.2]))] [0, 14, 15, 1, 2, 5, 6, 7, 8, 9, 10, 11, 12, 3, 4, 13] rfl rfl rfl (66) (198) (Nat.le_of_ble_eq_true rfl) (Nat.le_of_ble_eq_true rfl) ⟨(Nat.le_of_ble_eq_true rfl), (Nat.le_of_ble_eq_true rfl)⟩ dX9_read_36 ?_
    refine J_goto O (tgt := 53) (pc := 39) dX9_read_39 (by decide) ?_
    refine J_wsub [0, 1, 2, 3, 4, 5, 6, 7, 8, 9, 10, 11, 12, 13, 14] [(x, .inr (5, [.ref t, .ref o, .ref h, .ref j, .int (-2)])), (t, .inr (4, [.ref tb, .int t_l])), (tb, .inl (cB, 6000, .inl (b8 t_f))), (o, .inr (4, [.ref ob, .int o_l])), (ob, .inl (cB, 13044, .inl (b8 o_f))), (h, .inr (0, [.ref d, .ref hk, .ref hs, .int z36.1, .ref hu, .ref hn, .ref hg, .int z36.2.1])), (d, .inr (4, [.ref db, .int z36.2.2.1])), (db, .inl (cB, 12000, .inl (b8 z36.2.2.2.1))), (hk, .inl (cI, 60, .inl z36.2.2.2.2.1)), (hs, .inl (cI, 61, .inl z36.2.2.2.2.2.1)), (hu, .inl (cI, 40, .inl z36.2.2.2.2.2.2.1)), (hn, .inl (cJ, 40, .inr (.inl z36.2.2.2.2.2.2.2.1))), (hg, .inl (cI, 40, .inl z36.2.2.2.2.2.2.2.2)), (j, .inr (1, [.ref jp, .int z13.2.1, .int z13.2.2.1])), (jp, .inl (cI, 60, .inl z13.2.2.2))] rfl rfl rfl ?_
    refine J_sub [2, 0] (lv' := [(0, .ref x), (2, .int z13.1)]) rfl ?_
    exact wk_X9_read_53 O x t tb o ob h d db hk hs hu hn hg j jp t_f o_l o_f fu z13.1 (-2) t_l z36.1 z36.2.1 z36.2.2.1 z36.2.2.2.1 z36.2.2.2.2.1 z36.2.2.2.2.2.1 z36.2.2.2.2.2.2.1 z36.2.2.2.2.2.2.2.1 z36.2.2.2.2.2.2.2.2 z13.2.1 z13.2.2.1 z13.2.2.2 hf
theorem in_X9_place_X9 : ∀ w ∈ u_ws RX9 TX9 5, w ∈ wsX9_place := fun _ h => List.mem_cons_of_mem _ (List.mem_append_right _ h)
theorem mb_X9_place_1 : Cond.fieldLink RX9 35 (TX9 4).1 (TX9 4).2.1 (TX9 4).2.2.1 ∈ wsX9_place := by decide +kernel
abbrev rmX9_place : Room := { frames := 0, cells := 0, slots := 0, locals := 0 }
set_option maxHeartbeats 4000000 in
set_option maxRecDepth 100000 in
theorem c_X9_place (l : Launch) (D : va_G) (cB cI cJ : ClassId) (x t tb o ob h d db hk hs hu hn hg j jp : Nat) (x_p : Int32) (t_l : Int32) (t_f : Nat → Int8) (o_l : Int32) (o_f : Nat → Int8) (h_c : Int32) (h_e : Int32) (d_l : Int32) (d_f : Nat → Int8) (h_k : Nat → Int32) (h_s : Nat → Int32) (h_u : Nat → Int32) (h_n : Nat → Int64) (h_g : Nat → Int32) (j_c : Int32) (j_a : Int32) (j_p : Nat → Int32) {z : Int32} (hf : p_X9_place x_p = some z) : Ci (l, D, cB, cI, cJ) yX9_place wsX9_place rmX9_place [.ref x] [(x, .inr (5, [.ref t, .ref o, .ref h, .ref j, .int x_p])), (t, .inr (4, [.ref tb, .int t_l])), (tb, .inl (cB, 6000, .inl (b8 t_f))), (o, .inr (4, [.ref ob, .int o_l])), (ob, .inl (cB, 13044, .inl (b8 o_f))), (h, .inr (0, [.ref d, .ref hk, .ref hs, .int h_c, .ref hu, .ref hn, .ref hg, .int h_e])), (d, .inr (4, [.ref db, .int d_l])), (db, .inl (cB, 12000, .inl (b8 d_f))), (hk, .inl (cI, 60, .inl h_k)), (hs, .inl (cI, 61, .inl h_s)), (hu, .inl (cI, 40, .inl h_u)), (hn, .inl (cJ, 40, .inr (.inl h_n))), (hg, .inl (cI, 40, .inl h_g)), (j, .inr (1, [.ref jp, .int j_c, .int j_a])), (jp, .inl (cI, 60, .inl j_p))] [(x, .inr (5, [.ref t, .ref o, .ref h, .ref j, .int x_p])), (t, .inr (4, [.ref tb, .int t_l])), (tb, .inl (cB, 6000, .inl (b8 t_f))), (o, .inr (4, [.ref ob, .int o_l])), (ob, .inl (cB, 13044, .inl (b8 o_f))), (h, .inr (0, [.ref d, .ref hk, .ref hs, .int h_c, .ref hu, .ref hn, .ref hg, .int h_e])), (d, .inr (4, [.ref db, .int d_l])), (db, .inl (cB, 12000, .inl (b8 d_f))), (hk, .inl (cI, 60, .inl h_k)), (hs, .inl (cI, 61, .inl h_s)), (hu, .inl (cI, 40, .inl h_u)), (hn, .inl (cJ, 40, .inr (.inl h_n))), (hg, .inl (cI, 40, .inl h_g)), (j, .inr (1, [.ref jp, .int j_c, .int j_a])), (jp, .inl (cI, 60, .inl j_p))] z := by
  refine Ci_of (cc := cX9_place) (nL := 1) (own := RX9) (ret := (some .int)) (by decide) rfl rfl (Nat.le_of_ble_eq_true rfl) (fun X O hnm0 => ?_)
  rw [p_X9_place] at hf
  show J X 1 (JQi X [(x, .inr (5, [.ref t, .ref o, .ref h, .ref j, .int x_p])), (t, .inr (4, [.ref tb, .int t_l])), (tb, .inl (cB, 6000, .inl (b8 t_f))), (o, .inr (4, [.ref ob, .int o_l])), (ob, .inl (cB, 13044, .inl (b8 o_f))), (h, .inr (0, [.ref d, .ref hk, .ref hs, .int h_c, .ref hu, .ref hn, .ref hg, .int h_e])), (d, .inr (4, [.ref db, .int d_l])), (db, .inl (cB, 12000, .inl (b8 d_f))), (hk, .inl (cI, 60, .inl h_k)), (hs, .inl (cI, 61, .inl h_s)), (hu, .inl (cI, 40, .inl h_u)), (hn, .inl (cJ, 40, .inr (.inl h_n))), (hg, .inl (cI, 40, .inl h_g)), (j, .inr (1, [.ref jp, .int j_c, .int j_a])), (jp, .inl (cI, 60, .inl j_p))] z 0 0) [(x, .inr (5, [.ref t, .ref o, .ref h, .ref j, .int x_p])), (t, .inr (4, [.ref tb, .int t_l])), (tb, .inl (cB, 6000, .inl (b8 t_f))), (o, .inr (4, [.ref ob, .int o_l])), (ob, .inl (cB, 13044, .inl (b8 o_f))), (h, .inr (0, [.ref d, .ref hk, .ref hs, .int h_c, .ref hu, .ref hn, .ref hg, .int h_e])), (d, .inr (4, [.ref db, .int d_l])), (db, .inl (cB, 12000, .inl (b8 d_f))), (hk, .inl (cI, 60, .inl h_k)), (hs, .inl (cI, 61, .inl h_s)), (hu, .inl (cI, 40, .inl h_u)), (hn, .inl (cJ, 40, .inr (.inl h_n))), (hg, .inl (cI, 40, .inl h_g)), (j, .inr (1, [.ref jp, .int j_c, .int j_a])), (jp, .inl (cI, 60, .inl j_p))] 0 0 0 [(0, .ref x)] []
  refine J_aload_n O (i := 0) (k0 := 0) (pc := 0) 0 rfl rfl dX9_place_0 ?_
  refine J_get O (pc := 1) in_X9_place_X9 0 rfl rfl 4 (by decide) mb_X9_place_1 rfl dX9_place_1 ?_
  have e9 := Option.some.inj hf
  subst e9
  exact J_iret O (pc := 4) rfl dX9_place_4
theorem in_X9_told_X9 : ∀ w ∈ u_ws RX9 TX9 5, w ∈ wsX9_told := fun _ h => List.mem_cons_of_mem _ (List.mem_append_left _ (List.mem_append_left _ (List.mem_append_right _ h)))
theorem mb_X9_told_1 : Cond.fieldLink RX9 24 (TX9 2).1 (TX9 2).2.1 (TX9 2).2.2.1 ∈ wsX9_told := by decide +kernel
theorem in_X9_told_X0 : ∀ w ∈ u_ws RX0 TX0 8, w ∈ wsX9_told := fun _ h => List.mem_cons_of_mem _ (List.mem_append_left _ (List.mem_append_right _ h))
theorem mb_X9_told_3 : Cond.fieldLink RX9 68 (TX0 3).1 (TX0 3).2.1 (TX0 3).2.2.1 ∈ wsX9_told := by decide +kernel
theorem mb_X9_told_4 : Cond.fieldLink RX9 71 (TX0 7).1 (TX0 7).2.1 (TX0 7).2.2.1 ∈ wsX9_told := by decide +kernel
theorem mb_X9_told_5 : Cond.fieldLink RX9 74 (TX0 0).1 (TX0 0).2.1 (TX0 0).2.2.1 ∈ wsX9_told := by decide +kernel
theorem in_X9_told_X6 : ∀ w ∈ u_ws RX6 TX6 2, w ∈ wsX9_told := fun _ h => List.mem_cons_of_mem _ (List.mem_append_right _ h)
theorem mb_X9_told_7 : Cond.fieldLink RX9 47 (TX6 1).1 (TX6 1).2.1 (TX6 1).2.2.1 ∈ wsX9_told := by decide +kernel
theorem mb_X9_told_8 : Cond.fieldLink RX9 14 (TX9 0).1 (TX9 0).2.1 (TX9 0).2.2.1 ∈ wsX9_told := by decide +kernel
theorem mb_X9_told_9 : Cond.fieldLink RX9 18 (TX9 1).1 (TX9 1).2.1 (TX9 1).2.2.1 ∈ wsX9_told := by decide +kernel
abbrev rmX9_told : Room := { frames := 0, cells := 0, slots := 0, locals := 0 }
set_option maxHeartbeats 4000000 in
set_option maxRecDepth 100000 in
theorem c_X9_told (l : Launch) (D : va_G) (cB cI cJ : ClassId) (x t tb o ob h d db hk hs hu hn hg j jp : Nat) (x_p : Int32) (t_l : Int32) (t_f : Nat → Int8) (o_l : Int32) (o_f : Nat → Int8) (h_c : Int32) (h_e : Int32) (d_l : Int32) (d_f : Nat → Int8) (h_k : Nat → Int32) (h_s : Nat → Int32) (h_u : Nat → Int32) (h_n : Nat → Int64) (h_g : Nat → Int32) (j_c : Int32) (j_a : Int32) (j_p : Nat → Int32) (a1 : Int32) {z : Int32} (hf : p_X9_told t_l o_l h_c h_e d_l a1 = some z) : Ci (l, D, cB, cI, cJ) yX9_told wsX9_told rmX9_told [.ref x, .int a1] [(x, .inr (5, [.ref t, .ref o, .ref h, .ref j, .int x_p])), (t, .inr (4, [.ref tb, .int t_l])), (tb, .inl (cB, 6000, .inl (b8 t_f))), (o, .inr (4, [.ref ob, .int o_l])), (ob, .inl (cB, 13044, .inl (b8 o_f))), (h, .inr (0, [.ref d, .ref hk, .ref hs, .int h_c, .ref hu, .ref hn, .ref hg, .int h_e])), (d, .inr (4, [.ref db, .int d_l])), (db, .inl (cB, 12000, .inl (b8 d_f))), (hk, .inl (cI, 60, .inl h_k)), (hs, .inl (cI, 61, .inl h_s)), (hu, .inl (cI, 40, .inl h_u)), (hn, .inl (cJ, 40, .inr (.inl h_n))), (hg, .inl (cI, 40, .inl h_g)), (j, .inr (1, [.ref jp, .int j_c, .int j_a])), (jp, .inl (cI, 60, .inl j_p))] [(x, .inr (5, [.ref t, .ref o, .ref h, .ref j, .int x_p])), (t, .inr (4, [.ref tb, .int t_l])), (tb, .inl (cB, 6000, .inl (b8 t_f))), (o, .inr (4, [.ref ob, .int o_l])), (ob, .inl (cB, 13044, .inl (b8 o_f))), (h, .inr (0, [.ref d, .ref hk, .ref hs, .int h_c, .ref hu, .ref hn, .ref hg, .int h_e])), (d, .inr (4, [.ref db, .int d_l])), (db, .inl (cB, 12000, .inl (b8 d_f))), (hk, .inl (cI, 60, .inl h_k)), (hs, .inl (cI, 61, .inl h_s)), (hu, .inl (cI, 40, .inl h_u)), (hn, .inl (cJ, 40, .inr (.inl h_n))), (hg, .inl (cI, 40, .inl h_g)), (j, .inr (1, [.ref jp, .int j_c, .int j_a])), (jp, .inl (cI, 60, .inl j_p))] z := by
  refine Ci_of (cc := cX9_told) (nL := 2) (own := RX9) (ret := (some .int)) (by decide) rfl rfl (Nat.le_of_ble_eq_true rfl) (fun X O hnm0 => ?_)
  rw [p_X9_told] at hf
  show J X 2 (JQi X [(x, .inr (5, [.ref t, .ref o, .ref h, .ref j, .int x_p])), (t, .inr (4, [.ref tb, .int t_l])), (tb, .inl (cB, 6000, .inl (b8 t_f))), (o, .inr (4, [.ref ob, .int o_l])), (ob, .inl (cB, 13044, .inl (b8 o_f))), (h, .inr (0, [.ref d, .ref hk, .ref hs, .int h_c, .ref hu, .ref hn, .ref hg, .int h_e])), (d, .inr (4, [.ref db, .int d_l])), (db, .inl (cB, 12000, .inl (b8 d_f))), (hk, .inl (cI, 60, .inl h_k)), (hs, .inl (cI, 61, .inl h_s)), (hu, .inl (cI, 40, .inl h_u)), (hn, .inl (cJ, 40, .inr (.inl h_n))), (hg, .inl (cI, 40, .inl h_g)), (j, .inr (1, [.ref jp, .int j_c, .int j_a])), (jp, .inl (cI, 60, .inl j_p))] z 0 0) [(x, .inr (5, [.ref t, .ref o, .ref h, .ref j, .int x_p])), (t, .inr (4, [.ref tb, .int t_l])), (tb, .inl (cB, 6000, .inl (b8 t_f))), (o, .inr (4, [.ref ob, .int o_l])), (ob, .inl (cB, 13044, .inl (b8 o_f))), (h, .inr (0, [.ref d, .ref hk, .ref hs, .int h_c, .ref hu, .ref hn, .ref hg, .int h_e])), (d, .inr (4, [.ref db, .int d_l])), (db, .inl (cB, 12000, .inl (b8 d_f))), (hk, .inl (cI, 60, .inl h_k)), (hs, .inl (cI, 61, .inl h_s)), (hu, .inl (cI, 40, .inl h_u)), (hn, .inl (cJ, 40, .inr (.inl h_n))), (hg, .inl (cI, 40, .inl h_g)), (j, .inr (1, [.ref jp, .int j_c, .int j_a])), (jp, .inl (cI, 60, .inl j_p))] 0 0 0 [(0, .ref x), (1, .int a1)] []
  refine J_iload_n O (i := 1) (k0 := 1) (pc := 0) 1 rfl rfl dX9_told_0 ?_
  by_cases c1_0 : a1 = 0
  · have hf := jt_t c1_0 hf
    refine J_tabK O (tgt := 36) (off := 35) (pc := 1) 0 c1_0 (by decide) (by decide) (by decide) dX9_told_1 (by decide) ?_
    refine J_aload_n O (i := 0) (k0 := 0) (pc := 36) 0 rfl rfl dX9_told_36 ?_
    refine J_get O (pc := 37) in_X9_told_X9 0 rfl rfl 2 (by decide) mb_X9_told_1 rfl dX9_told_37 ?_
    refine J_get O (pc := 40) in_X9_told_X0 5 rfl rfl 3 (by decide) mb_X9_told_3 rfl dX9_told_40 ?_
    have e9 := Option.some.inj hf
    subst e9
    exact J_iret O (pc := 43) rfl dX9_told_43
  · have hf := jt_f c1_0 hf
    by_cases c1_1 : a1 = 1
    · have hf := jt_t c1_1 hf
      refine J_tabK O (tgt := 44) (off := 43) (pc := 1) 1 c1_1 (by decide) (by decide) (by decide) dX9_told_1 (by decide) ?_
      refine J_aload_n O (i := 0) (k0 := 0) (pc := 44) 0 rfl rfl dX9_told_44 ?_
      refine J_get O (pc := 45) in_X9_told_X9 0 rfl rfl 2 (by decide) mb_X9_told_1 rfl dX9_told_45 ?_
      refine J_get O (pc := 48) in_X9_told_X0 5 rfl rfl 7 (by decide) mb_X9_told_4 rfl dX9_told_48 ?_
      have e9 := Option.some.inj hf
      subst e9
      exact J_iret O (pc := 51) rfl dX9_told_51
    · have hf := jt_f c1_1 hf
      by_cases c1_2 : a1 = 2
      · have hf := jt_t c1_2 hf
        refine J_tabK O (tgt := 52) (off := 51) (pc := 1) 2 c1_2 (by decide) (by decide) (by decide) dX9_told_1 (by decide) ?_
        refine J_aload_n O (i := 0) (k0 := 0) (pc := 52) 0 rfl rfl dX9_told_52 ?_
        refine J_get O (pc := 53) in_X9_told_X9 0 rfl rfl 2 (by decide) mb_X9_told_1 rfl dX9_told_53 ?_
        refine J_get O (pc := 56) in_X9_told_X0 5 rfl rfl 0 (by decide) mb_X9_told_5 rfl dX9_told_56 ?_
        refine J_get O (pc := 59) in_X9_told_X6 6 rfl rfl 1 (by decide) mb_X9_told_7 rfl dX9_told_59 ?_
        have e9 := Option.some.inj hf
        subst e9
        exact J_iret O (pc := 62) rfl dX9_told_62
      · have hf := jt_f c1_2 hf
        by_cases c1_3 : a1 = 3
        · have hf := jt_t c1_3 hf
          refine J_tabK O (tgt := 63) (off := 62) (pc := 1) 3 c1_3 (by decide) (by decide) (by decide) dX9_told_1 (by decide) ?_
          refine J_aload_n O (i := 0) (k0 := 0) (pc := 63) 0 rfl rfl dX9_told_63 ?_
          refine J_get O (pc := 64) in_X9_told_X9 0 rfl rfl 0 (by decide) mb_X9_told_8 rfl dX9_told_64 ?_
          refine J_get O (pc := 67) in_X9_told_X6 1 rfl rfl 1 (by decide) mb_X9_told_7 rfl dX9_told_67 ?_
          have e9 := Option.some.inj hf
          subst e9
          exact J_iret O (pc := 70) rfl dX9_told_70
        · have hf := jt_f c1_3 hf
          by_cases c1_4 : a1 = 4
          · have hf := jt_t c1_4 hf
            refine J_tabK O (tgt := 71) (off := 70) (pc := 1) 4 c1_4 (by decide) (by decide) (by decide) dX9_told_1 (by decide) ?_
            refine J_aload_n O (i := 0) (k0 := 0) (pc := 71) 0 rfl rfl dX9_told_71 ?_
            refine J_get O (pc := 72) in_X9_told_X9 0 rfl rfl 1 (by decide) mb_X9_told_9 rfl dX9_told_72 ?_
            refine J_get O (pc := 75) in_X9_told_X6 3 rfl rfl 1 (by decide) mb_X9_told_7 rfl dX9_told_75 ?_
            have e9 := Option.some.inj hf
            subst e9
            exact J_iret O (pc := 78) rfl dX9_told_78
          · have hf := jt_f c1_4 hf
            refine J_tabOut O (tgt := 79) (pc := 1) 5 (fun j hj => match j, hj with | 0, _ => c1_0 | 1, _ => c1_1 | 2, _ => c1_2 | 3, _ => c1_3 | 4, _ => c1_4 | (j + 5), hj => absurd hj (by omega)) (by decide) (by decide) dX9_told_1 (by decide) ?_
            refine J_iconst O (v := (-1)) (pc := 79) (by decide) dX9_told_79 ?_
            have e9 := Option.some.inj hf
            subst e9
            exact J_iret O (pc := 80) rfl dX9_told_80
theorem in_X9_chunk_X9 : ∀ w ∈ u_ws RX9 TX9 5, w ∈ wsX9_chunk := fun _ h => List.mem_cons_of_mem _ (List.mem_append_left _ (List.mem_append_right _ h))
theorem mb_X9_chunk_1 : Cond.fieldLink RX9 24 (TX9 2).1 (TX9 2).2.1 (TX9 2).2.2.1 ∈ wsX9_chunk := by decide +kernel
theorem hdV_X0_meaningsOf : yX0_meaningsOf.cls = RX0 ∧ yX0_meaningsOf.cls ≠ "java/lang/invoke/MethodHandle" ∧ yX0_meaningsOf.cls ≠ "java/lang/invoke/VarHandle" ∧ (parseMethodDescriptor yX0_meaningsOf.desc).map (fun d => d.parameters.length) = some 1 := by decide +kernel
abbrev rmX9_chunk : Room := { frames := 3, cells := 0, slots := 0, locals := 65 }
set_option maxHeartbeats 4000000 in
set_option maxRecDepth 100000 in
theorem c_X9_chunk (l : Launch) (D : va_G) (cB cI cJ : ClassId) (x t tb o ob h d db hk hs hu hn hg j jp : Nat) (x_p : Int32) (t_l : Int32) (t_f : Nat → Int8) (o_l : Int32) (o_f : Nat → Int8) (h_c : Int32) (h_e : Int32) (d_l : Int32) (d_f : Nat → Int8) (h_k : Nat → Int32) (h_s : Nat → Int32) (h_u : Nat → Int32) (h_n : Nat → Int64) (h_g : Nat → Int32) (j_c : Int32) (j_a : Int32) (j_p : Nat → Int32) (a1 : Int32) (a2 : Int32) (fu : Nat) {z : Int32} (hf : p_X9_chunk fu h_c h_e h_k h_s h_g a1 a2 = some z) : Ci (l, D, cB, cI, cJ) yX9_chunk wsX9_chunk rmX9_chunk [.ref x, .int a1, .int a2] [(x, .inr (5, [.ref t, .ref o, .ref h, .ref j, .int x_p])), (t, .inr (4, [.ref tb, .int t_l])), (tb, .inl (cB, 6000, .inl (b8 t_f))), (o, .inr (4, [.ref ob, .int o_l])), (ob, .inl (cB, 13044, .inl (b8 o_f))), (h, .inr (0, [.ref d, .ref hk, .ref hs, .int h_c, .ref hu, .ref hn, .ref hg, .int h_e])), (d, .inr (4, [.ref db, .int d_l])), (db, .inl (cB, 12000, .inl (b8 d_f))), (hk, .inl (cI, 60, .inl h_k)), (hs, .inl (cI, 61, .inl h_s)), (hu, .inl (cI, 40, .inl h_u)), (hn, .inl (cJ, 40, .inr (.inl h_n))), (hg, .inl (cI, 40, .inl h_g)), (j, .inr (1, [.ref jp, .int j_c, .int j_a])), (jp, .inl (cI, 60, .inl j_p))] [(x, .inr (5, [.ref t, .ref o, .ref h, .ref j, .int x_p])), (t, .inr (4, [.ref tb, .int t_l])), (tb, .inl (cB, 6000, .inl (b8 t_f))), (o, .inr (4, [.ref ob, .int o_l])), (ob, .inl (cB, 13044, .inl (b8 o_f))), (h, .inr (0, [.ref d, .ref hk, .ref hs, .int h_c, .ref hu, .ref hn, .ref hg, .int h_e])), (d, .inr (4, [.ref db, .int d_l])), (db, .inl (cB, 12000, .inl (b8 d_f))), (hk, .inl (cI, 60, .inl h_k)), (hs, .inl (cI, 61, .inl h_s)), (hu, .inl (cI, 40, .inl h_u)), (hn, .inl (cJ, 40, .inr (.inl h_n))), (hg, .inl (cI, 40, .inl h_g)), (j, .inr (1, [.ref jp, .int j_c, .int j_a])), (jp, .inl (cI, 60, .inl j_p))] z := by
  refine Ci_of (cc := cX9_chunk) (nL := 3) (own := RX9) (ret := (some .int)) (by decide) rfl rfl (Nat.le_of_ble_eq_true rfl) (fun X O hnm0 => ?_)
  rw [p_X9_chunk] at hf
  show J X 3 (JQi X [(x, .inr (5, [.ref t, .ref o, .ref h, .ref j, .int x_p])), (t, .inr (4, [.ref tb, .int t_l])), (tb, .inl (cB, 6000, .inl (b8 t_f))), (o, .inr (4, [.ref ob, .int o_l])), (ob, .inl (cB, 13044, .inl (b8 o_f))), (h, .inr (0, [.ref d, .ref hk, .ref hs, .int h_c, .ref hu, .ref hn, .ref hg, .int h_e])), (d, .inr (4, [.ref db, .int d_l])), (db, .inl (cB, 12000, .inl (b8 d_f))), (hk, .inl (cI, 60, .inl h_k)), (hs, .inl (cI, 61, .inl h_s)), (hu, .inl (cI, 40, .inl h_u)), (hn, .inl (cJ, 40, .inr (.inl h_n))), (hg, .inl (cI, 40, .inl h_g)), (j, .inr (1, [.ref jp, .int j_c, .int j_a])), (jp, .inl (cI, 60, .inl j_p))] z 0 0) [(x, .inr (5, [.ref t, .ref o, .ref h, .ref j, .int x_p])), (t, .inr (4, [.ref tb, .int t_l])), (tb, .inl (cB, 6000, .inl (b8 t_f))), (o, .inr (4, [.ref ob, .int o_l])), (ob, .inl (cB, 13044, .inl (b8 o_f))), (h, .inr (0, [.ref d, .ref hk, .ref hs, .int h_c, .ref hu, .ref hn, .ref hg, .int h_e])), (d, .inr (4, [.ref db, .int d_l])), (db, .inl (cB, 12000, .inl (b8 d_f))), (hk, .inl (cI, 60, .inl h_k)), (hs, .inl (cI, 61, .inl h_s)), (hu, .inl (cI, 40, .inl h_u)), (hn, .inl (cJ, 40, .inr (.inl h_n))), (hg, .inl (cI, 40, .inl h_g)), (j, .inr (1, [.ref jp, .int j_c, .int j_a])), (jp, .inl (cI, 60, .inl j_p))] 0 0 0 [(0, .ref x), (1, .int a1), (2, .int a2)] []
  refine J_aload_n O (i := 0) (k0 := 0) (pc := 0) 0 rfl rfl dX9_chunk_0 ?_
  refine J_get O (pc := 1) in_X9_chunk_X9 0 rfl rfl 2 (by decide) mb_X9_chunk_1 rfl dX9_chunk_1 ?_
  refine J_iload_n O (i := 1) (k0 := 1) (pc := 4) 1 rfl rfl dX9_chunk_4 ?_
  obtain ⟨z5, h5, hf⟩ := jt_b hf
  refine J_callVi O (pc := 5) (c_X0_hasChunk l D cB cI cJ h d db hk hs hu hn hg h_c h_e d_l d_f h_k h_s h_u h_n h_g a1 h5) rfl 0 rfl rfl gX9_chunk_X0_hasChunk hdV_X0_hasChunk ⟨(Nat.le_of_ble_eq_true rfl), (Nat.le_of_ble_eq_true rfl)⟩ rfl (st := []) rfl (Nat.le_of_ble_eq_true rfl) [5, 6, 7, 8, 9, 10, 11, 12] [0, 1, 2, 3, 4, 13, 14] rfl rfl rfl rfl rfl (by decide) [(x, .inr (5, [.ref t, .ref o, .ref h, .ref j, .int x_p])), (t, .inr (4, [.ref tb, .int t_l])), (tb, .inl (cB, 6000, .inl (b8 t_f))), (o, .inr (4, [.ref ob, .int o_l])), (ob, .inl (cB, 13044, .inl (b8 o_f))), (h, .inr (0, [.ref d, .ref hk, .ref hs, .int h_c, .ref hu, .ref hn, .ref hg, .int h_e])), (d, .inr (4, [.ref db, .int d_l])), (db, .inl (cB, 12000, .inl (b8 d_f))), (hk, .inl (cI, 60, .inl h_k)), (hs, .inl (cI, 61, .inl h_s)), (hu, .inl (cI, 40, .inl h_u)), (hn, .inl (cJ, 40, .inr (.inl h_n))), (hg, .inl (cI, 40, .inl h_g)), (j, .inr (1, [.ref jp, .int j_c, .int j_a])), (jp, .inl (cI, 60, .inl j_p))] [0, 1, 2, 3, 4, 7, 8, 9, 10, 11, 12, 13, 14, 5, 6] rfl rfl rfl (0) (0) (Nat.le_of_ble_eq_true rfl) (Nat.le_of_ble_eq_true rfl) ⟨(Nat.le_of_ble_eq_true rfl), (Nat.le_of_ble_eq_true rfl)⟩ dX9_chunk_5 ?_
  refine J_zne O (tgt := 13) (pc := 8) dX9_chunk_8 (by decide) (fun c8 => ?_) (fun c8 => ?_)
  · have hf := jt_t c8 hf
    refine J_iload_n O (i := 2) (k0 := 2) (pc := 13) 2 rfl rfl dX9_chunk_13 ?_
    by_cases c14_0 : a2 = 0
    · have hf := jt_t c14_0 hf
      refine J_tabK O (tgt := 44) (off := 30) (pc := 14) 0 c14_0 (by decide) (by decide) (by decide) dX9_chunk_14 (by decide) ?_
      refine J_aload_n O (i := 0) (k0 := 0) (pc := 44) 0 rfl rfl dX9_chunk_44 ?_
      refine J_get O (pc := 45) in_X9_chunk_X9 0 rfl rfl 2 (by decide) mb_X9_chunk_1 rfl dX9_chunk_45 ?_
      refine J_iload_n O (i := 1) (k0 := 1) (pc := 48) 1 rfl rfl dX9_chunk_48 ?_
      obtain ⟨z49, h49, hf⟩ := jt_b hf
      refine J_callVi O (pc := 49) (c_X0_kindOf l D cB cI cJ h d db hk hs hu hn hg h_c h_e d_l d_f h_k h_s h_u h_n h_g a1 h49) rfl 0 rfl rfl gX9_chunk_X0_kindOf hdV_X0_kindOf ⟨(Nat.le_of_ble_eq_true rfl), (Nat.le_of_ble_eq_true rfl)⟩ rfl (st := []) rfl (Nat.le_of_ble_eq_true rfl) [5, 6, 7, 8, 9, 10, 11, 12] [0, 1, 2, 3, 4, 13, 14] rfl rfl rfl rfl rfl (by decide) [(x, .inr (5, [.ref t, .ref o, .ref h, .ref j, .int x_p])), (t, .inr (4, [.ref tb, .int t_l])), (tb, .inl (cB, 6000, .inl (b8 t_f))), (o, .inr (4, [.ref ob, .int o_l])), (ob, .inl (cB, 13044, .inl (b8 o_f))), (h, .inr (0, [.ref d, .ref hk, .ref hs, .int h_c, .ref hu, .ref hn, .ref hg, .int h_e])), (d, .inr (4, [.ref db, .int d_l])), (db, .inl (cB, 12000, .inl (b8 d_f))), (hk, .inl (cI, 60, .inl h_k)), (hs, .inl (cI, 61, .inl h_s)), (hu, .inl (cI, 40, .inl h_u)), (hn, .inl (cJ, 40, .inr (.inl h_n))), (hg, .inl (cI, 40, .inl h_g)), (j, .inr (1, [.ref jp, .int j_c, .int j_a])), (jp, .inl (cI, 60, .inl j_p))] [0, 1, 2, 3, 4, 7, 8, 9, 10, 11, 12, 13, 14, 5, 6] rfl rfl rfl (0) (0) (Nat.le_of_ble_eq_true rfl) (Nat.le_of_ble_eq_true rfl) ⟨(Nat.le_of_ble_eq_true rfl), (Nat.le_of_ble_eq_true rfl)⟩ dX9_chunk_49 ?_
      have e9 := Option.some.inj hf
      subst e9
      exact J_iret O (pc := 52) rfl dX9_chunk_52
    · have hf := jt_f c14_0 hf
      by_cases c14_1 : a2 = 1
      · have hf := jt_t c14_1 hf
        refine J_tabK O (tgt := 53) (off := 39) (pc := 14) 1 c14_1 (by decide) (by decide) (by decide) dX9_chunk_14 (by decide) ?_
        refine J_aload_n O (i := 0) (k0 := 0) (pc := 53) 0 rfl rfl dX9_chunk_53 ?_
        refine J_get O (pc := 54) in_X9_chunk_X9 0 rfl rfl 2 (by decide) mb_X9_chunk_1 rfl dX9_chunk_54 ?_
        refine J_iload_n O (i := 1) (k0 := 1) (pc := 57) 1 rfl rfl dX9_chunk_57 ?_
        obtain ⟨z58, h58, hf⟩ := jt_b hf
        refine J_callVi O (pc := 58) (c_X0_lengthOf l D cB cI cJ h d db hk hs hu hn hg h_c h_e d_l d_f h_k h_s h_u h_n h_g a1 h58) rfl 0 rfl rfl gX9_chunk_X0_lengthOf hdV_X0_lengthOf ⟨(Nat.le_of_ble_eq_true rfl), (Nat.le_of_ble_eq_true rfl)⟩ rfl (st := []) rfl (Nat.le_of_ble_eq_true rfl) [5, 6, 7, 8, 9, 10, 11, 12] [0, 1, 2, 3, 4, 13, 14] rfl rfl rfl rfl rfl (by decide) [(x, .inr (5, [.ref t, .ref o, .ref h, .ref j, .int x_p])), (t, .inr (4, [.ref tb, .int t_l])), (tb, .inl (cB, 6000, .inl (b8 t_f))), (o, .inr (4, [.ref ob, .int o_l])), (ob, .inl (cB, 13044, .inl (b8 o_f))), (h, .inr (0, [.ref d, .ref hk, .ref hs, .int h_c, .ref hu, .ref hn, .ref hg, .int h_e])), (d, .inr (4, [.ref db, .int d_l])), (db, .inl (cB, 12000, .inl (b8 d_f))), (hk, .inl (cI, 60, .inl h_k)), (hs, .inl (cI, 61, .inl h_s)), (hu, .inl (cI, 40, .inl h_u)), (hn, .inl (cJ, 40, .inr (.inl h_n))), (hg, .inl (cI, 40, .inl h_g)), (j, .inr (1, [.ref jp, .int j_c, .int j_a])), (jp, .inl (cI, 60, .inl j_p))] [0, 1, 2, 3, 4, 7, 8, 9, 10, 11, 12, 13, 14, 5, 6] rfl rfl rfl (0) (0) (Nat.le_of_ble_eq_true rfl) (Nat.le_of_ble_eq_true rfl) ⟨(Nat.le_of_ble_eq_true rfl), (Nat.le_of_ble_eq_true rfl)⟩ dX9_chunk_58 ?_
        have e9 := Option.some.inj hf
        subst e9
        exact J_iret O (pc := 61) rfl dX9_chunk_61
      · have hf := jt_f c14_1 hf
        by_cases c14_2 : a2 = 2
        · have hf := jt_t c14_2 hf
          refine J_tabK O (tgt := 62) (off := 48) (pc := 14) 2 c14_2 (by decide) (by decide) (by decide) dX9_chunk_14 (by decide) ?_
          refine J_aload_n O (i := 0) (k0 := 0) (pc := 62) 0 rfl rfl dX9_chunk_62 ?_
          refine J_get O (pc := 63) in_X9_chunk_X9 0 rfl rfl 2 (by decide) mb_X9_chunk_1 rfl dX9_chunk_63 ?_
          refine J_iload_n O (i := 1) (k0 := 1) (pc := 66) 1 rfl rfl dX9_chunk_66 ?_
          obtain ⟨z67, h67, hf⟩ := jt_b hf
          refine J_callVi O (pc := 67) (c_X0_placeOf l D cB cI cJ h d db hk hs hu hn hg h_c h_e d_l d_f h_k h_s h_u h_n h_g a1 fu h67) rfl 0 rfl rfl gX9_chunk_X0_placeOf hdV_X0_placeOf ⟨(Nat.le_of_ble_eq_true rfl), (Nat.le_of_ble_eq_true rfl)⟩ rfl (st := []) rfl (Nat.le_of_ble_eq_true rfl) [5, 6, 7, 8, 9, 10, 11, 12] [0, 1, 2, 3, 4, 13, 14] rfl rfl rfl rfl rfl (by decide) [(x, .inr (5, [.ref t, .ref o, .ref h, .ref j, .int x_p])), (t, .inr (4, [.ref tb, .int t_l])), (tb, .inl (cB, 6000, .inl (b8 t_f))), (o, .inr (4, [.ref ob, .int o_l])), (ob, .inl (cB, 13044, .inl (b8 o_f))), (h, .inr (0, [.ref d, .ref hk, .ref hs, .int h_c, .ref hu, .ref hn, .ref hg, .int h_e])), (d, .inr (4, [.ref db, .int d_l])), (db, .inl (cB, 12000, .inl (b8 d_f))), (hk, .inl (cI, 60, .inl h_k)), (hs, .inl (cI, 61, .inl h_s)), (hu, .inl (cI, 40, .inl h_u)), (hn, .inl (cJ, 40, .inr (.inl h_n))), (hg, .inl (cI, 40, .inl h_g)), (j, .inr (1, [.ref jp, .int j_c, .int j_a])), (jp, .inl (cI, 60, .inl j_p))] [0, 1, 2, 3, 4, 7, 8, 9, 10, 11, 12, 13, 14, 5, 6] rfl rfl rfl (0) (0) (Nat.le_of_ble_eq_true rfl) (Nat.le_of_ble_eq_true rfl) ⟨(Nat.le_of_ble_eq_true rfl), (Nat.le_of_ble_eq_true rfl)⟩ dX9_chunk_67 ?_
          have e9 := Option.some.inj hf
          subst e9
          exact J_iret O (pc := 70) rfl dX9_chunk_70
        · have hf := jt_f c14_2 hf
          by_cases c14_3 : a2 = 3
          · have hf := jt_t c14_3 hf
            refine J_tabK O (tgt := 71) (off := 57) (pc := 14) 3 c14_3 (by decide) (by decide) (by decide) dX9_chunk_14 (by decide) ?_
            refine J_aload_n O (i := 0) (k0 := 0) (pc := 71) 0 rfl rfl dX9_chunk_71 ?_
            refine J_get O (pc := 72) in_X9_chunk_X9 0 rfl rfl 2 (by decide) mb_X9_chunk_1 rfl dX9_chunk_72 ?_
            refine J_iload_n O (i := 1) (k0 := 1) (pc := 75) 1 rfl rfl dX9_chunk_75 ?_
            obtain ⟨z76, h76, hf⟩ := jt_b hf
            refine J_callVi O (pc := 76) (c_X0_meaningsOf l D cB cI cJ h d db hk hs hu hn hg h_c h_e d_l d_f h_k h_s h_u h_n h_g a1 fu h76) rfl 0 rfl rfl gX9_chunk_X0_meaningsOf hdV_X0_meaningsOf ⟨(Nat.le_of_ble_eq_true rfl), (Nat.le_of_ble_eq_true rfl)⟩ rfl (st := []) rfl (Nat.le_of_ble_eq_true rfl) [5, 6, 7, 8, 9, 10, 11, 12] [0, 1, 2, 3, 4, 13, 14] rfl rfl rfl rfl rfl (by decide) [(x, .inr (5, [.ref t, .ref o, .ref h, .ref j, .int x_p])), (t, .inr (4, [.ref tb, .int t_l])), (tb, .inl (cB, 6000, .inl (b8 t_f))), (o, .inr (4, [.ref ob, .int o_l])), (ob, .inl (cB, 13044, .inl (b8 o_f))), (h, .inr (0, [.ref d, .ref hk, .ref hs, .int h_c, .ref hu, .ref hn, .ref hg, .int h_e])), (d, .inr (4, [.ref db, .int d_l])), (db, .inl (cB, 12000, .inl (b8 d_f))), (hk, .inl (cI, 60, .inl h_k)), (hs, .inl (cI, 61, .inl h_s)), (hu, .inl (cI, 40, .inl h_u)), (hn, .inl (cJ, 40, .inr (.inl h_n))), (hg, .inl (cI, 40, .inl h_g)), (j, .inr (1, [.ref jp, .int j_c, .int j_a])), (jp, .inl (cI, 60, .inl j_p))] [0, 1, 2, 3, 4, 7, 8, 9, 10, 11, 12, 13, 14, 5, 6] rfl rfl rfl (0) (0) (Nat.le_of_ble_eq_true rfl) (Nat.le_of_ble_eq_true rfl) ⟨(Nat.le_of_ble_eq_true rfl), (Nat.le_of_ble_eq_true rfl)⟩ dX9_chunk_76 ?_
            have e9 := Option.some.inj hf
            subst e9
            exact J_iret O (pc := 79) rfl dX9_chunk_79
          · have hf := jt_f c14_3 hf
            refine J_tabOut O (tgt := 80) (pc := 14) 4 (fun j hj => match j, hj with | 0, _ => c14_0 | 1, _ => c14_1 | 2, _ => c14_2 | 3, _ => c14_3 | (j + 4), hj => absurd hj (by omega)) (by decide) (by decide) dX9_chunk_14 (by decide) ?_
            refine J_iconst O (v := (-1)) (pc := 80) (by decide) dX9_chunk_80 ?_
            have e9 := Option.some.inj hf
            subst e9
            exact J_iret O (pc := 81) rfl dX9_chunk_81
  · have hf := jt_f c8 hf
    refine J_iconst O (v := (-1)) (pc := 11) (by decide) dX9_chunk_11 ?_
    have e9 := Option.some.inj hf
    subst e9
    exact J_iret O (pc := 12) rfl dX9_chunk_12
theorem in_X9_octet_X9 : ∀ w ∈ u_ws RX9 TX9 5, w ∈ wsX9_octet := fun _ h => List.mem_cons_of_mem _ (List.mem_append_left _ (List.mem_append_left _ (List.mem_append_left _ (List.mem_append_right _ h))))
theorem mb_X9_octet_1 : Cond.fieldLink RX9 24 (TX9 2).1 (TX9 2).2.1 (TX9 2).2.2.1 ∈ wsX9_octet := by decide +kernel
abbrev rmX9_octet : Room := { frames := 3, cells := 1, slots := 3, locals := 68 }
set_option maxHeartbeats 4000000 in
set_option maxRecDepth 100000 in
theorem c_X9_octet (l : Launch) (D : va_G) (cB cI cJ : ClassId) (x t tb o ob h d db hk hs hu hn hg j jp : Nat) (x_p : Int32) (t_l : Int32) (t_f : Nat → Int8) (o_l : Int32) (o_f : Nat → Int8) (h_c : Int32) (h_e : Int32) (d_l : Int32) (d_f : Nat → Int8) (h_k : Nat → Int32) (h_s : Nat → Int32) (h_u : Nat → Int32) (h_n : Nat → Int64) (h_g : Nat → Int32) (j_c : Int32) (j_a : Int32) (j_p : Nat → Int32) (a1 : Int32) (a2 : Int32) (fu : Nat) {z : Int32} (hf : p_X9_octet fu h_c d_l d_f h_s a1 a2 = some z) : Ci (l, D, cB, cI, cJ) yX9_octet wsX9_octet rmX9_octet [.ref x, .int a1, .int a2] [(x, .inr (5, [.ref t, .ref o, .ref h, .ref j, .int x_p])), (t, .inr (4, [.ref tb, .int t_l])), (tb, .inl (cB, 6000, .inl (b8 t_f))), (o, .inr (4, [.ref ob, .int o_l])), (ob, .inl (cB, 13044, .inl (b8 o_f))), (h, .inr (0, [.ref d, .ref hk, .ref hs, .int h_c, .ref hu, .ref hn, .ref hg, .int h_e])), (d, .inr (4, [.ref db, .int d_l])), (db, .inl (cB, 12000, .inl (b8 d_f))), (hk, .inl (cI, 60, .inl h_k)), (hs, .inl (cI, 61, .inl h_s)), (hu, .inl (cI, 40, .inl h_u)), (hn, .inl (cJ, 40, .inr (.inl h_n))), (hg, .inl (cI, 40, .inl h_g)), (j, .inr (1, [.ref jp, .int j_c, .int j_a])), (jp, .inl (cI, 60, .inl j_p))] [(x, .inr (5, [.ref t, .ref o, .ref h, .ref j, .int x_p])), (t, .inr (4, [.ref tb, .int t_l])), (tb, .inl (cB, 6000, .inl (b8 t_f))), (o, .inr (4, [.ref ob, .int o_l])), (ob, .inl (cB, 13044, .inl (b8 o_f))), (h, .inr (0, [.ref d, .ref hk, .ref hs, .int h_c, .ref hu, .ref hn, .ref hg, .int h_e])), (d, .inr (4, [.ref db, .int d_l])), (db, .inl (cB, 12000, .inl (b8 d_f))), (hk, .inl (cI, 60, .inl h_k)), (hs, .inl (cI, 61, .inl h_s)), (hu, .inl (cI, 40, .inl h_u)), (hn, .inl (cJ, 40, .inr (.inl h_n))), (hg, .inl (cI, 40, .inl h_g)), (j, .inr (1, [.ref jp, .int j_c, .int j_a])), (jp, .inl (cI, 60, .inl j_p))] z := by
  refine Ci_of (cc := cX9_octet) (nL := 4) (own := RX9) (ret := (some .int)) (by decide) rfl rfl (Nat.le_of_ble_eq_true rfl) (fun X O hnm0 => ?_)
  rw [p_X9_octet] at hf
  show J X 4 (JQi X [(x, .inr (5, [.ref t, .ref o, .ref h, .ref j, .int x_p])), (t, .inr (4, [.ref tb, .int t_l])), (tb, .inl (cB, 6000, .inl (b8 t_f))), (o, .inr (4, [.ref ob, .int o_l])), (ob, .inl (cB, 13044, .inl (b8 o_f))), (h, .inr (0, [.ref d, .ref hk, .ref hs, .int h_c, .ref hu, .ref hn, .ref hg, .int h_e])), (d, .inr (4, [.ref db, .int d_l])), (db, .inl (cB, 12000, .inl (b8 d_f))), (hk, .inl (cI, 60, .inl h_k)), (hs, .inl (cI, 61, .inl h_s)), (hu, .inl (cI, 40, .inl h_u)), (hn, .inl (cJ, 40, .inr (.inl h_n))), (hg, .inl (cI, 40, .inl h_g)), (j, .inr (1, [.ref jp, .int j_c, .int j_a])), (jp, .inl (cI, 60, .inl j_p))] z 1 3) [(x, .inr (5, [.ref t, .ref o, .ref h, .ref j, .int x_p])), (t, .inr (4, [.ref tb, .int t_l])), (tb, .inl (cB, 6000, .inl (b8 t_f))), (o, .inr (4, [.ref ob, .int o_l])), (ob, .inl (cB, 13044, .inl (b8 o_f))), (h, .inr (0, [.ref d, .ref hk, .ref hs, .int h_c, .ref hu, .ref hn, .ref hg, .int h_e])), (d, .inr (4, [.ref db, .int d_l])), (db, .inl (cB, 12000, .inl (b8 d_f))), (hk, .inl (cI, 60, .inl h_k)), (hs, .inl (cI, 61, .inl h_s)), (hu, .inl (cI, 40, .inl h_u)), (hn, .inl (cJ, 40, .inr (.inl h_n))), (hg, .inl (cI, 40, .inl h_g)), (j, .inr (1, [.ref jp, .int j_c, .int j_a])), (jp, .inl (cI, 60, .inl j_p))] 0 0 0 [(0, .ref x), (1, .int a1), (2, .int a2)] []
  refine J_aload_n O (i := 0) (k0 := 0) (pc := 0) 0 rfl rfl dX9_octet_0 ?_
  refine J_get O (pc := 1) in_X9_octet_X9 0 rfl rfl 2 (by decide) mb_X9_octet_1 rfl dX9_octet_1 ?_
  refine J_iload_n O (i := 1) (k0 := 1) (pc := 4) 1 rfl rfl dX9_octet_4 ?_
  obtain ⟨z5, h5, hf⟩ := jt_b hf
  refine J_callVr O (pc := 5) (c_X0_dataOf l D cB cI cJ h d db hk hs hu hn hg h_c h_e d_l d_f h_k h_s h_u h_n h_g a1 h5) rfl 0 rfl rfl gX9_octet_X0_dataOf hdV_X0_dataOf ⟨(Nat.le_of_ble_eq_true rfl), (Nat.le_of_ble_eq_true rfl)⟩ rfl (st := []) rfl (Nat.le_of_ble_eq_true rfl) [5, 6, 7, 8, 9, 10, 11, 12] [0, 1, 2, 3, 4, 13, 14] rfl rfl rfl rfl rfl (by decide) (fun q5 => [(x, .inr (5, [.ref t, .ref o, .ref h, .ref j, .int x_p])), (t, .inr (4, [.ref tb, .int t_l])), (tb, .inl (cB, 6000, .inl (b8 t_f))), (o, .inr (4, [.ref ob, .int o_l])), (ob, .inl (cB, 13044, .inl (b8 o_f))), (h, .inr (0, [.ref d, .ref hk, .ref hs, .int h_c, .ref hu, .ref hn, .ref hg, .int h_e])), (d, .inr (4, [.ref db, .int d_l])), (db, .inl (cB, 12000, .inl (b8 d_f))), (hk, .inl (cI, 60, .inl h_k)), (hs, .inl (cI, 61, .inl h_s)), (hu, .inl (cI, 40, .inl h_u)), (hn, .inl (cJ, 40, .inr (.inl h_n))), (hg, .inl (cI, 40, .inl h_g)), (j, .inr (1, [.ref jp, .int j_c, .int j_a])), (jp, .inl (cI, 60, .inl j_p)), (q5, .inr (2, [.ref d, .int z5.1, .int z5.2]))]) [0, 1, 2, 3, 4, 7, 8, 9, 10, 11, 12, 13, 14, 5, 6, 15] rfl (fun _ => rfl) (fun _ => rfl) (1) (3) (Nat.le_of_ble_eq_true rfl) (Nat.le_of_ble_eq_true rfl) ⟨(Nat.le_of_ble_eq_true rfl), (Nat.le_of_ble_eq_true rfl)⟩ dX9_octet_5 (fun q5 => ?_)
  refine J_astore_n O (i := 3) (k0 := 3) (pc := 8) rfl [(3, .ref q5), (0, .ref x), (1, .int a1), (2, .int a2)] (by decide) rfl dX9_octet_8 ?_
  refine J_aload_n O (i := 3) (k0 := 3) (pc := 9) 0 rfl rfl dX9_octet_9 ?_
  refine J_iload_n O (i := 2) (k0 := 2) (pc := 10) 3 rfl rfl dX9_octet_10 ?_
  refine J_iconst O (v := 1) (pc := 11) (by decide) dX9_octet_11 ?_
  obtain ⟨z12, h12, hf⟩ := jt_b hf
  refine J_callVi O (pc := 12) (c_X3_holds l D cB cI cJ q5 d db 12000 z5.1 z5.2 d_l d_f a2 1 h12) rfl 0 rfl rfl gX9_octet_X3_holds hdV_X3_holds ⟨(Nat.le_of_ble_eq_true rfl), (Nat.le_of_ble_eq_true rfl)⟩ rfl (st := []) rfl (Nat.le_of_ble_eq_true rfl) [15, 6, 7] [0, 1, 2, 3, 4, 5, 8, 9, 10, 11, 12, 13, 14] rfl rfl rfl rfl rfl (by decide) [(x, .inr (5, [.ref t, .ref o, .ref h, .ref j, .int x_p])), (t, .inr (4, [.ref tb, .int t_l])), (tb, .inl (cB, 6000, .inl (b8 t_f))), (o, .inr (4, [.ref ob, .int o_l])), (ob, .inl (cB, 13044, .inl (b8 o_f))), (h, .inr (0, [.ref d, .ref hk, .ref hs, .int h_c, .ref hu, .ref hn, .ref hg, .int h_e])), (d, .inr (4, [.ref db, .int d_l])), (db, .inl (cB, 12000, .inl (b8 d_f))), (hk, .inl (cI, 60, .inl h_k)), (hs, .inl (cI, 61, .inl h_s)), (hu, .inl (cI, 40, .inl h_u)), (hn, .inl (cJ, 40, .inr (.inl h_n))), (hg, .inl (cI, 40, .inl h_g)), (j, .inr (1, [.ref jp, .int j_c, .int j_a])), (jp, .inl (cI, 60, .inl j_p)), (q5, .inr (2, [.ref d, .int z5.1, .int z5.2]))] [0, 1, 2, 3, 4, 5, 14, 15, 6, 7, 8, 9, 10, 11, 12, 13] rfl rfl rfl (1) (3) (Nat.le_of_ble_eq_true rfl) (Nat.le_of_ble_eq_true rfl) ⟨(Nat.le_of_ble_eq_true rfl), (Nat.le_of_ble_eq_true rfl)⟩ dX9_octet_12 ?_
  refine J_zeq O (tgt := 26) (pc := 15) dX9_octet_15 (by decide) (fun c15 => ?_) (fun c15 => ?_)
  · have hf := jt_f c15 hf
    refine J_iconst O (v := (-1)) (pc := 26) (by decide) dX9_octet_26 ?_
    have e9 := Option.some.inj hf
    subst e9
    refine J_wsub [0, 1, 2, 3, 4, 5, 6, 7, 8, 9, 10, 11, 12, 13, 14] [(x, .inr (5, [.ref t, .ref o, .ref h, .ref j, .int x_p])), (t, .inr (4, [.ref tb, .int t_l])), (tb, .inl (cB, 6000, .inl (b8 t_f))), (o, .inr (4, [.ref ob, .int o_l])), (ob, .inl (cB, 13044, .inl (b8 o_f))), (h, .inr (0, [.ref d, .ref hk, .ref hs, .int h_c, .ref hu, .ref hn, .ref hg, .int h_e])), (d, .inr (4, [.ref db, .int d_l])), (db, .inl (cB, 12000, .inl (b8 d_f))), (hk, .inl (cI, 60, .inl h_k)), (hs, .inl (cI, 61, .inl h_s)), (hu, .inl (cI, 40, .inl h_u)), (hn, .inl (cJ, 40, .inr (.inl h_n))), (hg, .inl (cI, 40, .inl h_g)), (j, .inr (1, [.ref jp, .int j_c, .int j_a])), (jp, .inl (cI, 60, .inl j_p))] rfl rfl rfl ?_
    exact J_iret O (pc := 27) rfl dX9_octet_27
  · have hf := jt_t c15 hf
    refine J_aload_n O (i := 3) (k0 := 3) (pc := 18) 0 rfl rfl dX9_octet_18 ?_
    refine J_iload_n O (i := 2) (k0 := 2) (pc := 19) 3 rfl rfl dX9_octet_19 ?_
    obtain ⟨z20, h20, hf⟩ := jt_b hf
    refine J_callVi O (pc := 20) (c_X3_at l D cB cI cJ q5 d db 12000 z5.1 z5.2 d_l d_f a2 fu h20) rfl 0 rfl rfl gX9_octet_X3_at hdV_X3_at ⟨(Nat.le_of_ble_eq_true rfl), (Nat.le_of_ble_eq_true rfl)⟩ rfl (st := []) rfl (Nat.le_of_ble_eq_true rfl) [15, 6, 7] [0, 1, 2, 3, 4, 5, 8, 9, 10, 11, 12, 13, 14] rfl rfl rfl rfl rfl (by decide) [(x, .inr (5, [.ref t, .ref o, .ref h, .ref j, .int x_p])), (t, .inr (4, [.ref tb, .int t_l])), (tb, .inl (cB, 6000, .inl (b8 t_f))), (o, .inr (4, [.ref ob, .int o_l])), (ob, .inl (cB, 13044, .inl (b8 o_f))), (h, .inr (0, [.ref d, .ref hk, .ref hs, .int h_c, .ref hu, .ref hn, .ref hg, .int h_e])), (d, .inr (4, [.ref db, .int d_l])), (db, .inl (cB, 12000, .inl (b8 d_f))), (hk, .inl (cI, 60, .inl h_k)), (hs, .inl (cI, 61, .inl h_s)), (hu, .inl (cI, 40, .inl h_u)), (hn, .inl (cJ, 40, .inr (.inl h_n))), (hg, .inl (cI, 40, .inl h_g)), (j, .inr (1, [.ref jp, .int j_c, .int j_a])), (jp, .inl (cI, 60, .inl j_p)), (q5, .inr (2, [.ref d, .int z5.1, .int z5.2]))] [0, 1, 2, 3, 4, 5, 14, 15, 6, 7, 8, 9, 10, 11, 12, 13] rfl rfl rfl (1) (3) (Nat.le_of_ble_eq_true rfl) (Nat.le_of_ble_eq_true rfl) ⟨(Nat.le_of_ble_eq_true rfl), (Nat.le_of_ble_eq_true rfl)⟩ dX9_octet_20 ?_
    refine J_goto O (tgt := 27) (pc := 23) dX9_octet_23 (by decide) ?_
    have e9 := Option.some.inj hf
    subst e9
    refine J_wsub [0, 1, 2, 3, 4, 5, 6, 7, 8, 9, 10, 11, 12, 13, 14] [(x, .inr (5, [.ref t, .ref o, .ref h, .ref j, .int x_p])), (t, .inr (4, [.ref tb, .int t_l])), (tb, .inl (cB, 6000, .inl (b8 t_f))), (o, .inr (4, [.ref ob, .int o_l])), (ob, .inl (cB, 13044, .inl (b8 o_f))), (h, .inr (0, [.ref d, .ref hk, .ref hs, .int h_c, .ref hu, .ref hn, .ref hg, .int h_e])), (d, .inr (4, [.ref db, .int d_l])), (db, .inl (cB, 12000, .inl (b8 d_f))), (hk, .inl (cI, 60, .inl h_k)), (hs, .inl (cI, 61, .inl h_s)), (hu, .inl (cI, 40, .inl h_u)), (hn, .inl (cJ, 40, .inr (.inl h_n))), (hg, .inl (cI, 40, .inl h_g)), (j, .inr (1, [.ref jp, .int j_c, .int j_a])), (jp, .inl (cI, 60, .inl j_p))] rfl rfl rfl ?_
    exact J_iret O (pc := 27) rfl dX9_octet_27
