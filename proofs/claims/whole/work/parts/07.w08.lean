theorem in_X9_entry_X9 : ∀ w ∈ u_ws RX9 TX9 5, w ∈ wsX9_entry := fun _ h => List.mem_cons_of_mem _ (List.mem_append_left _ (List.mem_append_left _ (List.mem_append_left _ (List.mem_append_right _ h))))
theorem mb_X9_entry_1 : Cond.fieldLink RX9 24 (TX9 2).1 (TX9 2).2.1 (TX9 2).2.2.1 ∈ wsX9_entry := by decide +kernel
theorem in_X9_entry_X0 : ∀ w ∈ u_ws RX0 TX0 8, w ∈ wsX9_entry := fun _ h => List.mem_cons_of_mem _ (List.mem_append_left _ (List.mem_append_left _ (List.mem_append_right _ h)))
theorem mb_X9_entry_3 : Cond.fieldLink RX9 112 (TX0 4).1 (TX0 4).2.1 (TX0 4).2.2.1 ∈ wsX9_entry := by decide +kernel
theorem mb_X9_entry_4 : Cond.fieldLink RX9 116 (TX0 5).1 (TX0 5).2.1 (TX0 5).2.2.1 ∈ wsX9_entry := by decide +kernel
theorem mb_X9_entry_5 : Cond.fieldLink RX9 120 (TX0 6).1 (TX0 6).2.1 (TX0 6).2.2.1 ∈ wsX9_entry := by decide +kernel
theorem hdV_X0_goes : yX0_goes.cls = RX0 ∧ yX0_goes.cls ≠ "java/lang/invoke/MethodHandle" ∧ yX0_goes.cls ≠ "java/lang/invoke/VarHandle" ∧ (parseMethodDescriptor yX0_goes.desc).map (fun d => d.parameters.length) = some 1 := by decide +kernel
theorem mb_X9_entry_6 : Cond.constantLong RX9 110 (-1) ∈ wsX9_entry := by decide +kernel
abbrev rmX9_entry : Room := { frames := 5, cells := 1, slots := 3, locals := 112 }
set_option maxHeartbeats 4000000 in
set_option maxRecDepth 100000 in
theorem c_X9_entry (l : Launch) (D : va_G) (cB cI cJ : ClassId) (x t tb o ob h d db hk hs hu hn hg j jp : Nat) (x_p : Int32) (t_l : Int32) (t_f : Nat → Int8) (o_l : Int32) (o_f : Nat → Int8) (h_c : Int32) (h_e : Int32) (d_l : Int32) (d_f : Nat → Int8) (h_k : Nat → Int32) (h_s : Nat → Int32) (h_u : Nat → Int32) (h_n : Nat → Int64) (h_g : Nat → Int32) (j_c : Int32) (j_a : Int32) (j_p : Nat → Int32) (a1 : Int32) (a2 : Int32) (fu : Nat) {z : Int64} (hf : p_X9_entry fu h_c h_e d_l d_f h_k h_s h_u h_n h_g a1 a2 = some z) : Cl (l, D, cB, cI, cJ) yX9_entry wsX9_entry rmX9_entry [.ref x, .int a1, .int a2] [(x, .inr (5, [.ref t, .ref o, .ref h, .ref j, .int x_p])), (t, .inr (4, [.ref tb, .int t_l])), (tb, .inl (cB, 6000, .inl (b8 t_f))), (o, .inr (4, [.ref ob, .int o_l])), (ob, .inl (cB, 13044, .inl (b8 o_f))), (h, .inr (0, [.ref d, .ref hk, .ref hs, .int h_c, .ref hu, .ref hn, .ref hg, .int h_e])), (d, .inr (4, [.ref db, .int d_l])), (db, .inl (cB, 12000, .inl (b8 d_f))), (hk, .inl (cI, 60, .inl h_k)), (hs, .inl (cI, 61, .inl h_s)), (hu, .inl (cI, 40, .inl h_u)), (hn, .inl (cJ, 40, .inr (.inl h_n))), (hg, .inl (cI, 40, .inl h_g)), (j, .inr (1, [.ref jp, .int j_c, .int j_a])), (jp, .inl (cI, 60, .inl j_p))] [(x, .inr (5, [.ref t, .ref o, .ref h, .ref j, .int x_p])), (t, .inr (4, [.ref tb, .int t_l])), (tb, .inl (cB, 6000, .inl (b8 t_f))), (o, .inr (4, [.ref ob, .int o_l])), (ob, .inl (cB, 13044, .inl (b8 o_f))), (h, .inr (0, [.ref d, .ref hk, .ref hs, .int h_c, .ref hu, .ref hn, .ref hg, .int h_e])), (d, .inr (4, [.ref db, .int d_l])), (db, .inl (cB, 12000, .inl (b8 d_f))), (hk, .inl (cI, 60, .inl h_k)), (hs, .inl (cI, 61, .inl h_s)), (hu, .inl (cI, 40, .inl h_u)), (hn, .inl (cJ, 40, .inr (.inl h_n))), (hg, .inl (cI, 40, .inl h_g)), (j, .inr (1, [.ref jp, .int j_c, .int j_a])), (jp, .inl (cI, 60, .inl j_p))] z := by
  refine Cl_of (cc := cX9_entry) (nL := 3) (own := RX9) (ret := (some .long)) (by decide) rfl rfl (Nat.le_of_ble_eq_true rfl) (fun X O hnm0 => ?_)
  rw [p_X9_entry] at hf
  show J X 3 (JQl X [(x, .inr (5, [.ref t, .ref o, .ref h, .ref j, .int x_p])), (t, .inr (4, [.ref tb, .int t_l])), (tb, .inl (cB, 6000, .inl (b8 t_f))), (o, .inr (4, [.ref ob, .int o_l])), (ob, .inl (cB, 13044, .inl (b8 o_f))), (h, .inr (0, [.ref d, .ref hk, .ref hs, .int h_c, .ref hu, .ref hn, .ref hg, .int h_e])), (d, .inr (4, [.ref db, .int d_l])), (db, .inl (cB, 12000, .inl (b8 d_f))), (hk, .inl (cI, 60, .inl h_k)), (hs, .inl (cI, 61, .inl h_s)), (hu, .inl (cI, 40, .inl h_u)), (hn, .inl (cJ, 40, .inr (.inl h_n))), (hg, .inl (cI, 40, .inl h_g)), (j, .inr (1, [.ref jp, .int j_c, .int j_a])), (jp, .inl (cI, 60, .inl j_p))] z 1 3) [(x, .inr (5, [.ref t, .ref o, .ref h, .ref j, .int x_p])), (t, .inr (4, [.ref tb, .int t_l])), (tb, .inl (cB, 6000, .inl (b8 t_f))), (o, .inr (4, [.ref ob, .int o_l])), (ob, .inl (cB, 13044, .inl (b8 o_f))), (h, .inr (0, [.ref d, .ref hk, .ref hs, .int h_c, .ref hu, .ref hn, .ref hg, .int h_e])), (d, .inr (4, [.ref db, .int d_l])), (db, .inl (cB, 12000, .inl (b8 d_f))), (hk, .inl (cI, 60, .inl h_k)), (hs, .inl (cI, 61, .inl h_s)), (hu, .inl (cI, 40, .inl h_u)), (hn, .inl (cJ, 40, .inr (.inl h_n))), (hg, .inl (cI, 40, .inl h_g)), (j, .inr (1, [.ref jp, .int j_c, .int j_a])), (jp, .inl (cI, 60, .inl j_p))] 0 0 0 [(0, .ref x), (1, .int a1), (2, .int a2)] []
  refine J_aload_n O (i := 0) (k0 := 0) (pc := 0) 0 rfl rfl dX9_entry_0 ?_
  refine J_get O (pc := 1) in_X9_entry_X9 0 rfl rfl 2 (by decide) mb_X9_entry_1 rfl dX9_entry_1 ?_
  refine J_iload_n O (i := 1) (k0 := 1) (pc := 4) 1 rfl rfl dX9_entry_4 ?_
  obtain ⟨z5, h5, hf⟩ := jt_b hf
  refine J_callVi O (pc := 5) (c_X0_hasEntry l D cB cI cJ h d db hk hs hu hn hg h_c h_e d_l d_f h_k h_s h_u h_n h_g a1 h5) rfl 0 rfl rfl gX9_entry_X0_hasEntry hdV_X0_hasEntry ⟨(Nat.le_of_ble_eq_true rfl), (Nat.le_of_ble_eq_true rfl)⟩ rfl (st := []) rfl (Nat.le_of_ble_eq_true rfl) [5, 6, 7, 8, 9, 10, 11, 12] [0, 1, 2, 3, 4, 13, 14] rfl rfl rfl rfl rfl (by decide) [(x, .inr (5, [.ref t, .ref o, .ref h, .ref j, .int x_p])), (t, .inr (4, [.ref tb, .int t_l])), (tb, .inl (cB, 6000, .inl (b8 t_f))), (o, .inr (4, [.ref ob, .int o_l])), (ob, .inl (cB, 13044, .inl (b8 o_f))), (h, .inr (0, [.ref d, .ref hk, .ref hs, .int h_c, .ref hu, .ref hn, .ref hg, .int h_e])), (d, .inr (4, [.ref db, .int d_l])), (db, .inl (cB, 12000, .inl (b8 d_f))), (hk, .inl (cI, 60, .inl h_k)), (hs, .inl (cI, 61, .inl h_s)), (hu, .inl (cI, 40, .inl h_u)), (hn, .inl (cJ, 40, .inr (.inl h_n))), (hg, .inl (cI, 40, .inl h_g)), (j, .inr (1, [.ref jp, .int j_c, .int j_a])), (jp, .inl (cI, 60, .inl j_p))] [0, 1, 2, 3, 4, 7, 8, 9, 10, 11, 12, 13, 14, 5, 6] rfl rfl rfl (0) (0) (Nat.le_of_ble_eq_true rfl) (Nat.le_of_ble_eq_true rfl) ⟨(Nat.le_of_ble_eq_true rfl), (Nat.le_of_ble_eq_true rfl)⟩ dX9_entry_5 ?_
  refine J_zne O (tgt := 15) (pc := 8) dX9_entry_8 (by decide) (fun c8 => ?_) (fun c8 => ?_)
  · have hf := jt_t c8 hf
    refine J_iload_n O (i := 2) (k0 := 2) (pc := 15) 2 rfl rfl dX9_entry_15 ?_
    by_cases c16_0 : a2 = 0
    · have hf := jt_t c16_0 hf
      refine J_tabK O (tgt := 48) (off := 32) (pc := 16) 0 c16_0 (by decide) (by decide) (by decide) dX9_entry_16 (by decide) ?_
      refine J_aload_n O (i := 0) (k0 := 0) (pc := 48) 0 rfl rfl dX9_entry_48 ?_
      refine J_get O (pc := 49) in_X9_entry_X9 0 rfl rfl 2 (by decide) mb_X9_entry_1 rfl dX9_entry_49 ?_
      refine J_get O (pc := 52) in_X9_entry_X0 5 rfl rfl 4 (by decide) mb_X9_entry_3 rfl dX9_entry_52 ?_
      refine J_iload_n O (i := 1) (k0 := 1) (pc := 55) 1 rfl rfl dX9_entry_55 ?_
      obtain ⟨h56, hf⟩ := jt_g hf
      refine J_iald O (pc := 56) 10 1 rfl rfl h56 dX9_entry_56 ?_
      refine J_i2l O (pc := 57) dX9_entry_57 ?_
      have e9 := Option.some.inj hf
      subst e9
      refine J_widen 1 3 (Nat.le_of_ble_eq_true rfl) (Nat.le_of_ble_eq_true rfl) ?_
      exact J_lret O (pc := 58) rfl dX9_entry_58
    · have hf := jt_f c16_0 hf
      by_cases c16_1 : a2 = 1
      · have hf := jt_t c16_1 hf
        refine J_tabK O (tgt := 59) (off := 43) (pc := 16) 1 c16_1 (by decide) (by decide) (by decide) dX9_entry_16 (by decide) ?_
        refine J_aload_n O (i := 0) (k0 := 0) (pc := 59) 0 rfl rfl dX9_entry_59 ?_
        refine J_get O (pc := 60) in_X9_entry_X9 0 rfl rfl 2 (by decide) mb_X9_entry_1 rfl dX9_entry_60 ?_
        refine J_get O (pc := 63) in_X9_entry_X0 5 rfl rfl 5 (by decide) mb_X9_entry_4 rfl dX9_entry_63 ?_
        refine J_iload_n O (i := 1) (k0 := 1) (pc := 66) 1 rfl rfl dX9_entry_66 ?_
        obtain ⟨h67, hf⟩ := jt_g hf
        refine J_lald O (pc := 67) 11 2 rfl rfl h67 dX9_entry_67 ?_
        have e9 := Option.some.inj hf
        subst e9
        refine J_widen 1 3 (Nat.le_of_ble_eq_true rfl) (Nat.le_of_ble_eq_true rfl) ?_
        exact J_lret O (pc := 68) rfl dX9_entry_68
      · have hf := jt_f c16_1 hf
        by_cases c16_2 : a2 = 2
        · have hf := jt_t c16_2 hf
          refine J_tabK O (tgt := 69) (off := 53) (pc := 16) 2 c16_2 (by decide) (by decide) (by decide) dX9_entry_16 (by decide) ?_
          refine J_aload_n O (i := 0) (k0 := 0) (pc := 69) 0 rfl rfl dX9_entry_69 ?_
          refine J_get O (pc := 70) in_X9_entry_X9 0 rfl rfl 2 (by decide) mb_X9_entry_1 rfl dX9_entry_70 ?_
          refine J_get O (pc := 73) in_X9_entry_X0 5 rfl rfl 6 (by decide) mb_X9_entry_5 rfl dX9_entry_73 ?_
          refine J_iload_n O (i := 1) (k0 := 1) (pc := 76) 1 rfl rfl dX9_entry_76 ?_
          obtain ⟨h77, hf⟩ := jt_g hf
          refine J_iald O (pc := 77) 12 1 rfl rfl h77 dX9_entry_77 ?_
          refine J_i2l O (pc := 78) dX9_entry_78 ?_
          have e9 := Option.some.inj hf
          subst e9
          refine J_widen 1 3 (Nat.le_of_ble_eq_true rfl) (Nat.le_of_ble_eq_true rfl) ?_
          exact J_lret O (pc := 79) rfl dX9_entry_79
        · have hf := jt_f c16_2 hf
          by_cases c16_3 : a2 = 3
          · have hf := jt_t c16_3 hf
            refine J_tabK O (tgt := 80) (off := 64) (pc := 16) 3 c16_3 (by decide) (by decide) (by decide) dX9_entry_16 (by decide) ?_
            refine J_aload_n O (i := 0) (k0 := 0) (pc := 80) 0 rfl rfl dX9_entry_80 ?_
            refine J_get O (pc := 81) in_X9_entry_X9 0 rfl rfl 2 (by decide) mb_X9_entry_1 rfl dX9_entry_81 ?_
            refine J_iload_n O (i := 1) (k0 := 1) (pc := 84) 1 rfl rfl dX9_entry_84 ?_
            obtain ⟨z85, h85, hf⟩ := jt_b hf
            refine J_callVi O (pc := 85) (c_X0_goes l D cB cI cJ h d db hk hs hu hn hg h_c h_e d_l d_f h_k h_s h_u h_n h_g a1 fu h85) rfl 0 rfl rfl gX9_entry_X0_goes hdV_X0_goes ⟨(Nat.le_of_ble_eq_true rfl), (Nat.le_of_ble_eq_true rfl)⟩ rfl (st := []) rfl (Nat.le_of_ble_eq_true rfl) [5, 6, 7, 8, 9, 10, 11, 12] [0, 1, 2, 3, 4, 13, 14] rfl rfl rfl rfl rfl (by decide) [(x, .inr (5, [.ref t, .ref o, .ref h, .ref j, .int x_p])), (t, .inr (4, [.ref tb, .int t_l])), (tb, .inl (cB, 6000, .inl (b8 t_f))), (o, .inr (4, [.ref ob, .int o_l])), (ob, .inl (cB, 13044, .inl (b8 o_f))), (h, .inr (0, [.ref d, .ref hk, .ref hs, .int h_c, .ref hu, .ref hn, .ref hg, .int h_e])), (d, .inr (4, [.ref db, .int d_l])), (db, .inl (cB, 12000, .inl (b8 d_f))), (hk, .inl (cI, 60, .inl h_k)), (hs, .inl (cI, 61, .inl h_s)), (hu, .inl (cI, 40, .inl h_u)), (hn, .inl (cJ, 40, .inr (.inl h_n))), (hg, .inl (cI, 40, .inl h_g)), (j, .inr (1, [.ref jp, .int j_c, .int j_a])), (jp, .inl (cI, 60, .inl j_p))] [0, 1, 2, 3, 4, 7, 8, 9, 10, 11, 12, 13, 14, 5, 6] rfl rfl rfl (1) (3) (Nat.le_of_ble_eq_true rfl) (Nat.le_of_ble_eq_true rfl) ⟨(Nat.le_of_ble_eq_true rfl), (Nat.le_of_ble_eq_true rfl)⟩ dX9_entry_85 ?_
            refine J_zeq O (tgt := 95) (pc := 88) dX9_entry_88 (by decide) (fun c88 => ?_) (fun c88 => ?_)
            · have hf := jt_f c88 hf
              refine J_lconst O (v := 0) (pc := 95) (by decide) dX9_entry_95 ?_
              have e9 := Option.some.inj hf
              subst e9
              exact J_lret O (pc := 96) rfl dX9_entry_96
            · have hf := jt_t c88 hf
              refine J_lconst O (v := 1) (pc := 91) (by decide) dX9_entry_91 ?_
              refine J_goto O (tgt := 96) (pc := 92) dX9_entry_92 (by decide) ?_
              have e9 := Option.some.inj hf
              subst e9
              exact J_lret O (pc := 96) rfl dX9_entry_96
          · have hf := jt_f c16_3 hf
            refine J_tabOut O (tgt := 97) (pc := 16) 4 (fun j hj => match j, hj with | 0, _ => c16_0 | 1, _ => c16_1 | 2, _ => c16_2 | 3, _ => c16_3 | (j + 4), hj => absurd hj (by omega)) (by decide) (by decide) dX9_entry_16 (by decide) ?_
            refine J_ldc2 O (pc := 97) mb_X9_entry_6 dX9_entry_97 ?_
            have e9 := Option.some.inj hf
            subst e9
            refine J_widen 1 3 (Nat.le_of_ble_eq_true rfl) (Nat.le_of_ble_eq_true rfl) ?_
            exact J_lret O (pc := 100) rfl dX9_entry_100
  · have hf := jt_f c8 hf
    refine J_ldc2 O (pc := 11) mb_X9_entry_6 dX9_entry_11 ?_
    have e9 := Option.some.inj hf
    subst e9
    refine J_widen 1 3 (Nat.le_of_ble_eq_true rfl) (Nat.le_of_ble_eq_true rfl) ?_
    exact J_lret O (pc := 14) rfl dX9_entry_14
theorem hdS_X9_isName : yX9_isName.cls ≠ "java/lang/invoke/MethodHandle" ∧ yX9_isName.cls ≠ "java/lang/invoke/VarHandle" ∧ (parseMethodDescriptor yX9_isName.desc).map (fun d => d.parameters.length) = some 2 := by decide +kernel
theorem in_X9_find_X9 : ∀ w ∈ u_ws RX9 TX9 5, w ∈ wsX9_find := fun _ h => List.mem_cons_of_mem _ (List.mem_append_left _ (List.mem_append_right _ h))
theorem mb_X9_find_1 : Cond.fieldLink RX9 24 (TX9 2).1 (TX9 2).2.1 (TX9 2).2.2.1 ∈ wsX9_find := by decide +kernel
theorem hdV_X0_entryOf : yX0_entryOf.cls = RX0 ∧ yX0_entryOf.cls ≠ "java/lang/invoke/MethodHandle" ∧ yX0_entryOf.cls ≠ "java/lang/invoke/VarHandle" ∧ (parseMethodDescriptor yX0_entryOf.desc).map (fun d => d.parameters.length) = some 2 := by decide +kernel
theorem in_X9_find_X0 : ∀ w ∈ u_ws RX0 TX0 8, w ∈ wsX9_find := fun _ h => List.mem_cons_of_mem _ (List.mem_append_right _ h)
theorem mb_X9_find_3 : Cond.fieldLink RX9 120 (TX0 6).1 (TX0 6).2.1 (TX0 6).2.2.1 ∈ wsX9_find := by decide +kernel
abbrev rmX9_find : Room := { frames := 2, cells := 0, slots := 0, locals := 43 }
set_option maxHeartbeats 4000000 in
set_option maxRecDepth 100000 in
theorem c_X9_find (l : Launch) (D : va_G) (cB cI cJ : ClassId) (x t tb o ob h d db hk hs hu hn hg j jp : Nat) (x_p : Int32) (t_l : Int32) (t_f : Nat → Int8) (o_l : Int32) (o_f : Nat → Int8) (h_c : Int32) (h_e : Int32) (d_l : Int32) (d_f : Nat → Int8) (h_k : Nat → Int32) (h_s : Nat → Int32) (h_u : Nat → Int32) (h_n : Nat → Int64) (h_g : Nat → Int32) (j_c : Int32) (j_a : Int32) (j_p : Nat → Int32) (a1 : Int32) (a2 : Int64) (fu : Nat) {z : Int32} (hf : p_X9_find fu h_e h_u h_n h_g a1 a2 = some z) : Ci (l, D, cB, cI, cJ) yX9_find wsX9_find rmX9_find [.ref x, .int a1, .long a2] [(x, .inr (5, [.ref t, .ref o, .ref h, .ref j, .int x_p])), (t, .inr (4, [.ref tb, .int t_l])), (tb, .inl (cB, 6000, .inl (b8 t_f))), (o, .inr (4, [.ref ob, .int o_l])), (ob, .inl (cB, 13044, .inl (b8 o_f))), (h, .inr (0, [.ref d, .ref hk, .ref hs, .int h_c, .ref hu, .ref hn, .ref hg, .int h_e])), (d, .inr (4, [.ref db, .int d_l])), (db, .inl (cB, 12000, .inl (b8 d_f))), (hk, .inl (cI, 60, .inl h_k)), (hs, .inl (cI, 61, .inl h_s)), (hu, .inl (cI, 40, .inl h_u)), (hn, .inl (cJ, 40, .inr (.inl h_n))), (hg, .inl (cI, 40, .inl h_g)), (j, .inr (1, [.ref jp, .int j_c, .int j_a])), (jp, .inl (cI, 60, .inl j_p))] [(x, .inr (5, [.ref t, .ref o, .ref h, .ref j, .int x_p])), (t, .inr (4, [.ref tb, .int t_l])), (tb, .inl (cB, 6000, .inl (b8 t_f))), (o, .inr (4, [.ref ob, .int o_l])), (ob, .inl (cB, 13044, .inl (b8 o_f))), (h, .inr (0, [.ref d, .ref hk, .ref hs, .int h_c, .ref hu, .ref hn, .ref hg, .int h_e])), (d, .inr (4, [.ref db, .int d_l])), (db, .inl (cB, 12000, .inl (b8 d_f))), (hk, .inl (cI, 60, .inl h_k)), (hs, .inl (cI, 61, .inl h_s)), (hu, .inl (cI, 40, .inl h_u)), (hn, .inl (cJ, 40, .inr (.inl h_n))), (hg, .inl (cI, 40, .inl h_g)), (j, .inr (1, [.ref jp, .int j_c, .int j_a])), (jp, .inl (cI, 60, .inl j_p))] z := by
  refine Ci_of (cc := cX9_find) (nL := 5) (own := RX9) (ret := (some .int)) (by decide) rfl rfl (Nat.le_of_ble_eq_true rfl) (fun X O hnm0 => ?_)
  rw [p_X9_find] at hf
  show J X 5 (JQi X [(x, .inr (5, [.ref t, .ref o, .ref h, .ref j, .int x_p])), (t, .inr (4, [.ref tb, .int t_l])), (tb, .inl (cB, 6000, .inl (b8 t_f))), (o, .inr (4, [.ref ob, .int o_l])), (ob, .inl (cB, 13044, .inl (b8 o_f))), (h, .inr (0, [.ref d, .ref hk, .ref hs, .int h_c, .ref hu, .ref hn, .ref hg, .int h_e])), (d, .inr (4, [.ref db, .int d_l])), (db, .inl (cB, 12000, .inl (b8 d_f))), (hk, .inl (cI, 60, .inl h_k)), (hs, .inl (cI, 61, .inl h_s)), (hu, .inl (cI, 40, .inl h_u)), (hn, .inl (cJ, 40, .inr (.inl h_n))), (hg, .inl (cI, 40, .inl h_g)), (j, .inr (1, [.ref jp, .int j_c, .int j_a])), (jp, .inl (cI, 60, .inl j_p))] z 0 0) [(x, .inr (5, [.ref t, .ref o, .ref h, .ref j, .int x_p])), (t, .inr (4, [.ref tb, .int t_l])), (tb, .inl (cB, 6000, .inl (b8 t_f))), (o, .inr (4, [.ref ob, .int o_l])), (ob, .inl (cB, 13044, .inl (b8 o_f))), (h, .inr (0, [.ref d, .ref hk, .ref hs, .int h_c, .ref hu, .ref hn, .ref hg, .int h_e])), (d, .inr (4, [.ref db, .int d_l])), (db, .inl (cB, 12000, .inl (b8 d_f))), (hk, .inl (cI, 60, .inl h_k)), (hs, .inl (cI, 61, .inl h_s)), (hu, .inl (cI, 40, .inl h_u)), (hn, .inl (cJ, 40, .inr (.inl h_n))), (hg, .inl (cI, 40, .inl h_g)), (j, .inr (1, [.ref jp, .int j_c, .int j_a])), (jp, .inl (cI, 60, .inl j_p))] 0 0 0 [(0, .ref x), (1, .int a1), (2, .long a2)] []
  refine J_iload_n O (i := 1) (k0 := 1) (pc := 0) 1 rfl rfl dX9_find_0 ?_
  refine J_lload_n O (i := 2) (k0 := 2) (pc := 1) 2 rfl rfl dX9_find_1 ?_
  obtain ⟨z2, h2, hf⟩ := jt_b hf
  refine J_callSi O (pc := 2) (c_X9_isName l D cB cI cJ a1 a2 h2) rfl gX9_find_X9_isName hdS_X9_isName ⟨(Nat.le_of_ble_eq_true rfl), (Nat.le_of_ble_eq_true rfl)⟩ rfl (st := []) rfl (Nat.le_of_ble_eq_true rfl) [] [0, 1, 2, 3, 4, 5, 6, 7, 8, 9, 10, 11, 12, 13, 14] rfl rfl rfl rfl rfl (by decide) [(x, .inr (5, [.ref t, .ref o, .ref h, .ref j, .int x_p])), (t, .inr (4, [.ref tb, .int t_l])), (tb, .inl (cB, 6000, .inl (b8 t_f))), (o, .inr (4, [.ref ob, .int o_l])), (ob, .inl (cB, 13044, .inl (b8 o_f))), (h, .inr (0, [.ref d, .ref hk, .ref hs, .int h_c, .ref hu, .ref hn, .ref hg, .int h_e])), (d, .inr (4, [.ref db, .int d_l])), (db, .inl (cB, 12000, .inl (b8 d_f))), (hk, .inl (cI, 60, .inl h_k)), (hs, .inl (cI, 61, .inl h_s)), (hu, .inl (cI, 40, .inl h_u)), (hn, .inl (cJ, 40, .inr (.inl h_n))), (hg, .inl (cI, 40, .inl h_g)), (j, .inr (1, [.ref jp, .int j_c, .int j_a])), (jp, .inl (cI, 60, .inl j_p))] [0, 1, 2, 3, 4, 5, 6, 7, 8, 9, 10, 11, 12, 13, 14] rfl rfl rfl (0) (0) (Nat.le_of_ble_eq_true rfl) (Nat.le_of_ble_eq_true rfl) ⟨(Nat.le_of_ble_eq_true rfl), (Nat.le_of_ble_eq_true rfl)⟩ dX9_find_2 ?_
  refine J_zne O (tgt := 10) (pc := 5) dX9_find_5 (by decide) (fun c5 => ?_) (fun c5 => ?_)
  · have hf := jt_t c5 hf
    refine J_aload_n O (i := 0) (k0 := 0) (pc := 10) 0 rfl rfl dX9_find_10 ?_
    refine J_get O (pc := 11) in_X9_find_X9 0 rfl rfl 2 (by decide) mb_X9_find_1 rfl dX9_find_11 ?_
    refine J_iload_n O (i := 1) (k0 := 1) (pc := 14) 1 rfl rfl dX9_find_14 ?_
    refine J_lload_n O (i := 2) (k0 := 2) (pc := 15) 2 rfl rfl dX9_find_15 ?_
    obtain ⟨z16, h16, hf⟩ := jt_b hf
    refine J_callVi O (pc := 16) (c_X0_entryOf l D cB cI cJ h d db hk hs hu hn hg h_c h_e d_l d_f h_k h_s h_u h_n h_g a1 a2 fu h16) rfl 0 rfl rfl gX9_find_X0_entryOf hdV_X0_entryOf ⟨(Nat.le_of_ble_eq_true rfl), (Nat.le_of_ble_eq_true rfl)⟩ rfl (st := []) rfl (Nat.le_of_ble_eq_true rfl) [5, 6, 7, 8, 9, 10, 11, 12] [0, 1, 2, 3, 4, 13, 14] rfl rfl rfl rfl rfl (by decide) [(x, .inr (5, [.ref t, .ref o, .ref h, .ref j, .int x_p])), (t, .inr (4, [.ref tb, .int t_l])), (tb, .inl (cB, 6000, .inl (b8 t_f))), (o, .inr (4, [.ref ob, .int o_l])), (ob, .inl (cB, 13044, .inl (b8 o_f))), (h, .inr (0, [.ref d, .ref hk, .ref hs, .int h_c, .ref hu, .ref hn, .ref hg, .int h_e])), (d, .inr (4, [.ref db, .int d_l])), (db, .inl (cB, 12000, .inl (b8 d_f))), (hk, .inl (cI, 60, .inl h_k)), (hs, .inl (cI, 61, .inl h_s)), (hu, .inl (cI, 40, .inl h_u)), (hn, .inl (cJ, 40, .inr (.inl h_n))), (hg, .inl (cI, 40, .inl h_g)), (j, .inr (1, [.ref jp, .int j_c, .int j_a])), (jp, .inl (cI, 60, .inl j_p))] [0, 1, 2, 3, 4, 7, 8, 9, 10, 11, 12, 13, 14, 5, 6] rfl rfl rfl (0) (0) (Nat.le_of_ble_eq_true rfl) (Nat.le_of_ble_eq_true rfl) ⟨(Nat.le_of_ble_eq_true rfl), (Nat.le_of_ble_eq_true rfl)⟩ dX9_find_16 ?_
    refine J_istore O (i := 4) (pc := 19) [(4, .int z16), (0, .ref x), (1, .int a1), (2, .long a2)] (by decide) rfl dX9_find_19 ?_
    refine J_aload_n O (i := 0) (k0 := 0) (pc := 21) 1 rfl rfl dX9_find_21 ?_
    refine J_get O (pc := 22) in_X9_find_X9 0 rfl rfl 2 (by decide) mb_X9_find_1 rfl dX9_find_22 ?_
    refine J_iload O (i := 4) (pc := 25) 0 rfl dX9_find_25 ?_
    obtain ⟨z27, h27, hf⟩ := jt_b hf
    refine J_callVi O (pc := 27) (c_X0_hasEntry l D cB cI cJ h d db hk hs hu hn hg h_c h_e d_l d_f h_k h_s h_u h_n h_g z16 h27) rfl 0 rfl rfl gX9_find_X0_hasEntry hdV_X0_hasEntry ⟨(Nat.le_of_ble_eq_true rfl), (Nat.le_of_ble_eq_true rfl)⟩ rfl (st := []) rfl (Nat.le_of_ble_eq_true rfl) [5, 6, 7, 8, 9, 10, 11, 12] [0, 1, 2, 3, 4, 13, 14] rfl rfl rfl rfl rfl (by decide) [(x, .inr (5, [.ref t, .ref o, .ref h, .ref j, .int x_p])), (t, .inr (4, [.ref tb, .int t_l])), (tb, .inl (cB, 6000, .inl (b8 t_f))), (o, .inr (4, [.ref ob, .int o_l])), (ob, .inl (cB, 13044, .inl (b8 o_f))), (h, .inr (0, [.ref d, .ref hk, .ref hs, .int h_c, .ref hu, .ref hn, .ref hg, .int h_e])), (d, .inr (4, [.ref db, .int d_l])), (db, .inl (cB, 12000, .inl (b8 d_f))), (hk, .inl (cI, 60, .inl h_k)), (hs, .inl (cI, 61, .inl h_s)), (hu, .inl (cI, 40, .inl h_u)), (hn, .inl (cJ, 40, .inr (.inl h_n))), (hg, .inl (cI, 40, .inl h_g)), (j, .inr (1, [.ref jp, .int j_c, .int j_a])), (jp, .inl (cI, 60, .inl j_p))] [0, 1, 2, 3, 4, 7, 8, 9, 10, 11, 12, 13, 14, 5, 6] rfl rfl rfl (0) (0) (Nat.le_of_ble_eq_true rfl) (Nat.le_of_ble_eq_true rfl) ⟨(Nat.le_of_ble_eq_true rfl), (Nat.le_of_ble_eq_true rfl)⟩ dX9_find_27 ?_
    refine J_zeq O (tgt := 46) (pc := 30) dX9_find_30 (by decide) (fun c30 => ?_) (fun c30 => ?_)
    · have hf := jt_f c30 hf
      refine J_bipush O (v := (-2)) (pc := 46) (by decide) dX9_find_46 ?_
      have e9 := Option.some.inj hf
      subst e9
      exact J_iret O (pc := 48) rfl dX9_find_48
    · have hf := jt_t c30 hf
      refine J_aload_n O (i := 0) (k0 := 0) (pc := 33) 1 rfl rfl dX9_find_33 ?_
      refine J_get O (pc := 34) in_X9_find_X9 0 rfl rfl 2 (by decide) mb_X9_find_1 rfl dX9_find_34 ?_
      refine J_get O (pc := 37) in_X9_find_X0 5 rfl rfl 6 (by decide) mb_X9_find_3 rfl dX9_find_37 ?_
      refine J_iload O (i := 4) (pc := 40) 0 rfl dX9_find_40 ?_
      obtain ⟨h42, hf⟩ := jt_g hf
      refine J_iald O (pc := 42) 12 1 rfl rfl h42 dX9_find_42 ?_
      refine J_goto O (tgt := 48) (pc := 43) dX9_find_43 (by decide) ?_
      have e9 := Option.some.inj hf
      subst e9
      exact J_iret O (pc := 48) rfl dX9_find_48
  · have hf := jt_f c5 hf
    refine J_iconst O (v := (-1)) (pc := 8) (by decide) dX9_find_8 ?_
    have e9 := Option.some.inj hf
    subst e9
    exact J_iret O (pc := 9) rfl dX9_find_9
theorem in_X9_size_X9 : ∀ w ∈ u_ws RX9 TX9 5, w ∈ wsX9_size := fun _ h => List.mem_cons_of_mem _ (List.mem_append_left _ (List.mem_append_left _ (List.mem_append_left _ (List.mem_append_right _ h))))
theorem mb_X9_size_1 : Cond.fieldLink RX9 24 (TX9 2).1 (TX9 2).2.1 (TX9 2).2.2.1 ∈ wsX9_size := by decide +kernel
theorem mb_X9_size_2 : Cond.constantLong RX9 110 (-1) ∈ wsX9_size := by decide +kernel
theorem hdS_X9_isAxis : yX9_isAxis.cls ≠ "java/lang/invoke/MethodHandle" ∧ yX9_isAxis.cls ≠ "java/lang/invoke/VarHandle" ∧ (parseMethodDescriptor yX9_isAxis.desc).map (fun d => d.parameters.length) = some 1 := by decide +kernel
theorem hdS_X4_measure : yX4_measure.cls ≠ "java/lang/invoke/MethodHandle" ∧ yX4_measure.cls ≠ "java/lang/invoke/VarHandle" ∧ (parseMethodDescriptor yX4_measure.desc).map (fun d => d.parameters.length) = some 3 := by decide +kernel
abbrev rmX9_size : Room := { frames := 6, cells := 1, slots := 3, locals := 137 }
set_option maxHeartbeats 4000000 in
set_option maxRecDepth 100000 in
theorem c_X9_size (l : Launch) (D : va_G) (cB cI cJ : ClassId) (x t tb o ob h d db hk hs hu hn hg j jp : Nat) (x_p : Int32) (t_l : Int32) (t_f : Nat → Int8) (o_l : Int32) (o_f : Nat → Int8) (h_c : Int32) (h_e : Int32) (d_l : Int32) (d_f : Nat → Int8) (h_k : Nat → Int32) (h_s : Nat → Int32) (h_u : Nat → Int32) (h_n : Nat → Int64) (h_g : Nat → Int32) (j_c : Int32) (j_a : Int32) (j_p : Nat → Int32) (a1 : Int32) (a2 : Int32) (fu : Nat) {z : Int64} (hf : p_X9_size fu h_c d_l d_f h_k h_s a1 a2 = some z) : Cl (l, D, cB, cI, cJ) yX9_size wsX9_size rmX9_size [.ref x, .int a1, .int a2] [(x, .inr (5, [.ref t, .ref o, .ref h, .ref j, .int x_p])), (t, .inr (4, [.ref tb, .int t_l])), (tb, .inl (cB, 6000, .inl (b8 t_f))), (o, .inr (4, [.ref ob, .int o_l])), (ob, .inl (cB, 13044, .inl (b8 o_f))), (h, .inr (0, [.ref d, .ref hk, .ref hs, .int h_c, .ref hu, .ref hn, .ref hg, .int h_e])), (d, .inr (4, [.ref db, .int d_l])), (db, .inl (cB, 12000, .inl (b8 d_f))), (hk, .inl (cI, 60, .inl h_k)), (hs, .inl (cI, 61, .inl h_s)), (hu, .inl (cI, 40, .inl h_u)), (hn, .inl (cJ, 40, .inr (.inl h_n))), (hg, .inl (cI, 40, .inl h_g)), (j, .inr (1, [.ref jp, .int j_c, .int j_a])), (jp, .inl (cI, 60, .inl j_p))] [(x, .inr (5, [.ref t, .ref o, .ref h, .ref j, .int x_p])), (t, .inr (4, [.ref tb, .int t_l])), (tb, .inl (cB, 6000, .inl (b8 t_f))), (o, .inr (4, [.ref ob, .int o_l])), (ob, .inl (cB, 13044, .inl (b8 o_f))), (h, .inr (0, [.ref d, .ref hk, .ref hs, .int h_c, .ref hu, .ref hn, .ref hg, .int h_e])), (d, .inr (4, [.ref db, .int d_l])), (db, .inl (cB, 12000, .inl (b8 d_f))), (hk, .inl (cI, 60, .inl h_k)), (hs, .inl (cI, 61, .inl h_s)), (hu, .inl (cI, 40, .inl h_u)), (hn, .inl (cJ, 40, .inr (.inl h_n))), (hg, .inl (cI, 40, .inl h_g)), (j, .inr (1, [.ref jp, .int j_c, .int j_a])), (jp, .inl (cI, 60, .inl j_p))] z := by
  refine Cl_of (cc := cX9_size) (nL := 3) (own := RX9) (ret := (some .long)) (by decide) rfl rfl (Nat.le_of_ble_eq_true rfl) (fun X O hnm0 => ?_)
  rw [p_X9_size] at hf
  show J X 3 (JQl X [(x, .inr (5, [.ref t, .ref o, .ref h, .ref j, .int x_p])), (t, .inr (4, [.ref tb, .int t_l])), (tb, .inl (cB, 6000, .inl (b8 t_f))), (o, .inr (4, [.ref ob, .int o_l])), (ob, .inl (cB, 13044, .inl (b8 o_f))), (h, .inr (0, [.ref d, .ref hk, .ref hs, .int h_c, .ref hu, .ref hn, .ref hg, .int h_e])), (d, .inr (4, [.ref db, .int d_l])), (db, .inl (cB, 12000, .inl (b8 d_f))), (hk, .inl (cI, 60, .inl h_k)), (hs, .inl (cI, 61, .inl h_s)), (hu, .inl (cI, 40, .inl h_u)), (hn, .inl (cJ, 40, .inr (.inl h_n))), (hg, .inl (cI, 40, .inl h_g)), (j, .inr (1, [.ref jp, .int j_c, .int j_a])), (jp, .inl (cI, 60, .inl j_p))] z 1 3) [(x, .inr (5, [.ref t, .ref o, .ref h, .ref j, .int x_p])), (t, .inr (4, [.ref tb, .int t_l])), (tb, .inl (cB, 6000, .inl (b8 t_f))), (o, .inr (4, [.ref ob, .int o_l])), (ob, .inl (cB, 13044, .inl (b8 o_f))), (h, .inr (0, [.ref d, .ref hk, .ref hs, .int h_c, .ref hu, .ref hn, .ref hg, .int h_e])), (d, .inr (4, [.ref db, .int d_l])), (db, .inl (cB, 12000, .inl (b8 d_f))), (hk, .inl (cI, 60, .inl h_k)), (hs, .inl (cI, 61, .inl h_s)), (hu, .inl (cI, 40, .inl h_u)), (hn, .inl (cJ, 40, .inr (.inl h_n))), (hg, .inl (cI, 40, .inl h_g)), (j, .inr (1, [.ref jp, .int j_c, .int j_a])), (jp, .inl (cI, 60, .inl j_p))] 0 0 0 [(0, .ref x), (1, .int a1), (2, .int a2)] []
  refine J_aload_n O (i := 0) (k0 := 0) (pc := 0) 0 rfl rfl dX9_size_0 ?_
  refine J_get O (pc := 1) in_X9_size_X9 0 rfl rfl 2 (by decide) mb_X9_size_1 rfl dX9_size_1 ?_
  refine J_iload_n O (i := 1) (k0 := 1) (pc := 4) 1 rfl rfl dX9_size_4 ?_
  obtain ⟨z5, h5, hf⟩ := jt_b hf
  refine J_callVi O (pc := 5) (c_X0_hasChunk l D cB cI cJ h d db hk hs hu hn hg h_c h_e d_l d_f h_k h_s h_u h_n h_g a1 h5) rfl 0 rfl rfl gX9_size_X0_hasChunk hdV_X0_hasChunk ⟨(Nat.le_of_ble_eq_true rfl), (Nat.le_of_ble_eq_true rfl)⟩ rfl (st := []) rfl (Nat.le_of_ble_eq_true rfl) [5, 6, 7, 8, 9, 10, 11, 12] [0, 1, 2, 3, 4, 13, 14] rfl rfl rfl rfl rfl (by decide) [(x, .inr (5, [.ref t, .ref o, .ref h, .ref j, .int x_p])), (t, .inr (4, [.ref tb, .int t_l])), (tb, .inl (cB, 6000, .inl (b8 t_f))), (o, .inr (4, [.ref ob, .int o_l])), (ob, .inl (cB, 13044, .inl (b8 o_f))), (h, .inr (0, [.ref d, .ref hk, .ref hs, .int h_c, .ref hu, .ref hn, .ref hg, .int h_e])), (d, .inr (4, [.ref db, .int d_l])), (db, .inl (cB, 12000, .inl (b8 d_f))), (hk, .inl (cI, 60, .inl h_k)), (hs, .inl (cI, 61, .inl h_s)), (hu, .inl (cI, 40, .inl h_u)), (hn, .inl (cJ, 40, .inr (.inl h_n))), (hg, .inl (cI, 40, .inl h_g)), (j, .inr (1, [.ref jp, .int j_c, .int j_a])), (jp, .inl (cI, 60, .inl j_p))] [0, 1, 2, 3, 4, 7, 8, 9, 10, 11, 12, 13, 14, 5, 6] rfl rfl rfl (0) (0) (Nat.le_of_ble_eq_true rfl) (Nat.le_of_ble_eq_true rfl) ⟨(Nat.le_of_ble_eq_true rfl), (Nat.le_of_ble_eq_true rfl)⟩ dX9_size_5 ?_
  refine J_zeq O (tgt := 18) (pc := 8) dX9_size_8 (by decide) (fun c8 => ?_) (fun c8 => ?_)
  · have hf := jt_f c8 hf
    refine J_ldc2 O (pc := 18) mb_X9_size_2 dX9_size_18 ?_
    have e9 := Option.some.inj hf
    subst e9
    refine J_widen 1 3 (Nat.le_of_ble_eq_true rfl) (Nat.le_of_ble_eq_true rfl) ?_
    exact J_lret O (pc := 21) rfl dX9_size_21
  · have hf := jt_t c8 hf
    refine J_iload_n O (i := 2) (k0 := 2) (pc := 11) 2 rfl rfl dX9_size_11 ?_
    obtain ⟨z12, h12, hf⟩ := jt_b hf
    refine J_callSi O (pc := 12) (c_X9_isAxis l D cB cI cJ a2 h12) rfl gX9_size_X9_isAxis hdS_X9_isAxis ⟨(Nat.le_of_ble_eq_true rfl), (Nat.le_of_ble_eq_true rfl)⟩ rfl (st := []) rfl (Nat.le_of_ble_eq_true rfl) [] [0, 1, 2, 3, 4, 5, 6, 7, 8, 9, 10, 11, 12, 13, 14] rfl rfl rfl rfl rfl (by decide) [(x, .inr (5, [.ref t, .ref o, .ref h, .ref j, .int x_p])), (t, .inr (4, [.ref tb, .int t_l])), (tb, .inl (cB, 6000, .inl (b8 t_f))), (o, .inr (4, [.ref ob, .int o_l])), (ob, .inl (cB, 13044, .inl (b8 o_f))), (h, .inr (0, [.ref d, .ref hk, .ref hs, .int h_c, .ref hu, .ref hn, .ref hg, .int h_e])), (d, .inr (4, [.ref db, .int d_l])), (db, .inl (cB, 12000, .inl (b8 d_f))), (hk, .inl (cI, 60, .inl h_k)), (hs, .inl (cI, 61, .inl h_s)), (hu, .inl (cI, 40, .inl h_u)), (hn, .inl (cJ, 40, .inr (.inl h_n))), (hg, .inl (cI, 40, .inl h_g)), (j, .inr (1, [.ref jp, .int j_c, .int j_a])), (jp, .inl (cI, 60, .inl j_p))] [0, 1, 2, 3, 4, 5, 6, 7, 8, 9, 10, 11, 12, 13, 14] rfl rfl rfl (0) (0) (Nat.le_of_ble_eq_true rfl) (Nat.le_of_ble_eq_true rfl) ⟨(Nat.le_of_ble_eq_true rfl), (Nat.le_of_ble_eq_true rfl)⟩ dX9_size_12 ?_
    refine J_zne O (tgt := 22) (pc := 15) dX9_size_15 (by decide) (fun c15 => ?_) (fun c15 => ?_)
    · have hf := jt_t c15 hf
      refine J_aload_n O (i := 0) (k0 := 0) (pc := 22) 0 rfl rfl dX9_size_22 ?_
      refine J_get O (pc := 23) in_X9_size_X9 0 rfl rfl 2 (by decide) mb_X9_size_1 rfl dX9_size_23 ?_
      refine J_iload_n O (i := 1) (k0 := 1) (pc := 26) 1 rfl rfl dX9_size_26 ?_
      obtain ⟨z27, h27, hf⟩ := jt_b hf
      refine J_callVi O (pc := 27) (c_X0_kindOf l D cB cI cJ h d db hk hs hu hn hg h_c h_e d_l d_f h_k h_s h_u h_n h_g a1 h27) rfl 0 rfl rfl gX9_size_X0_kindOf hdV_X0_kindOf ⟨(Nat.le_of_ble_eq_true rfl), (Nat.le_of_ble_eq_true rfl)⟩ rfl (st := []) rfl (Nat.le_of_ble_eq_true rfl) [5, 6, 7, 8, 9, 10, 11, 12] [0, 1, 2, 3, 4, 13, 14] rfl rfl rfl rfl rfl (by decide) [(x, .inr (5, [.ref t, .ref o, .ref h, .ref j, .int x_p])), (t, .inr (4, [.ref tb, .int t_l])), (tb, .inl (cB, 6000, .inl (b8 t_f))), (o, .inr (4, [.ref ob, .int o_l])), (ob, .inl (cB, 13044, .inl (b8 o_f))), (h, .inr (0, [.ref d, .ref hk, .ref hs, .int h_c, .ref hu, .ref hn, .ref hg, .int h_e])), (d, .inr (4, [.ref db, .int d_l])), (db, .inl (cB, 12000, .inl (b8 d_f))), (hk, .inl (cI, 60, .inl h_k)), (hs, .inl (cI, 61, .inl h_s)), (hu, .inl (cI, 40, .inl h_u)), (hn, .inl (cJ, 40, .inr (.inl h_n))), (hg, .inl (cI, 40, .inl h_g)), (j, .inr (1, [.ref jp, .int j_c, .int j_a])), (jp, .inl (cI, 60, .inl j_p))] [0, 1, 2, 3, 4, 7, 8, 9, 10, 11, 12, 13, 14, 5, 6] rfl rfl rfl (0) (0) (Nat.le_of_ble_eq_true rfl) (Nat.le_of_ble_eq_true rfl) ⟨(Nat.le_of_ble_eq_true rfl), (Nat.le_of_ble_eq_true rfl)⟩ dX9_size_27 ?_
      refine J_aload_n O (i := 0) (k0 := 0) (pc := 30) 0 rfl rfl dX9_size_30 ?_
      refine J_get O (pc := 31) in_X9_size_X9 0 rfl rfl 2 (by decide) mb_X9_size_1 rfl dX9_size_31 ?_
      refine J_iload_n O (i := 1) (k0 := 1) (pc := 34) 1 rfl rfl dX9_size_34 ?_
      obtain ⟨z35, h35, hf⟩ := jt_b hf
      refine J_callVr O (pc := 35) (c_X0_dataOf l D cB cI cJ h d db hk hs hu hn hg h_c h_e d_l d_f h_k h_s h_u h_n h_g a1 h35) rfl 0 rfl rfl gX9_size_X0_dataOf hdV_X0_dataOf ⟨(Nat.le_of_ble_eq_true rfl), (Nat.le_of_ble_eq_true rfl)⟩ rfl (st := [.int z27]) rfl (Nat.le_of_ble_eq_true rfl) [5, 6, 7, 8, 9, 10, 11, 12] [0, 1, 2, 3, 4, 13, 14] rfl rfl rfl rfl rfl (by decide) (fun q35 => [(x, .inr (5, [.ref t, .ref o, .ref h, .ref j, .int x_p])), (t, .inr (4, [.ref tb, .int t_l])), (tb, .inl (cB, 6000, .inl (b8 t_f))), (o, .inr (4, [.ref ob, .int o_l])), (ob, .inl (cB, 13044, .inl (b8 o_f))), (h, .inr (0, [.ref d, .ref hk, .ref hs, .int h_c, .ref hu, .ref hn, .ref hg, .int h_e])), (d, .inr (4, [.ref db, .int d_l])), (db, .inl (cB, 12000, .inl (b8 d_f))), (hk, .inl (cI, 60, .inl h_k)), (hs, .inl (cI, 61, .inl h_s)), (hu, .inl (cI, 40, .inl h_u)), (hn, .inl (cJ, 40, .inr (.inl h_n))), (hg, .inl (cI, 40, .inl h_g)), (j, .inr (1, [.ref jp, .int j_c, .int j_a])), (jp, .inl (cI, 60, .inl j_p)), (q35, .inr (2, [.ref d, .int z35.1, .int z35.2]))]) [0, 1, 2, 3, 4, 7, 8, 9, 10, 11, 12, 13, 14, 5, 6, 15] rfl (fun _ => rfl) (fun _ => rfl) (1) (3) (Nat.le_of_ble_eq_true rfl) (Nat.le_of_ble_eq_true rfl) ⟨(Nat.le_of_ble_eq_true rfl), (Nat.le_of_ble_eq_true rfl)⟩ dX9_size_35 (fun q35 => ?_)
      refine J_iload_n O (i := 2) (k0 := 2) (pc := 38) 2 rfl rfl dX9_size_38 ?_
      obtain ⟨z39, h39, hf⟩ := jt_b hf
      refine J_callSl O (pc := 39) (c_X4_measure l D cB cI cJ q35 d db 12000 z35.1 z35.2 d_l d_f z27 a2 fu h39) rfl gX9_size_X4_measure hdS_X4_measure ⟨(Nat.le_of_ble_eq_true rfl), (Nat.le_of_ble_eq_true rfl)⟩ rfl (st := []) rfl (Nat.le_of_ble_eq_true rfl) [15, 6, 7] [0, 1, 2, 3, 4, 5, 8, 9, 10, 11, 12, 13, 14] rfl rfl rfl rfl rfl (by decide) [(x, .inr (5, [.ref t, .ref o, .ref h, .ref j, .int x_p])), (t, .inr (4, [.ref tb, .int t_l])), (tb, .inl (cB, 6000, .inl (b8 t_f))), (o, .inr (4, [.ref ob, .int o_l])), (ob, .inl (cB, 13044, .inl (b8 o_f))), (h, .inr (0, [.ref d, .ref hk, .ref hs, .int h_c, .ref hu, .ref hn, .ref hg, .int h_e])), (d, .inr (4, [.ref db, .int d_l])), (db, .inl (cB, 12000, .inl (b8 d_f))), (hk, .inl (cI, 60, .inl h_k)), (hs, .inl (cI, 61, .inl h_s)), (hu, .inl (cI, 40, .inl h_u)), (hn, .inl (cJ, 40, .inr (.inl h_n))), (hg, .inl (cI, 40, .inl h_g)), (j, .inr (1, [.ref jp, .int j_c, .int j_a])), (jp, .inl (cI, 60, .inl j_p)), (q35, .inr (2, [.ref d, .int z35.1, .int z35.2]))] [0, 1, 2, 3, 4, 5, 14, 15, 6, 7, 8, 9, 10, 11, 12, 13] rfl rfl rfl (1) (3) (Nat.le_of_ble_eq_true rfl) (Nat.le_of_ble_eq_true rfl) ⟨(Nat.le_of_ble_eq_true rfl), (Nat.le_of_ble_eq_true rfl)⟩ dX9_size_39 ?_
      have e9 := Option.some.inj hf
      subst e9
      refine J_wsub [0, 1, 2, 3, 4, 5, 6, 7, 8, 9, 10, 11, 12, 13, 14] [(x, .inr (5, [.ref t, .ref o, .ref h, .ref j, .int x_p])), (t, .inr (4, [.ref tb, .int t_l])), (tb, .inl (cB, 6000, .inl (b8 t_f))), (o, .inr (4, [.ref ob, .int o_l])), (ob, .inl (cB, 13044, .inl (b8 o_f))), (h, .inr (0, [.ref d, .ref hk, .ref hs, .int h_c, .ref hu, .ref hn, .ref hg, .int h_e])), (d, .inr (4, [.ref db, .int d_l])), (db, .inl (cB, 12000, .inl (b8 d_f))), (hk, .inl (cI, 60, .inl h_k)), (hs, .inl (cI, 61, .inl h_s)), (hu, .inl (cI, 40, .inl h_u)), (hn, .inl (cJ, 40, .inr (.inl h_n))), (hg, .inl (cI, 40, .inl h_g)), (j, .inr (1, [.ref jp, .int j_c, .int j_a])), (jp, .inl (cI, 60, .inl j_p))] rfl rfl rfl ?_
      exact J_lret O (pc := 42) rfl dX9_size_42
    · have hf := jt_f c15 hf
      refine J_ldc2 O (pc := 18) mb_X9_size_2 dX9_size_18 ?_
      have e9 := Option.some.inj hf
      subst e9
      refine J_widen 1 3 (Nat.le_of_ble_eq_true rfl) (Nat.le_of_ble_eq_true rfl) ?_
      exact J_lret O (pc := 21) rfl dX9_size_21
theorem in_X9_sound_X9 : ∀ w ∈ u_ws RX9 TX9 5, w ∈ wsX9_sound := fun _ h => List.mem_cons_of_mem _ (List.mem_append_left _ (List.mem_append_left _ (List.mem_append_left _ (List.mem_append_right _ h))))
theorem mb_X9_sound_1 : Cond.fieldLink RX9 24 (TX9 2).1 (TX9 2).2.1 (TX9 2).2.2.1 ∈ wsX9_sound := by decide +kernel
theorem mb_X9_sound_2 : Cond.constantLong RX9 110 (-1) ∈ wsX9_sound := by decide +kernel
theorem mb_X9_sound_3 : Cond.constant RX9 145 1179603533 ∈ wsX9_sound := by decide +kernel
theorem mb_X9_sound_4 : Cond.constantLong RX9 151 (-2) ∈ wsX9_sound := by decide +kernel
theorem hdS_X7_measure : yX7_measure.cls ≠ "java/lang/invoke/MethodHandle" ∧ yX7_measure.cls ≠ "java/lang/invoke/VarHandle" ∧ (parseMethodDescriptor yX7_measure.desc).map (fun d => d.parameters.length) = some 2 := by decide +kernel
abbrev rmX9_sound : Room := { frames := 6, cells := 1, slots := 3, locals := 140 }
set_option maxHeartbeats 4000000 in
set_option maxRecDepth 100000 in
theorem c_X9_sound (l : Launch) (D : va_G) (cB cI cJ : ClassId) (x t tb o ob h d db hk hs hu hn hg j jp : Nat) (x_p : Int32) (t_l : Int32) (t_f : Nat → Int8) (o_l : Int32) (o_f : Nat → Int8) (h_c : Int32) (h_e : Int32) (d_l : Int32) (d_f : Nat → Int8) (h_k : Nat → Int32) (h_s : Nat → Int32) (h_u : Nat → Int32) (h_n : Nat → Int64) (h_g : Nat → Int32) (j_c : Int32) (j_a : Int32) (j_p : Nat → Int32) (a1 : Int32) (a2 : Int32) (fu : Nat) {z : Int64} (hf : p_X9_sound fu h_c d_l d_f h_k h_s a1 a2 = some z) : Cl (l, D, cB, cI, cJ) yX9_sound wsX9_sound rmX9_sound [.ref x, .int a1, .int a2] [(x, .inr (5, [.ref t, .ref o, .ref h, .ref j, .int x_p])), (t, .inr (4, [.ref tb, .int t_l])), (tb, .inl (cB, 6000, .inl (b8 t_f))), (o, .inr (4, [.ref ob, .int o_l])), (ob, .inl (cB, 13044, .inl (b8 o_f))), (h, .inr (0, [.ref d, .ref hk, .ref hs, .int h_c, .ref hu, .ref hn, .ref hg, .int h_e])), (d, .inr (4, [.ref db, .int d_l])), (db, .inl (cB, 12000, .inl (b8 d_f))), (hk, .inl (cI, 60, .inl h_k)), (hs, .inl (cI, 61, .inl h_s)), (hu, .inl (cI, 40, .inl h_u)), (hn, .inl (cJ, 40, .inr (.inl h_n))), (hg, .inl (cI, 40, .inl h_g)), (j, .inr (1, [.ref jp, .int j_c, .int j_a])), (jp, .inl (cI, 60, .inl j_p))] [(x, .inr (5, [.ref t, .ref o, .ref h, .ref j, .int x_p])), (t, .inr (4, [.ref tb, .int t_l])), (tb, .inl (cB, 6000, .inl (b8 t_f))), (o, .inr (4, [.ref ob, .int o_l])), (ob, .inl (cB, 13044, .inl (b8 o_f))), (h, .inr (0, [.ref d, .ref hk, .ref hs, .int h_c, .ref hu, .ref hn, .ref hg, .int h_e])), (d, .inr (4, [.ref db, .int d_l])), (db, .inl (cB, 12000, .inl (b8 d_f))), (hk, .inl (cI, 60, .inl h_k)), (hs, .inl (cI, 61, .inl h_s)), (hu, .inl (cI, 40, .inl h_u)), (hn, .inl (cJ, 40, .inr (.inl h_n))), (hg, .inl (cI, 40, .inl h_g)), (j, .inr (1, [.ref jp, .int j_c, .int j_a])), (jp, .inl (cI, 60, .inl j_p))] z := by
  refine Cl_of (cc := cX9_sound) (nL := 3) (own := RX9) (ret := (some .long)) (by decide) rfl rfl (Nat.le_of_ble_eq_true rfl) (fun X O hnm0 => ?_)
  rw [p_X9_sound] at hf
  show J X 3 (JQl X [(x, .inr (5, [.ref t, .ref o, .ref h, .ref j, .int x_p])), (t, .inr (4, [.ref tb, .int t_l])), (tb, .inl (cB, 6000, .inl (b8 t_f))), (o, .inr (4, [.ref ob, .int o_l])), (ob, .inl (cB, 13044, .inl (b8 o_f))), (h, .inr (0, [.ref d, .ref hk, .ref hs, .int h_c, .ref hu, .ref hn, .ref hg, .int h_e])), (d, .inr (4, [.ref db, .int d_l])), (db, .inl (cB, 12000, .inl (b8 d_f))), (hk, .inl (cI, 60, .inl h_k)), (hs, .inl (cI, 61, .inl h_s)), (hu, .inl (cI, 40, .inl h_u)), (hn, .inl (cJ, 40, .inr (.inl h_n))), (hg, .inl (cI, 40, .inl h_g)), (j, .inr (1, [.ref jp, .int j_c, .int j_a])), (jp, .inl (cI, 60, .inl j_p))] z 1 3) [(x, .inr (5, [.ref t, .ref o, .ref h, .ref j, .int x_p])), (t, .inr (4, [.ref tb, .int t_l])), (tb, .inl (cB, 6000, .inl (b8 t_f))), (o, .inr (4, [.ref ob, .int o_l])), (ob, .inl (cB, 13044, .inl (b8 o_f))), (h, .inr (0, [.ref d, .ref hk, .ref hs, .int h_c, .ref hu, .ref hn, .ref hg, .int h_e])), (d, .inr (4, [.ref db, .int d_l])), (db, .inl (cB, 12000, .inl (b8 d_f))), (hk, .inl (cI, 60, .inl h_k)), (hs, .inl (cI, 61, .inl h_s)), (hu, .inl (cI, 40, .inl h_u)), (hn, .inl (cJ, 40, .inr (.inl h_n))), (hg, .inl (cI, 40, .inl h_g)), (j, .inr (1, [.ref jp, .int j_c, .int j_a])), (jp, .inl (cI, 60, .inl j_p))] 0 0 0 [(0, .ref x), (1, .int a1), (2, .int a2)] []
  refine J_aload_n O (i := 0) (k0 := 0) (pc := 0) 0 rfl rfl dX9_sound_0 ?_
  refine J_get O (pc := 1) in_X9_sound_X9 0 rfl rfl 2 (by decide) mb_X9_sound_1 rfl dX9_sound_1 ?_
  refine J_iload_n O (i := 1) (k0 := 1) (pc := 4) 1 rfl rfl dX9_sound_4 ?_
  obtain ⟨z5, h5, hf⟩ := jt_b hf
  refine J_callVi O (pc := 5) (c_X0_hasChunk l D cB cI cJ h d db hk hs hu hn hg h_c h_e d_l d_f h_k h_s h_u h_n h_g a1 h5) rfl 0 rfl rfl gX9_sound_X0_hasChunk hdV_X0_hasChunk ⟨(Nat.le_of_ble_eq_true rfl), (Nat.le_of_ble_eq_true rfl)⟩ rfl (st := []) rfl (Nat.le_of_ble_eq_true rfl) [5, 6, 7, 8, 9, 10, 11, 12] [0, 1, 2, 3, 4, 13, 14] rfl rfl rfl rfl rfl (by decide) [(x, .inr (5, [.ref t, .ref o, .ref h, .ref j, .int x_p])), (t, .inr (4, [.ref tb, .int t_l])), (tb, .inl (cB, 6000, .inl (b8 t_f))), (o, .inr (4, [.ref ob, .int o_l])), (ob, .inl (cB, 13044, .inl (b8 o_f))), (h, .inr (0, [.ref d, .ref hk, .ref hs, .int h_c, .ref hu, .ref hn, .ref hg, .int h_e])), (d, .inr (4, [.ref db, .int d_l])), (db, .inl (cB, 12000, .inl (b8 d_f))), (hk, .inl (cI, 60, .inl h_k)), (hs, .inl (cI, 61, .inl h_s)), (hu, .inl (cI, 40, .inl h_u)), (hn, .inl (cJ, 40, .inr (.inl h_n))), (hg, .inl (cI, 40, .inl h_g)), (j, .inr (1, [.ref jp, .int j_c, .int j_a])), (jp, .inl (cI, 60, .inl j_p))] [0, 1, 2, 3, 4, 7, 8, 9, 10, 11, 12, 13, 14, 5, 6] rfl rfl rfl (0) (0) (Nat.le_of_ble_eq_true rfl) (Nat.le_of_ble_eq_true rfl) ⟨(Nat.le_of_ble_eq_true rfl), (Nat.le_of_ble_eq_true rfl)⟩ dX9_sound_5 ?_
  refine J_zeq O (tgt := 20) (pc := 8) dX9_sound_8 (by decide) (fun c8 => ?_) (fun c8 => ?_)
  · have hf := jt_f c8 hf
    refine J_ldc2 O (pc := 20) mb_X9_sound_2 dX9_sound_20 ?_
    have e9 := Option.some.inj hf
    subst e9
    refine J_widen 1 3 (Nat.le_of_ble_eq_true rfl) (Nat.le_of_ble_eq_true rfl) ?_
    exact J_lret O (pc := 23) rfl dX9_sound_23
  · have hf := jt_t c8 hf
    refine J_iload_n O (i := 2) (k0 := 2) (pc := 11) 2 rfl rfl dX9_sound_11 ?_
    refine J_if_lt O (tgt := 20) (pc := 12) dX9_sound_12 (by decide) (fun c12 => ?_) (fun c12 => ?_)
    · have hf := jt_t c12 hf
      refine J_ldc2 O (pc := 20) mb_X9_sound_2 dX9_sound_20 ?_
      have e9 := Option.some.inj hf
      subst e9
      refine J_widen 1 3 (Nat.le_of_ble_eq_true rfl) (Nat.le_of_ble_eq_true rfl) ?_
      exact J_lret O (pc := 23) rfl dX9_sound_23
    · have hf := jt_f c12 hf
      refine J_iload_n O (i := 2) (k0 := 2) (pc := 15) 2 rfl rfl dX9_sound_15 ?_
      refine J_iconst O (v := 3) (pc := 16) (by decide) dX9_sound_16 ?_
      refine J_icmp_le O (tgt := 24) (pc := 17) dX9_sound_17 (by decide) (fun c17 => ?_) (fun c17 => ?_)
      · have hf := jt_t c17 hf
        refine J_aload_n O (i := 0) (k0 := 0) (pc := 24) 0 rfl rfl dX9_sound_24 ?_
        refine J_get O (pc := 25) in_X9_sound_X9 0 rfl rfl 2 (by decide) mb_X9_sound_1 rfl dX9_sound_25 ?_
        refine J_iload_n O (i := 1) (k0 := 1) (pc := 28) 1 rfl rfl dX9_sound_28 ?_
        obtain ⟨z29, h29, hf⟩ := jt_b hf
        refine J_callVi O (pc := 29) (c_X0_kindOf l D cB cI cJ h d db hk hs hu hn hg h_c h_e d_l d_f h_k h_s h_u h_n h_g a1 h29) rfl 0 rfl rfl gX9_sound_X0_kindOf hdV_X0_kindOf ⟨(Nat.le_of_ble_eq_true rfl), (Nat.le_of_ble_eq_true rfl)⟩ rfl (st := []) rfl (Nat.le_of_ble_eq_true rfl) [5, 6, 7, 8, 9, 10, 11, 12] [0, 1, 2, 3, 4, 13, 14] rfl rfl rfl rfl rfl (by decide) [(x, .inr (5, [.ref t, .ref o, .ref h, .ref j, .int x_p])), (t, .inr (4, [.ref tb, .int t_l])), (tb, .inl (cB, 6000, .inl (b8 t_f))), (o, .inr (4, [.ref ob, .int o_l])), (ob, .inl (cB, 13044, .inl (b8 o_f))), (h, .inr (0, [.ref d, .ref hk, .ref hs, .int h_c, .ref hu, .ref hn, .ref hg, .int h_e])), (d, .inr (4, [.ref db, .int d_l])), (db, .inl (cB, 12000, .inl (b8 d_f))), (hk, .inl (cI, 60, .inl h_k)), (hs, .inl (cI, 61, .inl h_s)), (hu, .inl (cI, 40, .inl h_u)), (hn, .inl (cJ, 40, .inr (.inl h_n))), (hg, .inl (cI, 40, .inl h_g)), (j, .inr (1, [.ref jp, .int j_c, .int j_a])), (jp, .inl (cI, 60, .inl j_p))] [0, 1, 2, 3, 4, 7, 8, 9, 10, 11, 12, 13, 14, 5, 6] rfl rfl rfl (0) (0) (Nat.le_of_ble_eq_true rfl) (Nat.le_of_ble_eq_true rfl) ⟨(Nat.le_of_ble_eq_true rfl), (Nat.le_of_ble_eq_true rfl)⟩ dX9_sound_29 ?_
        refine J_ldc O (pc := 32) mb_X9_sound_3 dX9_sound_32 ?_
        refine J_icmp_ne O (tgt := 52) (pc := 34) dX9_sound_34 (by decide) (fun c34 => ?_) (fun c34 => ?_)
        · have hf := jt_f c34 hf
          refine J_ldc2 O (pc := 52) mb_X9_sound_4 dX9_sound_52 ?_
          have e9 := Option.some.inj hf
          subst e9
          refine J_widen 1 3 (Nat.le_of_ble_eq_true rfl) (Nat.le_of_ble_eq_true rfl) ?_
          exact J_lret O (pc := 55) rfl dX9_sound_55
        · have hf := jt_t c34 hf
          refine J_aload_n O (i := 0) (k0 := 0) (pc := 37) 0 rfl rfl dX9_sound_37 ?_
          refine J_get O (pc := 38) in_X9_sound_X9 0 rfl rfl 2 (by decide) mb_X9_sound_1 rfl dX9_sound_38 ?_
          refine J_iload_n O (i := 1) (k0 := 1) (pc := 41) 1 rfl rfl dX9_sound_41 ?_
          obtain ⟨z42, h42, hf⟩ := jt_b hf
          refine J_callVr O (pc := 42) (c_X0_dataOf l D cB cI cJ h d db hk hs hu hn hg h_c h_e d_l d_f h_k h_s h_u h_n h_g a1 h42) rfl 0 rfl rfl gX9_sound_X0_dataOf hdV_X0_dataOf ⟨(Nat.le_of_ble_eq_true rfl), (Nat.le_of_ble_eq_true rfl)⟩ rfl (st := []) rfl (Nat.le_of_ble_eq_true rfl) [5, 6, 7, 8, 9, 10, 11, 12] [0, 1, 2, 3, 4, 13, 14] rfl rfl rfl rfl rfl (by decide) (fun q42 => [(x, .inr (5, [.ref t, .ref o, .ref h, .ref j, .int x_p])), (t, .inr (4, [.ref tb, .int t_l])), (tb, .inl (cB, 6000, .inl (b8 t_f))), (o, .inr (4, [.ref ob, .int o_l])), (ob, .inl (cB, 13044, .inl (b8 o_f))), (h, .inr (0, [.ref d, .ref hk, .ref hs, .int h_c, .ref hu, .ref hn, .ref hg, .int h_e])), (d, .inr (4, [.ref db, .int d_l])), (db, .inl (cB, 12000, .inl (b8 d_f))), (hk, .inl (cI, 60, .inl h_k)), (hs, .inl (cI, 61, .inl h_s)), (hu, .inl (cI, 40, .inl h_u)), (hn, .inl (cJ, 40, .inr (.inl h_n))), (hg, .inl (cI, 40, .inl h_g)), (j, .inr (1, [.ref jp, .int j_c, .int j_a])), (jp, .inl (cI, 60, .inl j_p)), (q42, .inr (2, [.ref d, .int z42.1, .int z42.2]))]) [0, 1, 2, 3, 4, 7, 8, 9, 10, 11, 12, 13, 14, 5, 6, 15] rfl (fun _ => rfl) (fun _ => rfl) (1) (3) (Nat.le_of_ble_eq_true rfl) (Nat.le_of_ble_eq_true rfl) ⟨(Nat.le_of_ble_eq_true rfl), (Nat.le_of_ble_eq_true rfl)⟩ dX9_sound_42 (fun q42 => ?_)
          refine J_iload_n O (i := 2) (k0 := 2) (pc := 45) 2 rfl rfl dX9_sound_45 ?_
          obtain ⟨z46, h46, hf⟩ := jt_b hf
          refine J_callSl O (pc := 46) (c_X7_measure l D cB cI cJ q42 d db 12000 z42.1 z42.2 d_l d_f a2 fu h46) rfl gX9_sound_X7_measure hdS_X7_measure ⟨(Nat.le_of_ble_eq_true rfl), (Nat.le_of_ble_eq_true rfl)⟩ rfl (st := []) rfl (Nat.le_of_ble_eq_true rfl) [15, 6, 7] [0, 1, 2, 3, 4, 5, 8, 9, 10, 11, 12, 13, 14] rfl rfl rfl rfl rfl (by decide) [(x, .inr (5, [.ref t, .ref o, .ref h, .ref j, .int x_p])), (t, .inr (4, [.ref tb, .int t_l])), (tb, .inl (cB, 6000, .inl (b8 t_f))), (o, .inr (4, [.ref ob, .int o_l])), (ob, .inl (cB, 13044, .inl (b8 o_f))), (h, .inr (0, [.ref d, .ref hk, .ref hs, .int h_c, .ref hu, .ref hn, .ref hg, .int h_e])), (d, .inr (4, [.ref db, .int d_l])), (db, .inl (cB, 12000, .inl (b8 d_f))), (hk, .inl (cI, 60, .inl h_k)), (hs, .inl (cI, 61, .inl h_s)), (hu, .inl (cI, 40, .inl h_u)), (hn, .inl (cJ, 40, .inr (.inl h_n))), (hg, .inl (cI, 40, .inl h_g)), (j, .inr (1, [.ref jp, .int j_c, .int j_a])), (jp, .inl (cI, 60, .inl j_p)), (q42, .inr (2, [.ref d, .int z42.1, .int z42.2]))] [0, 1, 2, 3, 4, 5, 14, 15, 6, 7, 8, 9, 10, 11, 12, 13] rfl rfl rfl (1) (3) (Nat.le_of_ble_eq_true rfl) (Nat.le_of_ble_eq_true rfl) ⟨(Nat.le_of_ble_eq_true rfl), (Nat.le_of_ble_eq_true rfl)⟩ dX9_sound_46 ?_
          refine J_goto O (tgt := 55) (pc := 49) dX9_sound_49 (by decide) ?_
          have e9 := Option.some.inj hf
          subst e9
          refine J_wsub [0, 1, 2, 3, 4, 5, 6, 7, 8, 9, 10, 11, 12, 13, 14] [(x, .inr (5, [.ref t, .ref o, .ref h, .ref j, .int x_p])), (t, .inr (4, [.ref tb, .int t_l])), (tb, .inl (cB, 6000, .inl (b8 t_f))), (o, .inr (4, [.ref ob, .int o_l])), (ob, .inl (cB, 13044, .inl (b8 o_f))), (h, .inr (0, [.ref d, .ref hk, .ref hs, .int h_c, .ref hu, .ref hn, .ref hg, .int h_e])), (d, .inr (4, [.ref db, .int d_l])), (db, .inl (cB, 12000, .inl (b8 d_f))), (hk, .inl (cI, 60, .inl h_k)), (hs, .inl (cI, 61, .inl h_s)), (hu, .inl (cI, 40, .inl h_u)), (hn, .inl (cJ, 40, .inr (.inl h_n))), (hg, .inl (cI, 40, .inl h_g)), (j, .inr (1, [.ref jp, .int j_c, .int j_a])), (jp, .inl (cI, 60, .inl j_p))] rfl rfl rfl ?_
          exact J_lret O (pc := 55) rfl dX9_sound_55
      · have hf := jt_f c17 hf
        refine J_ldc2 O (pc := 20) mb_X9_sound_2 dX9_sound_20 ?_
        have e9 := Option.some.inj hf
        subst e9
        refine J_widen 1 3 (Nat.le_of_ble_eq_true rfl) (Nat.le_of_ble_eq_true rfl) ?_
        exact J_lret O (pc := 23) rfl dX9_sound_23
theorem in_X9_front_X9 : ∀ w ∈ u_ws RX9 TX9 5, w ∈ wsX9_front := fun _ h => List.mem_cons_of_mem _ (List.mem_append_left _ (List.mem_append_left _ (List.mem_append_left _ (List.mem_append_right _ h))))
theorem mb_X9_front_1 : Cond.fieldLink RX9 24 (TX9 2).1 (TX9 2).2.1 (TX9 2).2.2.1 ∈ wsX9_front := by decide +kernel
theorem mb_X9_front_2 : Cond.constant RX9 153 1181970531 ∈ wsX9_front := by decide +kernel
theorem hdV_X0_firstWith : yX0_firstWith.cls = RX0 ∧ yX0_firstWith.cls ≠ "java/lang/invoke/MethodHandle" ∧ yX0_firstWith.cls ≠ "java/lang/invoke/VarHandle" ∧ (parseMethodDescriptor yX0_firstWith.desc).map (fun d => d.parameters.length) = some 2 := by decide +kernel
theorem mb_X9_front_3 : Cond.constantLong RX9 151 (-2) ∈ wsX9_front := by decide +kernel
abbrev rmX9_front : Room := { frames := 3, cells := 1, slots := 3, locals := 68 }
set_option maxHeartbeats 4000000 in
set_option maxRecDepth 100000 in
theorem c_X9_front (l : Launch) (D : va_G) (cB cI cJ : ClassId) (x t tb o ob h d db hk hs hu hn hg j jp : Nat) (x_p : Int32) (t_l : Int32) (t_f : Nat → Int8) (o_l : Int32) (o_f : Nat → Int8) (h_c : Int32) (h_e : Int32) (d_l : Int32) (d_f : Nat → Int8) (h_k : Nat → Int32) (h_s : Nat → Int32) (h_u : Nat → Int32) (h_n : Nat → Int64) (h_g : Nat → Int32) (j_c : Int32) (j_a : Int32) (j_p : Nat → Int32) (fu : Nat) {z : Int64} (hf : p_X9_front fu h_c d_l d_f h_k h_s = some z) : Cl (l, D, cB, cI, cJ) yX9_front wsX9_front rmX9_front [.ref x] [(x, .inr (5, [.ref t, .ref o, .ref h, .ref j, .int x_p])), (t, .inr (4, [.ref tb, .int t_l])), (tb, .inl (cB, 6000, .inl (b8 t_f))), (o, .inr (4, [.ref ob, .int o_l])), (ob, .inl (cB, 13044, .inl (b8 o_f))), (h, .inr (0, [.ref d, .ref hk, .ref hs, .int h_c, .ref hu, .ref hn, .ref hg, .int h_e])), (d, .inr (4, [.ref db, .int d_l])), (db, .inl (cB, 12000, .inl (b8 d_f))), (hk, .inl (cI, 60, .inl h_k)), (hs, .inl (cI, 61, .inl h_s)), (hu, .inl (cI, 40, .inl h_u)), (hn, .inl (cJ, 40, .inr (.inl h_n))), (hg, .inl (cI, 40, .inl h_g)), (j, .inr (1, [.ref jp, .int j_c, .int j_a])), (jp, .inl (cI, 60, .inl j_p))] [(x, .inr (5, [.ref t, .ref o, .ref h, .ref j, .int x_p])), (t, .inr (4, [.ref tb, .int t_l])), (tb, .inl (cB, 6000, .inl (b8 t_f))), (o, .inr (4, [.ref ob, .int o_l])), (ob, .inl (cB, 13044, .inl (b8 o_f))), (h, .inr (0, [.ref d, .ref hk, .ref hs, .int h_c, .ref hu, .ref hn, .ref hg, .int h_e])), (d, .inr (4, [.ref db, .int d_l])), (db, .inl (cB, 12000, .inl (b8 d_f))), (hk, .inl (cI, 60, .inl h_k)), (hs, .inl (cI, 61, .inl h_s)), (hu, .inl (cI, 40, .inl h_u)), (hn, .inl (cJ, 40, .inr (.inl h_n))), (hg, .inl (cI, 40, .inl h_g)), (j, .inr (1, [.ref jp, .int j_c, .int j_a])), (jp, .inl (cI, 60, .inl j_p))] z := by
  refine Cl_of (cc := cX9_front) (nL := 2) (own := RX9) (ret := (some .long)) (by decide) rfl rfl (Nat.le_of_ble_eq_true rfl) (fun X O hnm0 => ?_)
  rw [p_X9_front] at hf
  show J X 2 (JQl X [(x, .inr (5, [.ref t, .ref o, .ref h, .ref j, .int x_p])), (t, .inr (4, [.ref tb, .int t_l])), (tb, .inl (cB, 6000, .inl (b8 t_f))), (o, .inr (4, [.ref ob, .int o_l])), (ob, .inl (cB, 13044, .inl (b8 o_f))), (h, .inr (0, [.ref d, .ref hk, .ref hs, .int h_c, .ref hu, .ref hn, .ref hg, .int h_e])), (d, .inr (4, [.ref db, .int d_l])), (db, .inl (cB, 12000, .inl (b8 d_f))), (hk, .inl (cI, 60, .inl h_k)), (hs, .inl (cI, 61, .inl h_s)), (hu, .inl (cI, 40, .inl h_u)), (hn, .inl (cJ, 40, .inr (.inl h_n))), (hg, .inl (cI, 40, .inl h_g)), (j, .inr (1, [.ref jp, .int j_c, .int j_a])), (jp, .inl (cI, 60, .inl j_p))] z 1 3) [(x, .inr (5, [.ref t, .ref o, .ref h, .ref j, .int x_p])), (t, .inr (4, [.ref tb, .int t_l])), (tb, .inl (cB, 6000, .inl (b8 t_f))), (o, .inr (4, [.ref ob, .int o_l])), (ob, .inl (cB, 13044, .inl (b8 o_f))), (h, .inr (0, [.ref d, .ref hk, .ref hs, .int h_c, .ref hu, .ref hn, .ref hg, .int h_e])), (d, .inr (4, [.ref db, .int d_l])), (db, .inl (cB, 12000, .inl (b8 d_f))), (hk, .inl (cI, 60, .inl h_k)), (hs, .inl (cI, 61, .inl h_s)), (hu, .inl (cI, 40, .inl h_u)), (hn, .inl (cJ, 40, .inr (.inl h_n))), (hg, .inl (cI, 40, .inl h_g)), (j, .inr (1, [.ref jp, .int j_c, .int j_a])), (jp, .inl (cI, 60, .inl j_p))] 0 0 0 [(0, .ref x)] []
  refine J_aload_n O (i := 0) (k0 := 0) (pc := 0) 0 rfl rfl dX9_front_0 ?_
  refine J_get O (pc := 1) in_X9_front_X9 0 rfl rfl 2 (by decide) mb_X9_front_1 rfl dX9_front_1 ?_
  refine J_ldc O (pc := 4) mb_X9_front_2 dX9_front_4 ?_
  refine J_iconst O (v := 4) (pc := 6) (by decide) dX9_front_6 ?_
  obtain ⟨z7, h7, hf⟩ := jt_b hf
  refine J_callVi O (pc := 7) (c_X0_firstWith l D cB cI cJ h d db hk hs hu hn hg h_c h_e d_l d_f h_k h_s h_u h_n h_g 1181970531 4 fu h7) rfl 0 rfl rfl gX9_front_X0_firstWith hdV_X0_firstWith ⟨(Nat.le_of_ble_eq_true rfl), (Nat.le_of_ble_eq_true rfl)⟩ rfl (st := []) rfl (Nat.le_of_ble_eq_true rfl) [5, 6, 7, 8, 9, 10, 11, 12] [0, 1, 2, 3, 4, 13, 14] rfl rfl rfl rfl rfl (by decide) [(x, .inr (5, [.ref t, .ref o, .ref h, .ref j, .int x_p])), (t, .inr (4, [.ref tb, .int t_l])), (tb, .inl (cB, 6000, .inl (b8 t_f))), (o, .inr (4, [.ref ob, .int o_l])), (ob, .inl (cB, 13044, .inl (b8 o_f))), (h, .inr (0, [.ref d, .ref hk, .ref hs, .int h_c, .ref hu, .ref hn, .ref hg, .int h_e])), (d, .inr (4, [.ref db, .int d_l])), (db, .inl (cB, 12000, .inl (b8 d_f))), (hk, .inl (cI, 60, .inl h_k)), (hs, .inl (cI, 61, .inl h_s)), (hu, .inl (cI, 40, .inl h_u)), (hn, .inl (cJ, 40, .inr (.inl h_n))), (hg, .inl (cI, 40, .inl h_g)), (j, .inr (1, [.ref jp, .int j_c, .int j_a])), (jp, .inl (cI, 60, .inl j_p))] [0, 1, 2, 3, 4, 7, 8, 9, 10, 11, 12, 13, 14, 5, 6] rfl rfl rfl (0) (0) (Nat.le_of_ble_eq_true rfl) (Nat.le_of_ble_eq_true rfl) ⟨(Nat.le_of_ble_eq_true rfl), (Nat.le_of_ble_eq_true rfl)⟩ dX9_front_7 ?_
  refine J_istore_n O (i := 1) (k0 := 1) (pc := 10) rfl [(1, .int z7), (0, .ref x)] (by decide) rfl dX9_front_10 ?_
  refine J_aload_n O (i := 0) (k0 := 0) (pc := 11) 1 rfl rfl dX9_front_11 ?_
  refine J_get O (pc := 12) in_X9_front_X9 0 rfl rfl 2 (by decide) mb_X9_front_1 rfl dX9_front_12 ?_
  refine J_iload_n O (i := 1) (k0 := 1) (pc := 15) 0 rfl rfl dX9_front_15 ?_
  obtain ⟨z16, h16, hf⟩ := jt_b hf
  refine J_callVi O (pc := 16) (c_X0_hasChunk l D cB cI cJ h d db hk hs hu hn hg h_c h_e d_l d_f h_k h_s h_u h_n h_g z7 h16) rfl 0 rfl rfl gX9_front_X0_hasChunk hdV_X0_hasChunk ⟨(Nat.le_of_ble_eq_true rfl), (Nat.le_of_ble_eq_true rfl)⟩ rfl (st := []) rfl (Nat.le_of_ble_eq_true rfl) [5, 6, 7, 8, 9, 10, 11, 12] [0, 1, 2, 3, 4, 13, 14] rfl rfl rfl rfl rfl (by decide) [(x, .inr (5, [.ref t, .ref o, .ref h, .ref j, .int x_p])), (t, .inr (4, [.ref tb, .int t_l])), (tb, .inl (cB, 6000, .inl (b8 t_f))), (o, .inr (4, [.ref ob, .int o_l])), (ob, .inl (cB, 13044, .inl (b8 o_f))), (h, .inr (0, [.ref d, .ref hk, .ref hs, .int h_c, .ref hu, .ref hn, .ref hg, .int h_e])), (d, .inr (4, [.ref db, .int d_l])), (db, .inl (cB, 12000, .inl (b8 d_f))), (hk, .inl (cI, 60, .inl h_k)), (hs, .inl (cI, 61, .inl h_s)), (hu, .inl (cI, 40, .inl h_u)), (hn, .inl (cJ, 40, .inr (.inl h_n))), (hg, .inl (cI, 40, .inl h_g)), (j, .inr (1, [.ref jp, .int j_c, .int j_a])), (jp, .inl (cI, 60, .inl j_p))] [0, 1, 2, 3, 4, 7, 8, 9, 10, 11, 12, 13, 14, 5, 6] rfl rfl rfl (0) (0) (Nat.le_of_ble_eq_true rfl) (Nat.le_of_ble_eq_true rfl) ⟨(Nat.le_of_ble_eq_true rfl), (Nat.le_of_ble_eq_true rfl)⟩ dX9_front_16 ?_
  refine J_zeq O (tgt := 37) (pc := 19) dX9_front_19 (by decide) (fun c19 => ?_) (fun c19 => ?_)
  · have hf := jt_f c19 hf
    refine J_ldc2 O (pc := 37) mb_X9_front_3 dX9_front_37 ?_
    have e9 := Option.some.inj hf
    subst e9
    refine J_widen 1 3 (Nat.le_of_ble_eq_true rfl) (Nat.le_of_ble_eq_true rfl) ?_
    exact J_lret O (pc := 40) rfl dX9_front_40
  · have hf := jt_t c19 hf
    refine J_aload_n O (i := 0) (k0 := 0) (pc := 22) 1 rfl rfl dX9_front_22 ?_
    refine J_get O (pc := 23) in_X9_front_X9 0 rfl rfl 2 (by decide) mb_X9_front_1 rfl dX9_front_23 ?_
    refine J_iload_n O (i := 1) (k0 := 1) (pc := 26) 0 rfl rfl dX9_front_26 ?_
    obtain ⟨z27, h27, hf⟩ := jt_b hf
    refine J_callVr O (pc := 27) (c_X0_dataOf l D cB cI cJ h d db hk hs hu hn hg h_c h_e d_l d_f h_k h_s h_u h_n h_g z7 h27) rfl 0 rfl rfl gX9_front_X0_dataOf hdV_X0_dataOf ⟨(Nat.le_of_ble_eq_true rfl), (Nat.le_of_ble_eq_true rfl)⟩ rfl (st := []) rfl (Nat.le_of_ble_eq_true rfl) [5, 6, 7, 8, 9, 10, 11, 12] [0, 1, 2, 3, 4, 13, 14] rfl rfl rfl rfl rfl (by decide) (fun q27 => [(x, .inr (5, [.ref t, .ref o, .ref h, .ref j, .int x_p])), (t, .inr (4, [.ref tb, .int t_l])), (tb, .inl (cB, 6000, .inl (b8 t_f))), (o, .inr (4, [.ref ob, .int o_l])), (ob, .inl (cB, 13044, .inl (b8 o_f))), (h, .inr (0, [.ref d, .ref hk, .ref hs, .int h_c, .ref hu, .ref hn, .ref hg, .int h_e])), (d, .inr (4, [.ref db, .int d_l])), (db, .inl (cB, 12000, .inl (b8 d_f))), (hk, .inl (cI, 60, .inl h_k)), (hs, .inl (cI, 61, .inl h_s)), (hu, .inl (cI, 40, .inl h_u)), (hn, .inl (cJ, 40, .inr (.inl h_n))), (hg, .inl (cI, 40, .inl h_g)), (j, .inr (1, [.ref jp, .int j_c, .int j_a])), (jp, .inl (cI, 60, .inl j_p)), (q27, .inr (2, [.ref d, .int z27.1, .int z27.2]))]) [0, 1, 2, 3, 4, 7, 8, 9, 10, 11, 12, 13, 14, 5, 6, 15] rfl (fun _ => rfl) (fun _ => rfl) (1) (3) (Nat.le_of_ble_eq_true rfl) (Nat.le_of_ble_eq_true rfl) ⟨(Nat.le_of_ble_eq_true rfl), (Nat.le_of_ble_eq_true rfl)⟩ dX9_front_27 (fun q27 => ?_)
    refine J_iconst O (v := 0) (pc := 30) (by decide) dX9_front_30 ?_
    obtain ⟨z31, h31, hf⟩ := jt_b hf
    refine J_callVl O (pc := 31) (c_X3_u4 l D cB cI cJ q27 d db 12000 z27.1 z27.2 d_l d_f 0 fu h31) rfl 0 rfl rfl gX9_front_X3_u4 hdV_X3_u4 ⟨(Nat.le_of_ble_eq_true rfl), (Nat.le_of_ble_eq_true rfl)⟩ rfl (st := []) rfl (Nat.le_of_ble_eq_true rfl) [15, 6, 7] [0, 1, 2, 3, 4, 5, 8, 9, 10, 11, 12, 13, 14] rfl rfl rfl rfl rfl (by decide) [(x, .inr (5, [.ref t, .ref o, .ref h, .ref j, .int x_p])), (t, .inr (4, [.ref tb, .int t_l])), (tb, .inl (cB, 6000, .inl (b8 t_f))), (o, .inr (4, [.ref ob, .int o_l])), (ob, .inl (cB, 13044, .inl (b8 o_f))), (h, .inr (0, [.ref d, .ref hk, .ref hs, .int h_c, .ref hu, .ref hn, .ref hg, .int h_e])), (d, .inr (4, [.ref db, .int d_l])), (db, .inl (cB, 12000, .inl (b8 d_f))), (hk, .inl (cI, 60, .inl h_k)), (hs, .inl (cI, 61, .inl h_s)), (hu, .inl (cI, 40, .inl h_u)), (hn, .inl (cJ, 40, .inr (.inl h_n))), (hg, .inl (cI, 40, .inl h_g)), (j, .inr (1, [.ref jp, .int j_c, .int j_a])), (jp, .inl (cI, 60, .inl j_p)), (q27, .inr (2, [.ref d, .int z27.1, .int z27.2]))] [0, 1, 2, 3, 4, 5, 14, 15, 6, 7, 8, 9, 10, 11, 12, 13] rfl rfl rfl (1) (3) (Nat.le_of_ble_eq_true rfl) (Nat.le_of_ble_eq_true rfl) ⟨(Nat.le_of_ble_eq_true rfl), (Nat.le_of_ble_eq_true rfl)⟩ dX9_front_31 ?_
    refine J_goto O (tgt := 40) (pc := 34) dX9_front_34 (by decide) ?_
    have e9 := Option.some.inj hf
    subst e9
    refine J_wsub [0, 1, 2, 3, 4, 5, 6, 7, 8, 9, 10, 11, 12, 13, 14] [(x, .inr (5, [.ref t, .ref o, .ref h, .ref j, .int x_p])), (t, .inr (4, [.ref tb, .int t_l])), (tb, .inl (cB, 6000, .inl (b8 t_f))), (o, .inr (4, [.ref ob, .int o_l])), (ob, .inl (cB, 13044, .inl (b8 o_f))), (h, .inr (0, [.ref d, .ref hk, .ref hs, .int h_c, .ref hu, .ref hn, .ref hg, .int h_e])), (d, .inr (4, [.ref db, .int d_l])), (db, .inl (cB, 12000, .inl (b8 d_f))), (hk, .inl (cI, 60, .inl h_k)), (hs, .inl (cI, 61, .inl h_s)), (hu, .inl (cI, 40, .inl h_u)), (hn, .inl (cJ, 40, .inr (.inl h_n))), (hg, .inl (cI, 40, .inl h_g)), (j, .inr (1, [.ref jp, .int j_c, .int j_a])), (jp, .inl (cI, 60, .inl j_p))] rfl rfl rfl ?_
    exact J_lret O (pc := 40) rfl dX9_front_40
theorem in_X9_release_X9 : ∀ w ∈ u_ws RX9 TX9 5, w ∈ wsX9_release := fun _ h => List.mem_cons_of_mem _ (List.mem_append_left _ (List.mem_append_left _ (List.mem_append_left _ (List.mem_append_right _ h))))
theorem mb_X9_release_1 : Cond.fieldLink RX9 24 (TX9 2).1 (TX9 2).2.1 (TX9 2).2.2.1 ∈ wsX9_release := by decide +kernel
theorem mb_X9_release_2 : Cond.constant RX9 162 1382378574 ∈ wsX9_release := by decide +kernel
abbrev rmX9_release : Room := { frames := 3, cells := 1, slots := 3, locals := 68 }
set_option maxHeartbeats 4000000 in
set_option maxRecDepth 100000 in
theorem c_X9_release (l : Launch) (D : va_G) (cB cI cJ : ClassId) (x t tb o ob h d db hk hs hu hn hg j jp : Nat) (x_p : Int32) (t_l : Int32) (t_f : Nat → Int8) (o_l : Int32) (o_f : Nat → Int8) (h_c : Int32) (h_e : Int32) (d_l : Int32) (d_f : Nat → Int8) (h_k : Nat → Int32) (h_s : Nat → Int32) (h_u : Nat → Int32) (h_n : Nat → Int64) (h_g : Nat → Int32) (j_c : Int32) (j_a : Int32) (j_p : Nat → Int32) (fu : Nat) {z : Int32} (hf : p_X9_release fu h_c d_l d_f h_k h_s = some z) : Ci (l, D, cB, cI, cJ) yX9_release wsX9_release rmX9_release [.ref x] [(x, .inr (5, [.ref t, .ref o, .ref h, .ref j, .int x_p])), (t, .inr (4, [.ref tb, .int t_l])), (tb, .inl (cB, 6000, .inl (b8 t_f))), (o, .inr (4, [.ref ob, .int o_l])), (ob, .inl (cB, 13044, .inl (b8 o_f))), (h, .inr (0, [.ref d, .ref hk, .ref hs, .int h_c, .ref hu, .ref hn, .ref hg, .int h_e])), (d, .inr (4, [.ref db, .int d_l])), (db, .inl (cB, 12000, .inl (b8 d_f))), (hk, .inl (cI, 60, .inl h_k)), (hs, .inl (cI, 61, .inl h_s)), (hu, .inl (cI, 40, .inl h_u)), (hn, .inl (cJ, 40, .inr (.inl h_n))), (hg, .inl (cI, 40, .inl h_g)), (j, .inr (1, [.ref jp, .int j_c, .int j_a])), (jp, .inl (cI, 60, .inl j_p))] [(x, .inr (5, [.ref t, .ref o, .ref h, .ref j, .int x_p])), (t, .inr (4, [.ref tb, .int t_l])), (tb, .inl (cB, 6000, .inl (b8 t_f))), (o, .inr (4, [.ref ob, .int o_l])), (ob, .inl (cB, 13044, .inl (b8 o_f))), (h, .inr (0, [.ref d, .ref hk, .ref hs, .int h_c, .ref hu, .ref hn, .ref hg, .int h_e])), (d, .inr (4, [.ref db, .int d_l])), (db, .inl (cB, 12000, .inl (b8 d_f))), (hk, .inl (cI, 60, .inl h_k)), (hs, .inl (cI, 61, .inl h_s)), (hu, .inl (cI, 40, .inl h_u)), (hn, .inl (cJ, 40, .inr (.inl h_n))), (hg, .inl (cI, 40, .inl h_g)), (j, .inr (1, [.ref jp, .int j_c, .int j_a])), (jp, .inl (cI, 60, .inl j_p))] z := by
  refine Ci_of (cc := cX9_release) (nL := 2) (own := RX9) (ret := (some .int)) (by decide) rfl rfl (Nat.le_of_ble_eq_true rfl) (fun X O hnm0 => ?_)
  rw [p_X9_release] at hf
  show J X 2 (JQi X [(x, .inr (5, [.ref t, .ref o, .ref h, .ref j, .int x_p])), (t, .inr (4, [.ref tb, .int t_l])), (tb, .inl (cB, 6000, .inl (b8 t_f))), (o, .inr (4, [.ref ob, .int o_l])), (ob, .inl (cB, 13044, .inl (b8 o_f))), (h, .inr (0, [.ref d, .ref hk, .ref hs, .int h_c, .ref hu, .ref hn, .ref hg, .int h_e])), (d, .inr (4, [.ref db, .int d_l])), (db, .inl (cB, 12000, .inl (b8 d_f))), (hk, .inl (cI, 60, .inl h_k)), (hs, .inl (cI, 61, .inl h_s)), (hu, .inl (cI, 40, .inl h_u)), (hn, .inl (cJ, 40, .inr (.inl h_n))), (hg, .inl (cI, 40, .inl h_g)), (j, .inr (1, [.ref jp, .int j_c, .int j_a])), (jp, .inl (cI, 60, .inl j_p))] z 1 3) [(x, .inr (5, [.ref t, .ref o, .ref h, .ref j, .int x_p])), (t, .inr (4, [.ref tb, .int t_l])), (tb, .inl (cB, 6000, .inl (b8 t_f))), (o, .inr (4, [.ref ob, .int o_l])), (ob, .inl (cB, 13044, .inl (b8 o_f))), (h, .inr (0, [.ref d, .ref hk, .ref hs, .int h_c, .ref hu, .ref hn, .ref hg, .int h_e])), (d, .inr (4, [.ref db, .int d_l])), (db, .inl (cB, 12000, .inl (b8 d_f))), (hk, .inl (cI, 60, .inl h_k)), (hs, .inl (cI, 61, .inl h_s)), (hu, .inl (cI, 40, .inl h_u)), (hn, .inl (cJ, 40, .inr (.inl h_n))), (hg, .inl (cI, 40, .inl h_g)), (j, .inr (1, [.ref jp, .int j_c, .int j_a])), (jp, .inl (cI, 60, .inl j_p))] 0 0 0 [(0, .ref x)] []
  refine J_aload_n O (i := 0) (k0 := 0) (pc := 0) 0 rfl rfl dX9_release_0 ?_
  refine J_get O (pc := 1) in_X9_release_X9 0 rfl rfl 2 (by decide) mb_X9_release_1 rfl dX9_release_1 ?_
  refine J_ldc O (pc := 4) mb_X9_release_2 dX9_release_4 ?_
  refine J_iconst O (v := 2) (pc := 6) (by decide) dX9_release_6 ?_
  obtain ⟨z7, h7, hf⟩ := jt_b hf
  refine J_callVi O (pc := 7) (c_X0_firstWith l D cB cI cJ h d db hk hs hu hn hg h_c h_e d_l d_f h_k h_s h_u h_n h_g 1382378574 2 fu h7) rfl 0 rfl rfl gX9_release_X0_firstWith hdV_X0_firstWith ⟨(Nat.le_of_ble_eq_true rfl), (Nat.le_of_ble_eq_true rfl)⟩ rfl (st := []) rfl (Nat.le_of_ble_eq_true rfl) [5, 6, 7, 8, 9, 10, 11, 12] [0, 1, 2, 3, 4, 13, 14] rfl rfl rfl rfl rfl (by decide) [(x, .inr (5, [.ref t, .ref o, .ref h, .ref j, .int x_p])), (t, .inr (4, [.ref tb, .int t_l])), (tb, .inl (cB, 6000, .inl (b8 t_f))), (o, .inr (4, [.ref ob, .int o_l])), (ob, .inl (cB, 13044, .inl (b8 o_f))), (h, .inr (0, [.ref d, .ref hk, .ref hs, .int h_c, .ref hu, .ref hn, .ref hg, .int h_e])), (d, .inr (4, [.ref db, .int d_l])), (db, .inl (cB, 12000, .inl (b8 d_f))), (hk, .inl (cI, 60, .inl h_k)), (hs, .inl (cI, 61, .inl h_s)), (hu, .inl (cI, 40, .inl h_u)), (hn, .inl (cJ, 40, .inr (.inl h_n))), (hg, .inl (cI, 40, .inl h_g)), (j, .inr (1, [.ref jp, .int j_c, .int j_a])), (jp, .inl (cI, 60, .inl j_p))] [0, 1, 2, 3, 4, 7, 8, 9, 10, 11, 12, 13, 14, 5, 6] rfl rfl rfl (0) (0) (Nat.le_of_ble_eq_true rfl) (Nat.le_of_ble_eq_true rfl) ⟨(Nat.le_of_ble_eq_true rfl), (Nat.le_of_ble_eq_true rfl)⟩ dX9_release_7 ?_
  refine J_istore_n O (i := 1) (k0 := 1) (pc := 10) rfl [(1, .int z7), (0, .ref x)] (by decide) rfl dX9_release_10 ?_
  refine J_aload_n O (i := 0) (k0 := 0) (pc := 11) 1 rfl rfl dX9_release_11 ?_
  refine J_get O (pc := 12) in_X9_release_X9 0 rfl rfl 2 (by decide) mb_X9_release_1 rfl dX9_release_12 ?_
  refine J_iload_n O (i := 1) (k0 := 1) (pc := 15) 0 rfl rfl dX9_release_15 ?_
  obtain ⟨z16, h16, hf⟩ := jt_b hf
  refine J_callVi O (pc := 16) (c_X0_hasChunk l D cB cI cJ h d db hk hs hu hn hg h_c h_e d_l d_f h_k h_s h_u h_n h_g z7 h16) rfl 0 rfl rfl gX9_release_X0_hasChunk hdV_X0_hasChunk ⟨(Nat.le_of_ble_eq_true rfl), (Nat.le_of_ble_eq_true rfl)⟩ rfl (st := []) rfl (Nat.le_of_ble_eq_true rfl) [5, 6, 7, 8, 9, 10, 11, 12] [0, 1, 2, 3, 4, 13, 14] rfl rfl rfl rfl rfl (by decide) [(x, .inr (5, [.ref t, .ref o, .ref h, .ref j, .int x_p])), (t, .inr (4, [.ref tb, .int t_l])), (tb, .inl (cB, 6000, .inl (b8 t_f))), (o, .inr (4, [.ref ob, .int o_l])), (ob, .inl (cB, 13044, .inl (b8 o_f))), (h, .inr (0, [.ref d, .ref hk, .ref hs, .int h_c, .ref hu, .ref hn, .ref hg, .int h_e])), (d, .inr (4, [.ref db, .int d_l])), (db, .inl (cB, 12000, .inl (b8 d_f))), (hk, .inl (cI, 60, .inl h_k)), (hs, .inl (cI, 61, .inl h_s)), (hu, .inl (cI, 40, .inl h_u)), (hn, .inl (cJ, 40, .inr (.inl h_n))), (hg, .inl (cI, 40, .inl h_g)), (j, .inr (1, [.ref jp, .int j_c, .int j_a])), (jp, .inl (cI, 60, .inl j_p))] [0, 1, 2, 3, 4, 7, 8, 9, 10, 11, 12, 13, 14, 5, 6] rfl rfl rfl (0) (0) (Nat.le_of_ble_eq_true rfl) (Nat.le_of_ble_eq_true rfl) ⟨(Nat.le_of_ble_eq_true rfl), (Nat.le_of_ble_eq_true rfl)⟩ dX9_release_16 ?_
  refine J_zeq O (tgt := 37) (pc := 19) dX9_release_19 (by decide) (fun c19 => ?_) (fun c19 => ?_)
  · have hf := jt_f c19 hf
    refine J_bipush O (v := (-2)) (pc := 37) (by decide) dX9_release_37 ?_
    have e9 := Option.some.inj hf
    subst e9
    refine J_widen 1 3 (Nat.le_of_ble_eq_true rfl) (Nat.le_of_ble_eq_true rfl) ?_
    exact J_iret O (pc := 39) rfl dX9_release_39
  · have hf := jt_t c19 hf
    refine J_aload_n O (i := 0) (k0 := 0) (pc := 22) 1 rfl rfl dX9_release_22 ?_
    refine J_get O (pc := 23) in_X9_release_X9 0 rfl rfl 2 (by decide) mb_X9_release_1 rfl dX9_release_23 ?_
    refine J_iload_n O (i := 1) (k0 := 1) (pc := 26) 0 rfl rfl dX9_release_26 ?_
    obtain ⟨z27, h27, hf⟩ := jt_b hf
    refine J_callVr O (pc := 27) (c_X0_dataOf l D cB cI cJ h d db hk hs hu hn hg h_c h_e d_l d_f h_k h_s h_u h_n h_g z7 h27) rfl 0 rfl rfl gX9_release_X0_dataOf hdV_X0_dataOf ⟨(Nat.le_of_ble_eq_true rfl), (Nat.le_of_ble_eq_true rfl)⟩ rfl (st := []) rfl (Nat.le_of_ble_eq_true rfl) [5, 6, 7, 8, 9, 10, 11, 12] [0, 1, 2, 3, 4, 13, 14] rfl rfl rfl rfl rfl (by decide) (fun q27 => [(x, .inr (5, [.ref t, .ref o, .ref h, .ref j, .int x_p])), (t, .inr (4, [.ref tb, .int t_l])), (tb, .inl (cB, 6000, .inl (b8 t_f))), (o, .inr (4, [.ref ob, .int o_l])), (ob, .inl (cB, 13044, .inl (b8 o_f))), (h, .inr (0, [.ref d, .ref hk, .ref hs, .int h_c, .ref hu, .ref hn, .ref hg, .int h_e])), (d, .inr (4, [.ref db, .int d_l])), (db, .inl (cB, 12000, .inl (b8 d_f))), (hk, .inl (cI, 60, .inl h_k)), (hs, .inl (cI, 61, .inl h_s)), (hu, .inl (cI, 40, .inl h_u)), (hn, .inl (cJ, 40, .inr (.inl h_n))), (hg, .inl (cI, 40, .inl h_g)), (j, .inr (1, [.ref jp, .int j_c, .int j_a])), (jp, .inl (cI, 60, .inl j_p)), (q27, .inr (2, [.ref d, .int z27.1, .int z27.2]))]) [0, 1, 2, 3, 4, 7, 8, 9, 10, 11, 12, 13, 14, 5, 6, 15] rfl (fun _ => rfl) (fun _ => rfl) (1) (3) (Nat.le_of_ble_eq_true rfl) (Nat.le_of_ble_eq_true rfl) ⟨(Nat.le_of_ble_eq_true rfl), (Nat.le_of_ble_eq_true rfl)⟩ dX9_release_27 (fun q27 => ?_)
    refine J_iconst O (v := 0) (pc := 30) (by decide) dX9_release_30 ?_
    obtain ⟨z31, h31, hf⟩ := jt_b hf
    refine J_callVi O (pc := 31) (c_X3_u2 l D cB cI cJ q27 d db 12000 z27.1 z27.2 d_l d_f 0 fu h31) rfl 0 rfl rfl gX9_release_X3_u2 hdV_X3_u2 ⟨(Nat.le_of_ble_eq_true rfl), (Nat.le_of_ble_eq_true rfl)⟩ rfl (st := []) rfl (Nat.le_of_ble_eq_true rfl) [15, 6, 7] [0, 1, 2, 3, 4, 5, 8, 9, 10, 11, 12, 13, 14] rfl rfl rfl rfl rfl (by decide) [(x, .inr (5, [.ref t, .ref o, .ref h, .ref j, .int x_p])), (t, .inr (4, [.ref tb, .int t_l])), (tb, .inl (cB, 6000, .inl (b8 t_f))), (o, .inr (4, [.ref ob, .int o_l])), (ob, .inl (cB, 13044, .inl (b8 o_f))), (h, .inr (0, [.ref d, .ref hk, .ref hs, .int h_c, .ref hu, .ref hn, .ref hg, .int h_e])), (d, .inr (4, [.ref db, .int d_l])), (db, .inl (cB, 12000, .inl (b8 d_f))), (hk, .inl (cI, 60, .inl h_k)), (hs, .inl (cI, 61, .inl h_s)), (hu, .inl (cI, 40, .inl h_u)), (hn, .inl (cJ, 40, .inr (.inl h_n))), (hg, .inl (cI, 40, .inl h_g)), (j, .inr (1, [.ref jp, .int j_c, .int j_a])), (jp, .inl (cI, 60, .inl j_p)), (q27, .inr (2, [.ref d, .int z27.1, .int z27.2]))] [0, 1, 2, 3, 4, 5, 14, 15, 6, 7, 8, 9, 10, 11, 12, 13] rfl rfl rfl (1) (3) (Nat.le_of_ble_eq_true rfl) (Nat.le_of_ble_eq_true rfl) ⟨(Nat.le_of_ble_eq_true rfl), (Nat.le_of_ble_eq_true rfl)⟩ dX9_release_31 ?_
    refine J_goto O (tgt := 39) (pc := 34) dX9_release_34 (by decide) ?_
    have e9 := Option.some.inj hf
    subst e9
    refine J_wsub [0, 1, 2, 3, 4, 5, 6, 7, 8, 9, 10, 11, 12, 13, 14] [(x, .inr (5, [.ref t, .ref o, .ref h, .ref j, .int x_p])), (t, .inr (4, [.ref tb, .int t_l])), (tb, .inl (cB, 6000, .inl (b8 t_f))), (o, .inr (4, [.ref ob, .int o_l])), (ob, .inl (cB, 13044, .inl (b8 o_f))), (h, .inr (0, [.ref d, .ref hk, .ref hs, .int h_c, .ref hu, .ref hn, .ref hg, .int h_e])), (d, .inr (4, [.ref db, .int d_l])), (db, .inl (cB, 12000, .inl (b8 d_f))), (hk, .inl (cI, 60, .inl h_k)), (hs, .inl (cI, 61, .inl h_s)), (hu, .inl (cI, 40, .inl h_u)), (hn, .inl (cJ, 40, .inr (.inl h_n))), (hg, .inl (cI, 40, .inl h_g)), (j, .inr (1, [.ref jp, .int j_c, .int j_a])), (jp, .inl (cI, 60, .inl j_p))] rfl rfl rfl ?_
    exact J_iret O (pc := 39) rfl dX9_release_39
theorem in_X9_colour_X9 : ∀ w ∈ u_ws RX9 TX9 5, w ∈ wsX9_colour := fun _ h => List.mem_cons_of_mem _ (List.mem_append_left _ (List.mem_append_left _ (List.mem_append_left _ (List.mem_append_right _ h))))
theorem mb_X9_colour_1 : Cond.fieldLink RX9 24 (TX9 2).1 (TX9 2).2.1 (TX9 2).2.2.1 ∈ wsX9_colour := by decide +kernel
theorem mb_X9_colour_2 : Cond.constant RX9 166 1349284965 ∈ wsX9_colour := by decide +kernel
theorem hdV_X0_firstOf : yX0_firstOf.cls = RX0 ∧ yX0_firstOf.cls ≠ "java/lang/invoke/MethodHandle" ∧ yX0_firstOf.cls ≠ "java/lang/invoke/VarHandle" ∧ (parseMethodDescriptor yX0_firstOf.desc).map (fun d => d.parameters.length) = some 1 := by decide +kernel
theorem in_X9_colour_X3 : ∀ w ∈ u_ws RX3 TX3 3, w ∈ wsX9_colour := fun _ h => List.mem_cons_of_mem _ (List.mem_append_left _ (List.mem_append_left _ (List.mem_append_right _ h)))
theorem mb_X9_colour_4 : Cond.fieldLink RX9 170 (TX3 2).1 (TX3 2).2.1 (TX3 2).2.2.1 ∈ wsX9_colour := by decide +kernel
abbrev rmX9_colour : Room := { frames := 3, cells := 1, slots := 3, locals := 68 }
set_option maxHeartbeats 4000000 in
set_option maxRecDepth 100000 in
theorem c_X9_colour (l : Launch) (D : va_G) (cB cI cJ : ClassId) (x t tb o ob h d db hk hs hu hn hg j jp : Nat) (x_p : Int32) (t_l : Int32) (t_f : Nat → Int8) (o_l : Int32) (o_f : Nat → Int8) (h_c : Int32) (h_e : Int32) (d_l : Int32) (d_f : Nat → Int8) (h_k : Nat → Int32) (h_s : Nat → Int32) (h_u : Nat → Int32) (h_n : Nat → Int64) (h_g : Nat → Int32) (j_c : Int32) (j_a : Int32) (j_p : Nat → Int32) (a1 : Int32) (fu : Nat) {z : Int32} (hf : p_X9_colour fu h_c d_l d_f h_k h_s a1 = some z) : Ci (l, D, cB, cI, cJ) yX9_colour wsX9_colour rmX9_colour [.ref x, .int a1] [(x, .inr (5, [.ref t, .ref o, .ref h, .ref j, .int x_p])), (t, .inr (4, [.ref tb, .int t_l])), (tb, .inl (cB, 6000, .inl (b8 t_f))), (o, .inr (4, [.ref ob, .int o_l])), (ob, .inl (cB, 13044, .inl (b8 o_f))), (h, .inr (0, [.ref d, .ref hk, .ref hs, .int h_c, .ref hu, .ref hn, .ref hg, .int h_e])), (d, .inr (4, [.ref db, .int d_l])), (db, .inl (cB, 12000, .inl (b8 d_f))), (hk, .inl (cI, 60, .inl h_k)), (hs, .inl (cI, 61, .inl h_s)), (hu, .inl (cI, 40, .inl h_u)), (hn, .inl (cJ, 40, .inr (.inl h_n))), (hg, .inl (cI, 40, .inl h_g)), (j, .inr (1, [.ref jp, .int j_c, .int j_a])), (jp, .inl (cI, 60, .inl j_p))] [(x, .inr (5, [.ref t, .ref o, .ref h, .ref j, .int x_p])), (t, .inr (4, [.ref tb, .int t_l])), (tb, .inl (cB, 6000, .inl (b8 t_f))), (o, .inr (4, [.ref ob, .int o_l])), (ob, .inl (cB, 13044, .inl (b8 o_f))), (h, .inr (0, [.ref d, .ref hk, .ref hs, .int h_c, .ref hu, .ref hn, .ref hg, .int h_e])), (d, .inr (4, [.ref db, .int d_l])), (db, .inl (cB, 12000, .inl (b8 d_f))), (hk, .inl (cI, 60, .inl h_k)), (hs, .inl (cI, 61, .inl h_s)), (hu, .inl (cI, 40, .inl h_u)), (hn, .inl (cJ, 40, .inr (.inl h_n))), (hg, .inl (cI, 40, .inl h_g)), (j, .inr (1, [.ref jp, .int j_c, .int j_a])), (jp, .inl (cI, 60, .inl j_p))] z := by
  refine Ci_of (cc := cX9_colour) (nL := 3) (own := RX9) (ret := (some .int)) (by decide) rfl rfl (Nat.le_of_ble_eq_true rfl) (fun X O hnm0 => ?_)
  rw [p_X9_colour] at hf
  show J X 3 (JQi X [(x, .inr (5, [.ref t, .ref o, .ref h, .ref j, .int x_p])), (t, .inr (4, [.ref tb, .int t_l])), (tb, .inl (cB, 6000, .inl (b8 t_f))), (o, .inr (4, [.ref ob, .int o_l])), (ob, .inl (cB, 13044, .inl (b8 o_f))), (h, .inr (0, [.ref d, .ref hk, .ref hs, .int h_c, .ref hu, .ref hn, .ref hg, .int h_e])), (d, .inr (4, [.ref db, .int d_l])), (db, .inl (cB, 12000, .inl (b8 d_f))), (hk, .inl (cI, 60, .inl h_k)), (hs, .inl (cI, 61, .inl h_s)), (hu, .inl (cI, 40, .inl h_u)), (hn, .inl (cJ, 40, .inr (.inl h_n))), (hg, .inl (cI, 40, .inl h_g)), (j, .inr (1, [.ref jp, .int j_c, .int j_a])), (jp, .inl (cI, 60, .inl j_p))] z 1 3) [(x, .inr (5, [.ref t, .ref o, .ref h, .ref j, .int x_p])), (t, .inr (4, [.ref tb, .int t_l])), (tb, .inl (cB, 6000, .inl (b8 t_f))), (o, .inr (4, [.ref ob, .int o_l])), (ob, .inl (cB, 13044, .inl (b8 o_f))), (h, .inr (0, [.ref d, .ref hk, .ref hs, .int h_c, .ref hu, .ref hn, .ref hg, .int h_e])), (d, .inr (4, [.ref db, .int d_l])), (db, .inl (cB, 12000, .inl (b8 d_f))), (hk, .inl (cI, 60, .inl h_k)), (hs, .inl (cI, 61, .inl h_s)), (hu, .inl (cI, 40, .inl h_u)), (hn, .inl (cJ, 40, .inr (.inl h_n))), (hg, .inl (cI, 40, .inl h_g)), (j, .inr (1, [.ref jp, .int j_c, .int j_a])), (jp, .inl (cI, 60, .inl j_p))] 0 0 0 [(0, .ref x), (1, .int a1)] []
  refine J_iload_n O (i := 1) (k0 := 1) (pc := 0) 1 rfl rfl dX9_colour_0 ?_
  refine J_if_ge O (tgt := 6) (pc := 1) dX9_colour_1 (by decide) (fun c1 => ?_) (fun c1 => ?_)
  · have hf := jt_t c1 hf
    refine J_aload_n O (i := 0) (k0 := 0) (pc := 6) 0 rfl rfl dX9_colour_6 ?_
    refine J_get O (pc := 7) in_X9_colour_X9 0 rfl rfl 2 (by decide) mb_X9_colour_1 rfl dX9_colour_7 ?_
    refine J_aload_n O (i := 0) (k0 := 0) (pc := 10) 0 rfl rfl dX9_colour_10 ?_
    refine J_get O (pc := 11) in_X9_colour_X9 0 rfl rfl 2 (by decide) mb_X9_colour_1 rfl dX9_colour_11 ?_
    refine J_ldc O (pc := 14) mb_X9_colour_2 dX9_colour_14 ?_
    obtain ⟨z16, h16, hf⟩ := jt_b hf
    refine J_callVi O (pc := 16) (c_X0_firstOf l D cB cI cJ h d db hk hs hu hn hg h_c h_e d_l d_f h_k h_s h_u h_n h_g 1349284965 fu h16) rfl 0 rfl rfl gX9_colour_X0_firstOf hdV_X0_firstOf ⟨(Nat.le_of_ble_eq_true rfl), (Nat.le_of_ble_eq_true rfl)⟩ rfl (st := [.ref h]) rfl (Nat.le_of_ble_eq_true rfl) [5, 6, 7, 8, 9, 10, 11, 12] [0, 1, 2, 3, 4, 13, 14] rfl rfl rfl rfl rfl (by decide) [(x, .inr (5, [.ref t, .ref o, .ref h, .ref j, .int x_p])), (t, .inr (4, [.ref tb, .int t_l])), (tb, .inl (cB, 6000, .inl (b8 t_f))), (o, .inr (4, [.ref ob, .int o_l])), (ob, .inl (cB, 13044, .inl (b8 o_f))), (h, .inr (0, [.ref d, .ref hk, .ref hs, .int h_c, .ref hu, .ref hn, .ref hg, .int h_e])), (d, .inr (4, [.ref db, .int d_l])), (db, .inl (cB, 12000, .inl (b8 d_f))), (hk, .inl (cI, 60, .inl h_k)), (hs, .inl (cI, 61, .inl h_s)), (hu, .inl (cI, 40, .inl h_u)), (hn, .inl (cJ, 40, .inr (.inl h_n))), (hg, .inl (cI, 40, .inl h_g)), (j, .inr (1, [.ref jp, .int j_c, .int j_a])), (jp, .inl (cI, 60, .inl j_p))] [0, 1, 2, 3, 4, 7, 8, 9, 10, 11, 12, 13, 14, 5, 6] rfl rfl rfl (0) (0) (Nat.le_of_ble_eq_true rfl) (Nat.le_of_ble_eq_true rfl) ⟨(Nat.le_of_ble_eq_true rfl), (Nat.le_of_ble_eq_true rfl)⟩ dX9_colour_16 ?_
    obtain ⟨z19, h19, hf⟩ := jt_b hf
    refine J_callVr O (pc := 19) (c_X0_dataOf l D cB cI cJ h d db hk hs hu hn hg h_c h_e d_l d_f h_k h_s h_u h_n h_g z16 h19) rfl 0 rfl rfl gX9_colour_X0_dataOf hdV_X0_dataOf ⟨(Nat.le_of_ble_eq_true rfl), (Nat.le_of_ble_eq_true rfl)⟩ rfl (st := []) rfl (Nat.le_of_ble_eq_true rfl) [5, 6, 7, 8, 9, 10, 11, 12] [0, 1, 2, 3, 4, 13, 14] rfl rfl rfl rfl rfl (by decide) (fun q19 => [(x, .inr (5, [.ref t, .ref o, .ref h, .ref j, .int x_p])), (t, .inr (4, [.ref tb, .int t_l])), (tb, .inl (cB, 6000, .inl (b8 t_f))), (o, .inr (4, [.ref ob, .int o_l])), (ob, .inl (cB, 13044, .inl (b8 o_f))), (h, .inr (0, [.ref d, .ref hk, .ref hs, .int h_c, .ref hu, .ref hn, .ref hg, .int h_e])), (d, .inr (4, [.ref db, .int d_l])), (db, .inl (cB, 12000, .inl (b8 d_f))), (hk, .inl (cI, 60, .inl h_k)), (hs, .inl (cI, 61, .inl h_s)), (hu, .inl (cI, 40, .inl h_u)), (hn, .inl (cJ, 40, .inr (.inl h_n))), (hg, .inl (cI, 40, .inl h_g)), (j, .inr (1, [.ref jp, .int j_c, .int j_a])), (jp, .inl (cI, 60, .inl j_p)), (q19, .inr (2, [.ref d, .int z19.1, .int z19.2]))]) [0, 1, 2, 3, 4, 7, 8, 9, 10, 11, 12, 13, 14, 5, 6, 15] rfl (fun _ => rfl) (fun _ => rfl) (1) (3) (Nat.le_of_ble_eq_true rfl) (Nat.le_of_ble_eq_true rfl) ⟨(Nat.le_of_ble_eq_true rfl), (Nat.le_of_ble_eq_true rfl)⟩ dX9_colour_19 (fun q19 => ?_)
    refine J_astore_n O (i := 2) (k0 := 2) (pc := 22) rfl [(2, .ref q19), (0, .ref x), (1, .int a1)] (by decide) rfl dX9_colour_22 ?_
    refine J_iload_n O (i := 1) (k0 := 1) (pc := 23) 2 rfl rfl dX9_colour_23 ?_
    refine J_aload_n O (i := 2) (k0 := 2) (pc := 24) 0 rfl rfl dX9_colour_24 ?_
    refine J_get O (pc := 25) in_X9_colour_X3 15 rfl rfl 2 (by decide) mb_X9_colour_4 rfl dX9_colour_25 ?_
    refine J_iconst O (v := 3) (pc := 28) (by decide) dX9_colour_28 ?_
    refine J_idiv O (pc := 29) (by decide) dX9_colour_29 ?_
    refine J_icmp_lt O (tgt := 36) (pc := 30) dX9_colour_30 (by decide) (fun c30 => ?_) (fun c30 => ?_)
    · have hf := jt_t c30 hf
      refine J_aload_n O (i := 2) (k0 := 2) (pc := 36) 0 rfl rfl dX9_colour_36 ?_
      refine J_iconst O (v := 3) (pc := 37) (by decide) dX9_colour_37 ?_
      refine J_iload_n O (i := 1) (k0 := 1) (pc := 38) 2 rfl rfl dX9_colour_38 ?_
      refine J_imul O (pc := 39) dX9_colour_39 ?_
      obtain ⟨z40, h40, hf⟩ := jt_b hf
      refine J_callVi O (pc := 40) (c_X3_u2 l D cB cI cJ q19 d db 12000 z19.1 z19.2 d_l d_f (3 * a1) fu h40) rfl 0 rfl rfl gX9_colour_X3_u2 hdV_X3_u2 ⟨(Nat.le_of_ble_eq_true rfl), (Nat.le_of_ble_eq_true rfl)⟩ rfl (st := []) rfl (Nat.le_of_ble_eq_true rfl) [15, 6, 7] [0, 1, 2, 3, 4, 5, 8, 9, 10, 11, 12, 13, 14] rfl rfl rfl rfl rfl (by decide) [(x, .inr (5, [.ref t, .ref o, .ref h, .ref j, .int x_p])), (t, .inr (4, [.ref tb, .int t_l])), (tb, .inl (cB, 6000, .inl (b8 t_f))), (o, .inr (4, [.ref ob, .int o_l])), (ob, .inl (cB, 13044, .inl (b8 o_f))), (h, .inr (0, [.ref d, .ref hk, .ref hs, .int h_c, .ref hu, .ref hn, .ref hg, .int h_e])), (d, .inr (4, [.ref db, .int d_l])), (db, .inl (cB, 12000, .inl (b8 d_f))), (hk, .inl (cI, 60, .inl h_k)), (hs, .inl (cI, 61, .inl h_s)), (hu, .inl (cI, 40, .inl h_u)), (hn, .inl (cJ, 40, .inr (.inl h_n))), (hg, .inl (cI, 40, .inl h_g)), (j, .inr (1, [.ref jp, .int j_c, .int j_a])), (jp, .inl (cI, 60, .inl j_p)), (q19, .inr (2, [.ref d, .int z19.1, .int z19.2]))] [0, 1, 2, 3, 4, 5, 14, 15, 6, 7, 8, 9, 10, 11, 12, 13] rfl rfl rfl (1) (3) (Nat.le_of_ble_eq_true rfl) (Nat.le_of_ble_eq_true rfl) ⟨(Nat.le_of_ble_eq_true rfl), (Nat.le_of_ble_eq_true rfl)⟩ dX9_colour_40 ?_
      refine J_bipush O (v := 8) (pc := 43) (by decide) dX9_colour_43 ?_
      refine J_ishl O (pc := 45) dX9_colour_45 ?_
      refine J_aload_n O (i := 2) (k0 := 2) (pc := 46) 0 rfl rfl dX9_colour_46 ?_
      refine J_iconst O (v := 3) (pc := 47) (by decide) dX9_colour_47 ?_
      refine J_iload_n O (i := 1) (k0 := 1) (pc := 48) 2 rfl rfl dX9_colour_48 ?_
      refine J_imul O (pc := 49) dX9_colour_49 ?_
      refine J_iconst O (v := 2) (pc := 50) (by decide) dX9_colour_50 ?_
      refine J_iadd O (pc := 51) dX9_colour_51 ?_
      obtain ⟨z52, h52, hf⟩ := jt_b hf
      refine J_callVi O (pc := 52) (c_X3_at l D cB cI cJ q19 d db 12000 z19.1 z19.2 d_l d_f ((3 * a1) + 2) fu h52) rfl 0 rfl rfl gX9_colour_X3_at hdV_X3_at ⟨(Nat.le_of_ble_eq_true rfl), (Nat.le_of_ble_eq_true rfl)⟩ rfl (st := [.int (z40 <<< (8 &&& 31))]) rfl (Nat.le_of_ble_eq_true rfl) [15, 6, 7] [0, 1, 2, 3, 4, 5, 8, 9, 10, 11, 12, 13, 14] rfl rfl rfl rfl rfl (by decide) [(x, .inr (5, [.ref t, .ref o, .ref h, .ref j, .int x_p])), (t, .inr (4, [.ref tb, .int t_l])), (tb, .inl (cB, 6000, .inl (b8 t_f))), (o, .inr (4, [.ref ob, .int o_l])), (ob, .inl (cB, 13044, .inl (b8 o_f))), (h, .inr (0, [.ref d, .ref hk, .ref hs, .int h_c, .ref hu, .ref hn, .ref hg, .int h_e])), (d, .inr (4, [.ref db, .int d_l])), (db, .inl (cB, 12000, .inl (b8 d_f))), (hk, .inl (cI, 60, .inl h_k)), (hs, .inl (cI, 61, .inl h_s)), (hu, .inl (cI, 40, .inl h_u)), (hn, .inl (cJ, 40, .inr (.inl h_n))), (hg, .inl (cI, 40, .inl h_g)), (j, .inr (1, [.ref jp, .int j_c, .int j_a])), (jp, .inl (cI, 60, .inl j_p)), (q19, .inr (2, [.ref d, .int z19.1, .int z19.2]))] [0, 1, 2, 3, 4, 5, 14, 15, 6, 7, 8, 9, 10, 11, 12, 13] rfl rfl rfl (1) (3) (Nat.le_of_ble_eq_true rfl) (Nat.le_of_ble_eq_true rfl) ⟨(Nat.le_of_ble_eq_true rfl), (Nat.le_of_ble_eq_true rfl)⟩ dX9_colour_52 ?_
      refine J_ior O (pc := 55) dX9_colour_55 ?_
      have e9 := Option.some.inj hf
      subst e9
      refine J_wsub [0, 1, 2, 3, 4, 5, 6, 7, 8, 9, 10, 11, 12, 13, 14] [(x, .inr (5, [.ref t, .ref o, .ref h, .ref j, .int x_p])), (t, .inr (4, [.ref tb, .int t_l])), (tb, .inl (cB, 6000, .inl (b8 t_f))), (o, .inr (4, [.ref ob, .int o_l])), (ob, .inl (cB, 13044, .inl (b8 o_f))), (h, .inr (0, [.ref d, .ref hk, .ref hs, .int h_c, .ref hu, .ref hn, .ref hg, .int h_e])), (d, .inr (4, [.ref db, .int d_l])), (db, .inl (cB, 12000, .inl (b8 d_f))), (hk, .inl (cI, 60, .inl h_k)), (hs, .inl (cI, 61, .inl h_s)), (hu, .inl (cI, 40, .inl h_u)), (hn, .inl (cJ, 40, .inr (.inl h_n))), (hg, .inl (cI, 40, .inl h_g)), (j, .inr (1, [.ref jp, .int j_c, .int j_a])), (jp, .inl (cI, 60, .inl j_p))] rfl rfl rfl ?_
      exact J_iret O (pc := 56) rfl dX9_colour_56
    · have hf := jt_f c30 hf
      refine J_bipush O (v := (-2)) (pc := 33) (by decide) dX9_colour_33 ?_
      have e9 := Option.some.inj hf
      subst e9
      refine J_wsub [0, 1, 2, 3, 4, 5, 6, 7, 8, 9, 10, 11, 12, 13, 14] [(x, .inr (5, [.ref t, .ref o, .ref h, .ref j, .int x_p])), (t, .inr (4, [.ref tb, .int t_l])), (tb, .inl (cB, 6000, .inl (b8 t_f))), (o, .inr (4, [.ref ob, .int o_l])), (ob, .inl (cB, 13044, .inl (b8 o_f))), (h, .inr (0, [.ref d, .ref hk, .ref hs, .int h_c, .ref hu, .ref hn, .ref hg, .int h_e])), (d, .inr (4, [.ref db, .int d_l])), (db, .inl (cB, 12000, .inl (b8 d_f))), (hk, .inl (cI, 60, .inl h_k)), (hs, .inl (cI, 61, .inl h_s)), (hu, .inl (cI, 40, .inl h_u)), (hn, .inl (cJ, 40, .inr (.inl h_n))), (hg, .inl (cI, 40, .inl h_g)), (j, .inr (1, [.ref jp, .int j_c, .int j_a])), (jp, .inl (cI, 60, .inl j_p))] rfl rfl rfl ?_
      exact J_iret O (pc := 35) rfl dX9_colour_35
  · have hf := jt_f c1 hf
    refine J_iconst O (v := (-1)) (pc := 4) (by decide) dX9_colour_4 ?_
    have e9 := Option.some.inj hf
    subst e9
    refine J_widen 1 3 (Nat.le_of_ble_eq_true rfl) (Nat.le_of_ble_eq_true rfl) ?_
    exact J_iret O (pc := 5) rfl dX9_colour_5
