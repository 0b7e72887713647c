theorem mb_X7_measure_0 : Cond.constantLong RX7 17 1095321158 ∈ wsX7_measure := by decide +kernel
theorem in_X7_measure_X3 : ∀ w ∈ u_ws RX3 TX3 3, w ∈ wsX7_measure := fun _ h => List.mem_cons_of_mem _ (List.mem_append_left _ (List.mem_append_right _ h))
theorem mb_X7_measure_2 : Cond.fieldLink RX7 21 (TX3 2).1 (TX3 2).2.1 (TX3 2).2.2.1 ∈ wsX7_measure := by decide +kernel
theorem mb_X7_measure_3 : Cond.constantLong RX7 19 (-2) ∈ wsX7_measure := by decide +kernel
theorem mb_X7_measure_4 : Cond.constantLong RX7 29 1129270605 ∈ wsX7_measure := by decide +kernel
theorem mb_X7_measure_5 : Cond.constantLong RX7 33 18 ∈ wsX7_measure := by decide +kernel
theorem hdS_X7_ofComm : yX7_ofComm.cls ≠ "java/lang/invoke/MethodHandle" ∧ yX7_ofComm.cls ≠ "java/lang/invoke/VarHandle" ∧ (parseMethodDescriptor yX7_ofComm.desc).map (fun d => d.parameters.length) = some 3 := by decide +kernel
abbrev rmX7_measure : Room := { frames := 5, cells := 0, slots := 0, locals := 115 }
set_option maxHeartbeats 4000000 in
set_option maxRecDepth 100000 in
theorem wk_X7_measure_23 {X : JC} {l : Launch} {D : va_G} {cB cI cJ : ClassId} (O : Jo X (l, D, cB, cI, cJ) cX7_measure 6 RX7 wsX7_measure rmX7_measure (some .long)) (q t tb : Nat) (t_n : Nat) (q_o : Int32) (q_l : Int32) (t_l : Int32) (t_f : Nat → Int8) (a1 : Int32) (fu : Nat) {z : Int64} : ∀ (fn : Nat) (v2 : Int32) (v3 : Int32), p_X7_measure_23 fu t_n q_o q_l t_f a1 fn v2 v3 = some z → J X 6 (JQl X [(q, .inr (2, [.ref t, .int q_o, .int q_l])), (t, .inr (4, [.ref tb, .int t_l])), (tb, .inl (cB, t_n, .inl (b8 t_f)))] z 0 0) [(q, .inr (2, [.ref t, .int q_o, .int q_l])), (t, .inr (4, [.ref tb, .int t_l])), (tb, .inl (cB, t_n, .inl (b8 t_f)))] 0 0 23 [(0, .ref q), (1, .int a1), (2, .int v2), (3, .int v3)] [] := by
  intro fn
  induction fn with
  | zero =>
    intro v2 v3 hf
    rw [p_X7_measure_23] at hf
    exact jt_n hf
  | succ fn ih =>
    intro v2 v3 hf
    rw [p_X7_measure_23] at hf
    refine J_iload_n O (i := 3) (k0 := 3) (pc := 23) 3 rfl rfl dX7_measure_23 ?_
    refine J_if_le O (tgt := 117) (pc := 24) dX7_measure_24 (by decide) (fun c24 => ?_) (fun c24 => ?_)
    · have hf := jt_t c24 hf
      refine J_ldc2 O (pc := 117) mb_X7_measure_3 dX7_measure_117 ?_
      cases hf
      exact J_lret O (pc := 120) rfl dX7_measure_120
    · have hf := jt_f c24 hf
      refine J_aload_n O (i := 0) (k0 := 0) (pc := 27) 0 rfl rfl dX7_measure_27 ?_
      refine J_iload_n O (i := 2) (k0 := 2) (pc := 28) 2 rfl rfl dX7_measure_28 ?_
      refine J_bipush O (v := 8) (pc := 29) (by decide) dX7_measure_29 ?_
      obtain ⟨z31, h31, hf⟩ := jt_b hf
      refine J_callVi O (pc := 31) (c_X3_holds l D cB cI cJ q t tb t_n q_o q_l t_l t_f v2 8 h31) rfl 0 rfl rfl gX7_measure_X3_holds hdV_X3_holds ⟨(Nat.le_of_ble_eq_true rfl), (Nat.le_of_ble_eq_true rfl)⟩ rfl (st := []) rfl (Nat.le_of_ble_eq_true rfl) [0, 1, 2] [] rfl rfl rfl rfl rfl (by decide) [(q, .inr (2, [.ref t, .int q_o, .int q_l])), (t, .inr (4, [.ref tb, .int t_l])), (tb, .inl (cB, t_n, .inl (b8 t_f)))] [0, 1, 2] rfl rfl rfl (0) (0) (Nat.le_of_ble_eq_true rfl) (Nat.le_of_ble_eq_true rfl) ⟨(Nat.le_of_ble_eq_true rfl), (Nat.le_of_ble_eq_true rfl)⟩ dX7_measure_31 ?_
      refine J_zeq O (tgt := 117) (pc := 34) dX7_measure_34 (by decide) (fun c34 => ?_) (fun c34 => ?_)
      · have hf := jt_f c34 hf
        refine J_ldc2 O (pc := 117) mb_X7_measure_3 dX7_measure_117 ?_
        cases hf
        exact J_lret O (pc := 120) rfl dX7_measure_120
      · have hf := jt_t c34 hf
        refine J_aload_n O (i := 0) (k0 := 0) (pc := 37) 0 rfl rfl dX7_measure_37 ?_
        refine J_iload_n O (i := 2) (k0 := 2) (pc := 38) 2 rfl rfl dX7_measure_38 ?_
        refine J_iconst O (v := 4) (pc := 39) (by decide) dX7_measure_39 ?_
        refine J_iadd O (pc := 40) dX7_measure_40 ?_
        obtain ⟨z41, h41, hf⟩ := jt_b hf
        refine J_callVl O (pc := 41) (c_X3_u4 l D cB cI cJ q t tb t_n q_o q_l t_l t_f (v2 + 4) fu h41) rfl 0 rfl rfl gX7_measure_X3_u4 hdV_X3_u4 ⟨(Nat.le_of_ble_eq_true rfl), (Nat.le_of_ble_eq_true rfl)⟩ rfl (st := []) rfl (Nat.le_of_ble_eq_true rfl) [0, 1, 2] [] rfl rfl rfl rfl rfl (by decide) [(q, .inr (2, [.ref t, .int q_o, .int q_l])), (t, .inr (4, [.ref tb, .int t_l])), (tb, .inl (cB, t_n, .inl (b8 t_f)))] [0, 1, 2] rfl rfl rfl (0) (0) (Nat.le_of_ble_eq_true rfl) (Nat.le_of_ble_eq_true rfl) ⟨(Nat.le_of_ble_eq_true rfl), (Nat.le_of_ble_eq_true rfl)⟩ dX7_measure_41 ?_
        refine J_lstore O (i := 4) (pc := 44) [(4, .long z41), (0, .ref q), (1, .int a1), (2, .int v2), (3, .int v3)] (by decide) rfl dX7_measure_44 ?_
        refine J_lload O (i := 4) (pc := 46) 0 rfl dX7_measure_46 ?_
        refine J_aload_n O (i := 0) (k0 := 0) (pc := 48) 1 rfl rfl dX7_measure_48 ?_
        refine J_get O (pc := 49) in_X7_measure_X3 0 rfl rfl 2 (by decide) mb_X7_measure_2 rfl dX7_measure_49 ?_
        refine J_iload_n O (i := 2) (k0 := 2) (pc := 52) 3 rfl rfl dX7_measure_52 ?_
        refine J_isub O (pc := 53) dX7_measure_53 ?_
        refine J_bipush O (v := 8) (pc := 54) (by decide) dX7_measure_54 ?_
        refine J_isub O (pc := 56) dX7_measure_56 ?_
        refine J_i2l O (pc := 57) dX7_measure_57 ?_
        refine J_lif_le O (tgt := 66) (pc := 58) dX7_measure_58 dX7_measure_59 (by decide) (fun c58 => ?_) (fun c58 => ?_)
        · have hf := jt_t c58 hf
          refine J_iinc O (i := 2) (n := 8) (v := v2 + 8) (pc := 66) 3 rfl [(2, .int (v2 + 8)), (4, .long z41), (0, .ref q), (1, .int a1), (3, .int v3)] (by decide) (congrArg (_ + ·) (by decide)) rfl dX7_measure_66 ?_
          refine J_aload_n O (i := 0) (k0 := 0) (pc := 69) 2 rfl rfl dX7_measure_69 ?_
          refine J_iload_n O (i := 2) (k0 := 2) (pc := 70) 0 rfl rfl dX7_measure_70 ?_
          refine J_bipush O (v := 8) (pc := 71) (by decide) dX7_measure_71 ?_
          refine J_isub O (pc := 73) dX7_measure_73 ?_
          obtain ⟨z74, h74, hf⟩ := jt_b hf
          refine J_callVl O (pc := 74) (c_X3_u4 l D cB cI cJ q t tb t_n q_o q_l t_l t_f ((v2 + 8) - 8) fu h74) rfl 0 rfl rfl gX7_measure_X3_u4 hdV_X3_u4 ⟨(Nat.le_of_ble_eq_true rfl), (Nat.le_of_ble_eq_true rfl)⟩ rfl (st := []) rfl (Nat.le_of_ble_eq_true rfl) [0, 1, 2] [] rfl rfl rfl rfl rfl (by decide) [(q, .inr (2, [.ref t, .int q_o, .int q_l])), (t, .inr (4, [.ref tb, .int t_l])), (tb, .inl (cB, t_n, .inl (b8 t_f)))] [0, 1, 2] rfl rfl rfl (0) (0) (Nat.le_of_ble_eq_true rfl) (Nat.le_of_ble_eq_true rfl) ⟨(Nat.le_of_ble_eq_true rfl), (Nat.le_of_ble_eq_true rfl)⟩ dX7_measure_74 ?_
          refine J_ldc2 O (pc := 77) mb_X7_measure_4 dX7_measure_77 ?_
          refine J_lif_ne O (tgt := 100) (pc := 80) dX7_measure_80 dX7_measure_81 (by decide) (fun c80 => ?_) (fun c80 => ?_)
          · have hf := jt_f c80 hf
            refine J_iload_n O (i := 2) (k0 := 2) (pc := 100) 0 rfl rfl dX7_measure_100 ?_
            refine J_lload O (i := 4) (pc := 101) 1 rfl dX7_measure_101 ?_
            refine J_lload O (i := 4) (pc := 103) 1 rfl dX7_measure_103 ?_
            refine J_lconst O (v := 1) (pc := 105) (by decide) dX7_measure_105 ?_
            refine J_land O (pc := 106) dX7_measure_106 ?_
            refine J_ladd O (pc := 107) dX7_measure_107 ?_
            refine J_l2i O (pc := 108) dX7_measure_108 ?_
            refine J_iadd O (pc := 109) dX7_measure_109 ?_
            refine J_istore_n O (i := 2) (k0 := 2) (pc := 110) rfl [(2, .int ((v2 + 8) + (Int64.toInt32 (z41 + (z41 &&& 1))))), (4, .long z41), (0, .ref q), (1, .int a1), (3, .int v3)] (by decide) rfl dX7_measure_110 ?_
            refine J_iinc O (i := 3) (n := (-1)) (v := v3 + (-1)) (pc := 111) 4 rfl [(3, .int (v3 + (-1))), (2, .int ((v2 + 8) + (Int64.toInt32 (z41 + (z41 &&& 1))))), (4, .long z41), (0, .ref q), (1, .int a1)] (by decide) (congrArg (_ + ·) (by decide)) rfl dX7_measure_111 ?_
            refine J_goto O (tgt := 23) (pc := 114) dX7_measure_114 (by decide) ?_
            refine J_sub [3, 4, 1, 0] (lv' := [(0, .ref q), (1, .int a1), (2, .int ((v2 + 8) + (Int64.toInt32 (z41 + (z41 &&& 1))))), (3, .int (v3 + (-1)))]) rfl ?_
            exact ih ((v2 + 8) + (Int64.toInt32 (z41 + (z41 &&& 1)))) (v3 + (-1)) hf
          · have hf := jt_t c80 hf
            refine J_lload O (i := 4) (pc := 84) 1 rfl dX7_measure_84 ?_
            refine J_ldc2 O (pc := 86) mb_X7_measure_5 dX7_measure_86 ?_
            refine J_lif_lt O (tgt := 100) (pc := 89) dX7_measure_89 dX7_measure_90 (by decide) (fun c89 => ?_) (fun c89 => ?_)
            · have hf := jt_t c89 hf
              refine J_iload_n O (i := 2) (k0 := 2) (pc := 100) 0 rfl rfl dX7_measure_100 ?_
              refine J_lload O (i := 4) (pc := 101) 1 rfl dX7_measure_101 ?_
              refine J_lload O (i := 4) (pc := 103) 1 rfl dX7_measure_103 ?_
              refine J_lconst O (v := 1) (pc := 105) (by decide) dX7_measure_105 ?_
              refine J_land O (pc := 106) dX7_measure_106 ?_
              refine J_ladd O (pc := 107) dX7_measure_107 ?_
              refine J_l2i O (pc := 108) dX7_measure_108 ?_
              refine J_iadd O (pc := 109) dX7_measure_109 ?_
              refine J_istore_n O (i := 2) (k0 := 2) (pc := 110) rfl [(2, .int ((v2 + 8) + (Int64.toInt32 (z41 + (z41 &&& 1))))), (4, .long z41), (0, .ref q), (1, .int a1), (3, .int v3)] (by decide) rfl dX7_measure_110 ?_
              refine J_iinc O (i := 3) (n := (-1)) (v := v3 + (-1)) (pc := 111) 4 rfl [(3, .int (v3 + (-1))), (2, .int ((v2 + 8) + (Int64.toInt32 (z41 + (z41 &&& 1))))), (4, .long z41), (0, .ref q), (1, .int a1)] (by decide) (congrArg (_ + ·) (by decide)) rfl dX7_measure_111 ?_
              refine J_goto O (tgt := 23) (pc := 114) dX7_measure_114 (by decide) ?_
              refine J_sub [3, 4, 1, 0] (lv' := [(0, .ref q), (1, .int a1), (2, .int ((v2 + 8) + (Int64.toInt32 (z41 + (z41 &&& 1))))), (3, .int (v3 + (-1)))]) rfl ?_
              exact ih ((v2 + 8) + (Int64.toInt32 (z41 + (z41 &&& 1)))) (v3 + (-1)) hf
            · have hf := jt_f c89 hf
              refine J_aload_n O (i := 0) (k0 := 0) (pc := 93) 2 rfl rfl dX7_measure_93 ?_
              refine J_iload_n O (i := 2) (k0 := 2) (pc := 94) 0 rfl rfl dX7_measure_94 ?_
              refine J_iload_n O (i := 1) (k0 := 1) (pc := 95) 3 rfl rfl dX7_measure_95 ?_
              obtain ⟨z96, h96, hf⟩ := jt_b hf
              refine J_callSl O (pc := 96) (c_X7_ofComm l D cB cI cJ q t tb t_n q_o q_l t_l t_f (v2 + 8) a1 fu h96) rfl gX7_measure_X7_ofComm hdS_X7_ofComm ⟨(Nat.le_of_ble_eq_true rfl), (Nat.le_of_ble_eq_true rfl)⟩ rfl (st := []) rfl (Nat.le_of_ble_eq_true rfl) [0, 1, 2] [] rfl rfl rfl rfl rfl (by decide) [(q, .inr (2, [.ref t, .int q_o, .int q_l])), (t, .inr (4, [.ref tb, .int t_l])), (tb, .inl (cB, t_n, .inl (b8 t_f)))] [0, 1, 2] rfl rfl rfl (0) (0) (Nat.le_of_ble_eq_true rfl) (Nat.le_of_ble_eq_true rfl) ⟨(Nat.le_of_ble_eq_true rfl), (Nat.le_of_ble_eq_true rfl)⟩ dX7_measure_96 ?_
              cases hf
              exact J_lret O (pc := 99) rfl dX7_measure_99
        · have hf := jt_f c58 hf
          refine J_ldc2 O (pc := 62) mb_X7_measure_3 dX7_measure_62 ?_
          cases hf
          exact J_lret O (pc := 65) rfl dX7_measure_65
set_option maxHeartbeats 4000000 in
set_option maxRecDepth 100000 in
theorem c_X7_measure (l : Launch) (D : va_G) (cB cI cJ : ClassId) (q t tb t_n : Nat) (q_o : Int32) (q_l : Int32) (t_l : Int32) (t_f : Nat → Int8) (a1 : Int32) (fu : Nat) {z : Int64} (hf : p_X7_measure fu t_n q_o q_l t_f a1 = some z) : Cl (l, D, cB, cI, cJ) yX7_measure wsX7_measure rmX7_measure [.ref q, .int a1] [(q, .inr (2, [.ref t, .int q_o, .int q_l])), (t, .inr (4, [.ref tb, .int t_l])), (tb, .inl (cB, t_n, .inl (b8 t_f)))] [(q, .inr (2, [.ref t, .int q_o, .int q_l])), (t, .inr (4, [.ref tb, .int t_l])), (tb, .inl (cB, t_n, .inl (b8 t_f)))] z := by
  refine Cl_of (cc := cX7_measure) (nL := 6) (own := RX7) (ret := (some .long)) (by decide) rfl rfl (Nat.le_of_ble_eq_true rfl) (fun X O hnm0 => ?_)
  rw [p_X7_measure] at hf
  show J X 6 (JQl X [(q, .inr (2, [.ref t, .int q_o, .int q_l])), (t, .inr (4, [.ref tb, .int t_l])), (tb, .inl (cB, t_n, .inl (b8 t_f)))] z 0 0) [(q, .inr (2, [.ref t, .int q_o, .int q_l])), (t, .inr (4, [.ref tb, .int t_l])), (tb, .inl (cB, t_n, .inl (b8 t_f)))] 0 0 0 [(0, .ref q), (1, .int a1)] []
  refine J_aload_n O (i := 0) (k0 := 0) (pc := 0) 0 rfl rfl dX7_measure_0 ?_
  refine J_iconst O (v := 0) (pc := 1) (by decide) dX7_measure_1 ?_
  obtain ⟨z2, h2, hf⟩ := jt_b hf
  refine J_callVl O (pc := 2) (c_X3_u4 l D cB cI cJ q t tb t_n q_o q_l t_l t_f 0 fu h2) rfl 0 rfl rfl gX7_measure_X3_u4 hdV_X3_u4 ⟨(Nat.le_of_ble_eq_true rfl), (Nat.le_of_ble_eq_true rfl)⟩ rfl (st := []) rfl (Nat.le_of_ble_eq_true rfl) [0, 1, 2] [] rfl rfl rfl rfl rfl (by decide) [(q, .inr (2, [.ref t, .int q_o, .int q_l])), (t, .inr (4, [.ref tb, .int t_l])), (tb, .inl (cB, t_n, .inl (b8 t_f)))] [0, 1, 2] rfl rfl rfl (0) (0) (Nat.le_of_ble_eq_true rfl) (Nat.le_of_ble_eq_true rfl) ⟨(Nat.le_of_ble_eq_true rfl), (Nat.le_of_ble_eq_true rfl)⟩ dX7_measure_2 ?_
  refine J_ldc2 O (pc := 5) mb_X7_measure_0 dX7_measure_5 ?_
  refine J_lif_eq O (tgt := 16) (pc := 8) dX7_measure_8 dX7_measure_9 (by decide) (fun c8 => ?_) (fun c8 => ?_)
  · have hf := jt_t c8 hf
    refine J_iconst O (v := 4) (pc := 16) (by decide) dX7_measure_16 ?_
    refine J_istore_n O (i := 2) (k0 := 2) (pc := 17) rfl [(2, .int 4), (0, .ref q), (1, .int a1)] (by decide) rfl dX7_measure_17 ?_
    refine J_aload_n O (i := 0) (k0 := 0) (pc := 18) 1 rfl rfl dX7_measure_18 ?_
    refine J_get O (pc := 19) in_X7_measure_X3 0 rfl rfl 2 (by decide) mb_X7_measure_2 rfl dX7_measure_19 ?_
    refine J_istore_n O (i := 3) (k0 := 3) (pc := 22) rfl [(3, .int q_l), (2, .int 4), (0, .ref q), (1, .int a1)] (by decide) rfl dX7_measure_22 ?_
    refine J_sub [2, 3, 1, 0] (lv' := [(0, .ref q), (1, .int a1), (2, .int 4), (3, .int q_l)]) rfl ?_
    exact wk_X7_measure_23 O q t tb t_n q_o q_l t_l t_f a1 fu fu 4 q_l hf
  · have hf := jt_f c8 hf
    refine J_ldc2 O (pc := 12) mb_X7_measure_3 dX7_measure_12 ?_
    cases hf
    exact J_lret O (pc := 15) rfl dX7_measure_15
theorem in_X8_rowOf_X3 : ∀ w ∈ u_ws RX3 TX3 3, w ∈ wsX8_rowOf := fun _ h => List.mem_cons_of_mem _ (List.mem_append_left _ (List.mem_append_right _ h))
theorem mb_X8_rowOf_1 : Cond.fieldLink RX8 9 (TX3 2).1 (TX3 2).2.1 (TX3 2).2.2.1 ∈ wsX8_rowOf := by decide +kernel
abbrev rmX8_rowOf : Room := { frames := 3, cells := 0, slots := 0, locals := 68 }
set_option maxHeartbeats 4000000 in
set_option maxRecDepth 100000 in
theorem wk_X8_rowOf_28 {X : JC} {l : Launch} {D : va_G} {cB cI cJ : ClassId} (O : Jo X (l, D, cB, cI, cJ) cX8_rowOf 4 RX8 wsX8_rowOf rmX8_rowOf (some .int)) (q t tb : Nat) (t_n : Nat) (q_o : Int32) (q_l : Int32) (t_l : Int32) (t_f : Nat → Int8) (a1 : Int64) (fu : Nat) {z : Int32} : ∀ (fn : Nat) (v3 : Int32), p_X8_rowOf_28 fu t_n q_o q_l t_f a1 fn v3 = some z → J X 4 (JQi X [(q, .inr (2, [.ref t, .int q_o, .int q_l])), (t, .inr (4, [.ref tb, .int t_l])), (tb, .inl (cB, t_n, .inl (b8 t_f)))] z 0 0) [(q, .inr (2, [.ref t, .int q_o, .int q_l])), (t, .inr (4, [.ref tb, .int t_l])), (tb, .inl (cB, t_n, .inl (b8 t_f)))] 0 0 28 [(0, .ref q), (1, .long a1), (3, .int v3)] [] := by
  intro fn
  induction fn with
  | zero =>
    intro v3 hf
    rw [p_X8_rowOf_28] at hf
    exact jt_n hf
  | succ fn ih =>
    intro v3 hf
    rw [p_X8_rowOf_28] at hf
    refine J_iload_n O (i := 3) (k0 := 3) (pc := 28) 2 rfl rfl dX8_rowOf_28 ?_
    refine J_aload_n O (i := 0) (k0 := 0) (pc := 29) 0 rfl rfl dX8_rowOf_29 ?_
    refine J_get O (pc := 30) in_X8_rowOf_X3 0 rfl rfl 2 (by decide) mb_X8_rowOf_1 rfl dX8_rowOf_30 ?_
    refine J_icmp_ge O (tgt := 54) (pc := 33) dX8_rowOf_33 (by decide) (fun c33 => ?_) (fun c33 => ?_)
    · have hf := jt_t c33 hf
      refine J_bipush O (v := (-2)) (pc := 54) (by decide) dX8_rowOf_54 ?_
      cases hf
      exact J_iret O (pc := 56) rfl dX8_rowOf_56
    · have hf := jt_f c33 hf
      refine J_aload_n O (i := 0) (k0 := 0) (pc := 36) 0 rfl rfl dX8_rowOf_36 ?_
      refine J_iload_n O (i := 3) (k0 := 3) (pc := 37) 2 rfl rfl dX8_rowOf_37 ?_
      obtain ⟨z38, h38, hf⟩ := jt_b hf
      refine J_callVl O (pc := 38) (c_X3_u4 l D cB cI cJ q t tb t_n q_o q_l t_l t_f v3 fu h38) rfl 0 rfl rfl gX8_rowOf_X3_u4 hdV_X3_u4 ⟨(Nat.le_of_ble_eq_true rfl), (Nat.le_of_ble_eq_true rfl)⟩ rfl (st := []) rfl (Nat.le_of_ble_eq_true rfl) [0, 1, 2] [] rfl rfl rfl rfl rfl (by decide) [(q, .inr (2, [.ref t, .int q_o, .int q_l])), (t, .inr (4, [.ref tb, .int t_l])), (tb, .inl (cB, t_n, .inl (b8 t_f)))] [0, 1, 2] rfl rfl rfl (0) (0) (Nat.le_of_ble_eq_true rfl) (Nat.le_of_ble_eq_true rfl) ⟨(Nat.le_of_ble_eq_true rfl), (Nat.le_of_ble_eq_true rfl)⟩ dX8_rowOf_38 ?_
      refine J_lload_n O (i := 1) (k0 := 1) (pc := 41) 1 rfl rfl dX8_rowOf_41 ?_
      refine J_lif_ne O (tgt := 48) (pc := 42) dX8_rowOf_42 dX8_rowOf_43 (by decide) (fun c42 => ?_) (fun c42 => ?_)
      · have hf := jt_f c42 hf
        refine J_iinc O (i := 3) (n := 28) (v := v3 + 28) (pc := 48) 2 rfl [(3, .int (v3 + 28)), (0, .ref q), (1, .long a1)] (by decide) (congrArg (_ + ·) (by decide)) rfl dX8_rowOf_48 ?_
        refine J_goto O (tgt := 28) (pc := 51) dX8_rowOf_51 (by decide) ?_
        refine J_sub [1, 2, 0] (lv' := [(0, .ref q), (1, .long a1), (3, .int (v3 + 28))]) rfl ?_
        exact ih (v3 + 28) hf
      · have hf := jt_t c42 hf
        refine J_iload_n O (i := 3) (k0 := 3) (pc := 46) 2 rfl rfl dX8_rowOf_46 ?_
        cases hf
        exact J_iret O (pc := 47) rfl dX8_rowOf_47
set_option maxHeartbeats 4000000 in
set_option maxRecDepth 100000 in
theorem c_X8_rowOf (l : Launch) (D : va_G) (cB cI cJ : ClassId) (q t tb t_n : Nat) (q_o : Int32) (q_l : Int32) (t_l : Int32) (t_f : Nat → Int8) (a1 : Int64) (fu : Nat) {z : Int32} (hf : p_X8_rowOf fu t_n q_o q_l t_f a1 = some z) : Ci (l, D, cB, cI, cJ) yX8_rowOf wsX8_rowOf rmX8_rowOf [.ref q, .long a1] [(q, .inr (2, [.ref t, .int q_o, .int q_l])), (t, .inr (4, [.ref tb, .int t_l])), (tb, .inl (cB, t_n, .inl (b8 t_f)))] [(q, .inr (2, [.ref t, .int q_o, .int q_l])), (t, .inr (4, [.ref tb, .int t_l])), (tb, .inl (cB, t_n, .inl (b8 t_f)))] z := by
  refine Ci_of (cc := cX8_rowOf) (nL := 4) (own := RX8) (ret := (some .int)) (by decide) rfl rfl (Nat.le_of_ble_eq_true rfl) (fun X O hnm0 => ?_)
  rw [p_X8_rowOf] at hf
  show J X 4 (JQi X [(q, .inr (2, [.ref t, .int q_o, .int q_l])), (t, .inr (4, [.ref tb, .int t_l])), (tb, .inl (cB, t_n, .inl (b8 t_f)))] z 0 0) [(q, .inr (2, [.ref t, .int q_o, .int q_l])), (t, .inr (4, [.ref tb, .int t_l])), (tb, .inl (cB, t_n, .inl (b8 t_f)))] 0 0 0 [(0, .ref q), (1, .long a1)] []
  refine J_aload_n O (i := 0) (k0 := 0) (pc := 0) 0 rfl rfl dX8_rowOf_0 ?_
  refine J_get O (pc := 1) in_X8_rowOf_X3 0 rfl rfl 2 (by decide) mb_X8_rowOf_1 rfl dX8_rowOf_1 ?_
  refine J_bipush O (v := 24) (pc := 4) (by decide) dX8_rowOf_4 ?_
  refine J_icmp_lt O (tgt := 22) (pc := 6) dX8_rowOf_6 (by decide) (fun c6 => ?_) (fun c6 => ?_)
  · have hf := jt_t c6 hf
    refine J_bipush O (v := (-2)) (pc := 22) (by decide) dX8_rowOf_22 ?_
    cases hf
    exact J_iret O (pc := 24) rfl dX8_rowOf_24
  · have hf := jt_f c6 hf
    refine J_aload_n O (i := 0) (k0 := 0) (pc := 9) 0 rfl rfl dX8_rowOf_9 ?_
    refine J_get O (pc := 10) in_X8_rowOf_X3 0 rfl rfl 2 (by decide) mb_X8_rowOf_1 rfl dX8_rowOf_10 ?_
    refine J_bipush O (v := 24) (pc := 13) (by decide) dX8_rowOf_13 ?_
    refine J_isub O (pc := 15) dX8_rowOf_15 ?_
    refine J_bipush O (v := 28) (pc := 16) (by decide) dX8_rowOf_16 ?_
    refine J_irem O (pc := 18) (by decide) dX8_rowOf_18 ?_
    refine J_if_eq O (tgt := 25) (pc := 19) dX8_rowOf_19 (by decide) (fun c19 => ?_) (fun c19 => ?_)
    · have hf := jt_t c19 hf
      refine J_bipush O (v := 24) (pc := 25) (by decide) dX8_rowOf_25 ?_
      refine J_istore_n O (i := 3) (k0 := 3) (pc := 27) rfl [(3, .int 24), (0, .ref q), (1, .long a1)] (by decide) rfl dX8_rowOf_27 ?_
      refine J_sub [1, 2, 0] (lv' := [(0, .ref q), (1, .long a1), (3, .int 24)]) rfl ?_
      exact wk_X8_rowOf_28 O q t tb t_n q_o q_l t_l t_f a1 fu fu 24 hf
    · have hf := jt_f c19 hf
      refine J_bipush O (v := (-2)) (pc := 22) (by decide) dX8_rowOf_22 ?_
      cases hf
      exact J_iret O (pc := 24) rfl dX8_rowOf_24
theorem in_X8_ratioAt_X5 : ∀ w ∈ u_ws RX5 TX5 2, w ∈ wsX8_ratioAt := fun _ h => List.mem_cons_of_mem _ (List.mem_append_left _ (List.mem_append_left _ (List.mem_append_right _ h)))
theorem mb_X8_ratioAt_1 : Cond.classLink RX8 21 RX5 ∈ wsX8_ratioAt := by decide +kernel
theorem mb_X8_ratioAt_2 : Cond.instantiable RX5 2 ∈ wsX8_ratioAt := by decide +kernel
theorem mb_X8_ratioAt_3 : Cond.initialized RX5 ∈ wsX8_ratioAt := by decide +kernel
theorem mb_X8_ratioAt_4 : Cond.initialized yX5_init.cls ∈ wsX8_ratioAt := by decide +kernel
theorem mb_X8_ratioAt_5 : Cond.methodLink RX8 23 yX5_init ∈ wsX8_ratioAt := by decide +kernel
theorem mb_X8_ratioAt_6 : Cond.instanceMethod yX5_init ∈ wsX8_ratioAt := by decide +kernel
abbrev rmX8_ratioAt : Room := { frames := 3, cells := 1, slots := 2, locals := 68 }
set_option maxHeartbeats 4000000 in
set_option maxRecDepth 100000 in
theorem c_X8_ratioAt (l : Launch) (D : va_G) (cB cI cJ : ClassId) (q t tb t_n : Nat) (q_o : Int32) (q_l : Int32) (t_l : Int32) (t_f : Nat → Int8) (a1 : Int32) (fu : Nat) {z : Int64 × Int64} (hf : p_X8_ratioAt fu t_n q_o q_l t_f a1 = some z) : Cr (l, D, cB, cI, cJ) yX8_ratioAt wsX8_ratioAt rmX8_ratioAt [.ref q, .int a1] [(q, .inr (2, [.ref t, .int q_o, .int q_l])), (t, .inr (4, [.ref tb, .int t_l])), (tb, .inl (cB, t_n, .inl (b8 t_f)))] (fun a => [(q, .inr (2, [.ref t, .int q_o, .int q_l])), (t, .inr (4, [.ref tb, .int t_l])), (tb, .inl (cB, t_n, .inl (b8 t_f))), (a, .inr (3, [.long z.1, .long z.2]))]) := by
  refine Cr_of (cc := cX8_ratioAt) (nL := 2) (own := RX8) (ret := (some (.object "BlorbRows$Ratio"))) (by decide) rfl rfl (Nat.le_of_ble_eq_true rfl) (fun X O hnm0 => ?_)
  rw [p_X8_ratioAt] at hf
  show J X 2 (JQr X (fun a => [(q, .inr (2, [.ref t, .int q_o, .int q_l])), (t, .inr (4, [.ref tb, .int t_l])), (tb, .inl (cB, t_n, .inl (b8 t_f))), (a, .inr (3, [.long z.1, .long z.2]))]) 1 2) [(q, .inr (2, [.ref t, .int q_o, .int q_l])), (t, .inr (4, [.ref tb, .int t_l])), (tb, .inl (cB, t_n, .inl (b8 t_f)))] 0 0 0 [(0, .ref q), (1, .int a1)] []
  refine J_new O (pc := 0) in_X8_ratioAt_X5 tyX5 tyX5_ok mb_X8_ratioAt_1 mb_X8_ratioAt_2 mb_X8_ratioAt_3 rfl [.long 0, .long 0] fs_X5 (Nat.le_of_ble_eq_true rfl) (Nat.le_of_ble_eq_true rfl) (fun q0 => [(q, .inr (2, [.ref t, .int q_o, .int q_l])), (t, .inr (4, [.ref tb, .int t_l])), (tb, .inl (cB, t_n, .inl (b8 t_f))), (q0, .inr (3, [.long 0, .long 0]))]) (fun _ => rfl) (1) (2) rfl rfl dX8_ratioAt_0 (fun q0 => ?_)
  refine J_dup O (pc := 3) rfl dX8_ratioAt_3 ?_
  refine J_aload_n O (i := 0) (k0 := 0) (pc := 4) 0 rfl rfl dX8_ratioAt_4 ?_
  refine J_iload_n O (i := 1) (k0 := 1) (pc := 5) 1 rfl rfl dX8_ratioAt_5 ?_
  obtain ⟨z6, h6, hf⟩ := jt_b hf
  refine J_callVl O (pc := 6) (c_X3_u4 l D cB cI cJ q t tb t_n q_o q_l t_l t_f a1 fu h6) rfl 0 rfl rfl gX8_ratioAt_X3_u4 hdV_X3_u4 ⟨(Nat.le_of_ble_eq_true rfl), (Nat.le_of_ble_eq_true rfl)⟩ rfl (st := [.ref q0, .ref q0]) rfl (Nat.le_of_ble_eq_true rfl) [0, 1, 2] [3] rfl rfl rfl rfl rfl (by decide) [(q, .inr (2, [.ref t, .int q_o, .int q_l])), (t, .inr (4, [.ref tb, .int t_l])), (tb, .inl (cB, t_n, .inl (b8 t_f))), (q0, .inr (3, [.long 0, .long 0]))] [1, 2, 3, 0] rfl rfl rfl (1) (2) (Nat.le_of_ble_eq_true rfl) (Nat.le_of_ble_eq_true rfl) ⟨(Nat.le_of_ble_eq_true rfl), (Nat.le_of_ble_eq_true rfl)⟩ dX8_ratioAt_6 ?_
  refine J_aload_n O (i := 0) (k0 := 0) (pc := 9) 0 rfl rfl dX8_ratioAt_9 ?_
  refine J_iload_n O (i := 1) (k0 := 1) (pc := 10) 1 rfl rfl dX8_ratioAt_10 ?_
  refine J_iconst O (v := 4) (pc := 11) (by decide) dX8_ratioAt_11 ?_
  refine J_iadd O (pc := 12) dX8_ratioAt_12 ?_
  obtain ⟨z13, h13, hf⟩ := jt_b hf
  refine J_callVl O (pc := 13) (c_X3_u4 l D cB cI cJ q t tb t_n q_o q_l t_l t_f (a1 + 4) fu h13) rfl 0 rfl rfl gX8_ratioAt_X3_u4 hdV_X3_u4 ⟨(Nat.le_of_ble_eq_true rfl), (Nat.le_of_ble_eq_true rfl)⟩ rfl (st := [.long z6, .ref q0, .ref q0]) rfl (Nat.le_of_ble_eq_true rfl) [0, 1, 2] [3] rfl rfl rfl rfl rfl (by decide) [(q, .inr (2, [.ref t, .int q_o, .int q_l])), (t, .inr (4, [.ref tb, .int t_l])), (tb, .inl (cB, t_n, .inl (b8 t_f))), (q0, .inr (3, [.long 0, .long 0]))] [1, 2, 3, 0] rfl rfl rfl (1) (2) (Nat.le_of_ble_eq_true rfl) (Nat.le_of_ble_eq_true rfl) ⟨(Nat.le_of_ble_eq_true rfl), (Nat.le_of_ble_eq_true rfl)⟩ dX8_ratioAt_13 ?_
  obtain ⟨z16, h16, hf⟩ := jt_b hf
  refine J_callIv O (pc := 16) (ret' := none) (c_X5_init l D cB cI cJ q0 z6 z13 h16) rfl gX8_ratioAt_X5_init mb_X8_ratioAt_4 mb_X8_ratioAt_5 mb_X8_ratioAt_6 rfl hdS_X5_init ⟨(Nat.le_of_ble_eq_true rfl), (Nat.le_of_ble_eq_true rfl)⟩ rfl (st := [.ref q0]) rfl (Nat.le_of_ble_eq_true rfl) [3] [0, 1, 2] rfl rfl rfl rfl rfl (by decide) [(q, .inr (2, [.ref t, .int q_o, .int q_l])), (t, .inr (4, [.ref tb, .int t_l])), (tb, .inl (cB, t_n, .inl (b8 t_f))), (q0, .inr (3, [.long z16.1, .long z16.2]))] [0, 1, 2, 3] rfl rfl rfl (1) (2) (Nat.le_of_ble_eq_true rfl) (Nat.le_of_ble_eq_true rfl) ⟨(Nat.le_of_ble_eq_true rfl), (Nat.le_of_ble_eq_true rfl)⟩ dX8_ratioAt_16 ?_
  cases hf
  exact J_aret O (pc := 19) _ rfl dX8_ratioAt_19
theorem in_X8_ratioOn_X5 : ∀ w ∈ u_ws RX5 TX5 2, w ∈ wsX8_ratioOn := fun _ h => List.mem_cons_of_mem _ (List.mem_append_left _ (List.mem_append_left _ (List.mem_append_right _ h)))
theorem mb_X8_ratioOn_1 : Cond.classLink RX8 21 RX5 ∈ wsX8_ratioOn := by decide +kernel
theorem mb_X8_ratioOn_2 : Cond.instantiable RX5 2 ∈ wsX8_ratioOn := by decide +kernel
theorem mb_X8_ratioOn_3 : Cond.initialized RX5 ∈ wsX8_ratioOn := by decide +kernel
theorem mb_X8_ratioOn_4 : Cond.initialized yX5_init.cls ∈ wsX8_ratioOn := by decide +kernel
theorem mb_X8_ratioOn_5 : Cond.methodLink RX8 23 yX5_init ∈ wsX8_ratioOn := by decide +kernel
theorem mb_X8_ratioOn_6 : Cond.instanceMethod yX5_init ∈ wsX8_ratioOn := by decide +kernel
theorem hdS_X8_ratioAt : yX8_ratioAt.cls ≠ "java/lang/invoke/MethodHandle" ∧ yX8_ratioAt.cls ≠ "java/lang/invoke/VarHandle" ∧ (parseMethodDescriptor yX8_ratioAt.desc).map (fun d => d.parameters.length) = some 2 := by decide +kernel
theorem hdV_X5_isLimit : yX5_isLimit.cls = RX5 ∧ yX5_isLimit.cls ≠ "java/lang/invoke/MethodHandle" ∧ yX5_isLimit.cls ≠ "java/lang/invoke/VarHandle" ∧ (parseMethodDescriptor yX5_isLimit.desc).map (fun d => d.parameters.length) = some 0 := by decide +kernel
theorem hdV_X5_isBelow : yX5_isBelow.cls = RX5 ∧ yX5_isBelow.cls ≠ "java/lang/invoke/MethodHandle" ∧ yX5_isBelow.cls ≠ "java/lang/invoke/VarHandle" ∧ (parseMethodDescriptor yX5_isBelow.desc).map (fun d => d.parameters.length) = some 1 := by decide +kernel
theorem hdV_X5_times : yX5_times.cls = RX5 ∧ yX5_times.cls ≠ "java/lang/invoke/MethodHandle" ∧ yX5_times.cls ≠ "java/lang/invoke/VarHandle" ∧ (parseMethodDescriptor yX5_times.desc).map (fun d => d.parameters.length) = some 1 := by decide +kernel
abbrev rmX8_ratioOn : Room := { frames := 4, cells := 6, slots := 12, locals := 89 }
set_option maxHeartbeats 4000000 in
set_option maxRecDepth 100000 in
theorem wk_X8_ratioOn_160 {X : JC} {l : Launch} {D : va_G} {cB cI cJ : ClassId} (O : Jo X (l, D, cB, cI, cJ) cX8_ratioOn 11 RX8 wsX8_ratioOn rmX8_ratioOn (some (.object "BlorbRows$Ratio"))) (q t tb : Nat) (t_n : Nat) (q_o : Int32) (q_l : Int32) (t_l : Int32) (t_f : Nat → Int8) (a1 : Int32) (a2 : Int32) (a3 : Int32) (fu : Nat) {z : Int64 × Int64} (e0 : Nat) (e1 : Nat) (e0_0 : Int64) (e0_1 : Int64) (e1_0 : Int64) (e1_1 : Int64) (hf : p_X8_ratioOn_160 fu t_n q_o q_l t_f a1 a2 a3 e0_0 e0_1 e1_0 e1_1 = some z) : J X 11 (JQr X (fun a => [(q, .inr (2, [.ref t, .int q_o, .int q_l])), (t, .inr (4, [.ref tb, .int t_l])), (tb, .inl (cB, t_n, .inl (b8 t_f))), (a, .inr (3, [.long z.1, .long z.2]))]) 6 12) [(q, .inr (2, [.ref t, .int q_o, .int q_l])), (t, .inr (4, [.ref tb, .int t_l])), (tb, .inl (cB, t_n, .inl (b8 t_f))), (e0, .inr (3, [.long e0_0, .long e0_1])), (e1, .inr (3, [.long e1_0, .long e1_1]))] 6 12 160 [(8, .ref e0), (10, .ref e1)] [] := by
  rw [p_X8_ratioOn_160] at hf
  refine J_aload O (i := 8) (pc := 160) 0 rfl dX8_ratioOn_160 ?_
  obtain ⟨z162, h162, hf⟩ := jt_b hf
  refine J_callVi O (pc := 162) (c_X5_isNothing l D cB cI cJ e0 e0_0 e0_1 h162) rfl 0 rfl rfl gX8_ratioOn_X5_isNothing hdV_X5_isNothing ⟨(Nat.le_of_ble_eq_true rfl), (Nat.le_of_ble_eq_true rfl)⟩ rfl (st := []) rfl (Nat.le_of_ble_eq_true rfl) [3] [0, 1, 2, 4] rfl rfl rfl rfl rfl (by decide) [(q, .inr (2, [.ref t, .int q_o, .int q_l])), (t, .inr (4, [.ref tb, .int t_l])), (tb, .inl (cB, t_n, .inl (b8 t_f))), (e0, .inr (3, [.long e0_0, .long e0_1])), (e1, .inr (3, [.long e1_0, .long e1_1]))] [0, 1, 2, 4, 3] rfl rfl rfl (6) (12) (Nat.le_of_ble_eq_true rfl) (Nat.le_of_ble_eq_true rfl) ⟨(Nat.le_of_ble_eq_true rfl), (Nat.le_of_ble_eq_true rfl)⟩ dX8_ratioOn_162 ?_
  refine J_zne O (tgt := 183) (pc := 165) dX8_ratioOn_165 (by decide) (fun c165 => ?_) (fun c165 => ?_)
  · have hf := jt_t c165 hf
    refine J_aload O (i := 10) (pc := 183) 1 rfl dX8_ratioOn_183 ?_
    cases hf
    refine J_wsub [0, 1, 2, 4] [(q, .inr (2, [.ref t, .int q_o, .int q_l])), (t, .inr (4, [.ref tb, .int t_l])), (tb, .inl (cB, t_n, .inl (b8 t_f))), (e1, .inr (3, [.long e1_0, .long e1_1]))] rfl rfl rfl ?_
    exact J_aret O (pc := 185) _ rfl dX8_ratioOn_185
  · have hf := jt_f c165 hf
    refine J_aload O (i := 8) (pc := 168) 0 rfl dX8_ratioOn_168 ?_
    refine J_aload O (i := 10) (pc := 170) 1 rfl dX8_ratioOn_170 ?_
    obtain ⟨z172, h172, hf⟩ := jt_b hf
    refine J_callVi O (pc := 172) (c_X5_isBelow l D cB cI cJ e0 e1 e0_0 e0_1 e1_0 e1_1 h172) rfl 0 rfl rfl gX8_ratioOn_X5_isBelow hdV_X5_isBelow ⟨(Nat.le_of_ble_eq_true rfl), (Nat.le_of_ble_eq_true rfl)⟩ rfl (st := []) rfl (Nat.le_of_ble_eq_true rfl) [3, 4] [0, 1, 2] rfl rfl rfl rfl rfl (by decide) [(q, .inr (2, [.ref t, .int q_o, .int q_l])), (t, .inr (4, [.ref tb, .int t_l])), (tb, .inl (cB, t_n, .inl (b8 t_f))), (e0, .inr (3, [.long e0_0, .long e0_1])), (e1, .inr (3, [.long e1_0, .long e1_1]))] [0, 1, 2, 3, 4] rfl rfl rfl (6) (12) (Nat.le_of_ble_eq_true rfl) (Nat.le_of_ble_eq_true rfl) ⟨(Nat.le_of_ble_eq_true rfl), (Nat.le_of_ble_eq_true rfl)⟩ dX8_ratioOn_172 ?_
    refine J_zeq O (tgt := 183) (pc := 175) dX8_ratioOn_175 (by decide) (fun c175 => ?_) (fun c175 => ?_)
    · have hf := jt_f c175 hf
      refine J_aload O (i := 10) (pc := 183) 1 rfl dX8_ratioOn_183 ?_
      cases hf
      refine J_wsub [0, 1, 2, 4] [(q, .inr (2, [.ref t, .int q_o, .int q_l])), (t, .inr (4, [.ref tb, .int t_l])), (tb, .inl (cB, t_n, .inl (b8 t_f))), (e1, .inr (3, [.long e1_0, .long e1_1]))] rfl rfl rfl ?_
      exact J_aret O (pc := 185) _ rfl dX8_ratioOn_185
    · have hf := jt_t c175 hf
      refine J_aload O (i := 8) (pc := 178) 0 rfl dX8_ratioOn_178 ?_
      refine J_goto O (tgt := 185) (pc := 180) dX8_ratioOn_180 (by decide) ?_
      cases hf
      refine J_wsub [0, 1, 2, 3] [(q, .inr (2, [.ref t, .int q_o, .int q_l])), (t, .inr (4, [.ref tb, .int t_l])), (tb, .inl (cB, t_n, .inl (b8 t_f))), (e0, .inr (3, [.long e0_0, .long e0_1]))] rfl rfl rfl ?_
      exact J_aret O (pc := 185) _ rfl dX8_ratioOn_185
set_option maxHeartbeats 4000000 in
set_option maxRecDepth 100000 in
theorem wk_X8_ratioOn_128 {X : JC} {l : Launch} {D : va_G} {cB cI cJ : ClassId} (O : Jo X (l, D, cB, cI, cJ) cX8_ratioOn 11 RX8 wsX8_ratioOn rmX8_ratioOn (some (.object "BlorbRows$Ratio"))) (q t tb : Nat) (t_n : Nat) (q_o : Int32) (q_l : Int32) (t_l : Int32) (t_f : Nat → Int8) (a1 : Int32) (a2 : Int32) (a3 : Int32) (fu : Nat) {z : Int64 × Int64} (e0 : Nat) (e1 : Nat) (e2 : Nat) (e3 : Nat) (e0_0 : Int64) (e0_1 : Int64) (e1_0 : Int64) (e1_1 : Int64) (e2_0 : Int64) (e2_1 : Int64) (e3_0 : Int64) (e3_1 : Int64) (hf : p_X8_ratioOn_128 fu t_n q_o q_l t_f a1 a2 a3 e0_0 e0_1 e1_0 e1_1 e2_0 e2_1 e3_0 e3_1 = some z) : J X 11 (JQr X (fun a => [(q, .inr (2, [.ref t, .int q_o, .int q_l])), (t, .inr (4, [.ref tb, .int t_l])), (tb, .inl (cB, t_n, .inl (b8 t_f))), (a, .inr (3, [.long z.1, .long z.2]))]) 6 12) [(q, .inr (2, [.ref t, .int q_o, .int q_l])), (t, .inr (4, [.ref tb, .int t_l])), (tb, .inl (cB, t_n, .inl (b8 t_f))), (e0, .inr (3, [.long e0_0, .long e0_1])), (e1, .inr (3, [.long e1_0, .long e1_1])), (e2, .inr (3, [.long e2_0, .long e2_1])), (e3, .inr (3, [.long e3_0, .long e3_1]))] 5 10 128 [(6, .ref e0), (7, .ref e1), (8, .ref e2)] [.ref e3] := by
  rw [p_X8_ratioOn_128] at hf
  refine J_astore O (i := 9) (pc := 128) [(9, .ref e3), (6, .ref e0), (7, .ref e1), (8, .ref e2)] (by decide) rfl dX8_ratioOn_128 ?_
  refine J_aload O (i := 9) (pc := 130) 0 rfl dX8_ratioOn_130 ?_
  refine J_aload O (i := 6) (pc := 132) 1 rfl dX8_ratioOn_132 ?_
  obtain ⟨z134, h134, hf⟩ := jt_b hf
  refine J_callVr O (pc := 134) (c_X5_times l D cB cI cJ e3 e0 e3_0 e3_1 e0_0 e0_1 h134) rfl 0 rfl rfl gX8_ratioOn_X5_times hdV_X5_times ⟨(Nat.le_of_ble_eq_true rfl), (Nat.le_of_ble_eq_true rfl)⟩ rfl (st := []) rfl (Nat.le_of_ble_eq_true rfl) [6, 3] [0, 1, 2, 4, 5] rfl rfl rfl rfl rfl (by decide) (fun q134 => [(q, .inr (2, [.ref t, .int q_o, .int q_l])), (t, .inr (4, [.ref tb, .int t_l])), (tb, .inl (cB, t_n, .inl (b8 t_f))), (e0, .inr (3, [.long e0_0, .long e0_1])), (e1, .inr (3, [.long e1_0, .long e1_1])), (e2, .inr (3, [.long e2_0, .long e2_1])), (e3, .inr (3, [.long e3_0, .long e3_1])), (q134, .inr (3, [.long z134.1, .long z134.2]))]) [0, 1, 2, 6, 3, 4, 5, 7] rfl (fun _ => rfl) (fun _ => rfl) (6) (12) (Nat.le_of_ble_eq_true rfl) (Nat.le_of_ble_eq_true rfl) ⟨(Nat.le_of_ble_eq_true rfl), (Nat.le_of_ble_eq_true rfl)⟩ dX8_ratioOn_134 (fun q134 => ?_)
  refine J_astore O (i := 10) (pc := 137) [(10, .ref q134), (9, .ref e3), (6, .ref e0), (7, .ref e1), (8, .ref e2)] (by decide) rfl dX8_ratioOn_137 ?_
  refine J_aload O (i := 7) (pc := 139) 3 rfl dX8_ratioOn_139 ?_
  obtain ⟨z141, h141, hf⟩ := jt_b hf
  refine J_callVi O (pc := 141) (c_X5_isNothing l D cB cI cJ e1 e1_0 e1_1 h141) rfl 0 rfl rfl gX8_ratioOn_X5_isNothing hdV_X5_isNothing ⟨(Nat.le_of_ble_eq_true rfl), (Nat.le_of_ble_eq_true rfl)⟩ rfl (st := []) rfl (Nat.le_of_ble_eq_true rfl) [4] [0, 1, 2, 3, 5, 6, 7] rfl rfl rfl rfl rfl (by decide) [(q, .inr (2, [.ref t, .int q_o, .int q_l])), (t, .inr (4, [.ref tb, .int t_l])), (tb, .inl (cB, t_n, .inl (b8 t_f))), (e0, .inr (3, [.long e0_0, .long e0_1])), (e1, .inr (3, [.long e1_0, .long e1_1])), (e2, .inr (3, [.long e2_0, .long e2_1])), (e3, .inr (3, [.long e3_0, .long e3_1])), (q134, .inr (3, [.long z134.1, .long z134.2]))] [0, 1, 2, 3, 7, 4, 5, 6] rfl rfl rfl (6) (12) (Nat.le_of_ble_eq_true rfl) (Nat.le_of_ble_eq_true rfl) ⟨(Nat.le_of_ble_eq_true rfl), (Nat.le_of_ble_eq_true rfl)⟩ dX8_ratioOn_141 ?_
  refine J_zne O (tgt := 160) (pc := 144) dX8_ratioOn_144 (by decide) (fun c144 => ?_) (fun c144 => ?_)
  · have hf := jt_t c144 hf
    refine J_wsub [0, 1, 2, 5, 7] [(q, .inr (2, [.ref t, .int q_o, .int q_l])), (t, .inr (4, [.ref tb, .int t_l])), (tb, .inl (cB, t_n, .inl (b8 t_f))), (e2, .inr (3, [.long e2_0, .long e2_1])), (q134, .inr (3, [.long z134.1, .long z134.2]))] rfl rfl rfl ?_
    refine J_sub [4, 0] (lv' := [(8, .ref e2), (10, .ref q134)]) rfl ?_
    exact wk_X8_ratioOn_160 O q t tb t_n q_o q_l t_l t_f a1 a2 a3 fu e2 q134 e2_0 e2_1 z134.1 z134.2 hf
  · have hf := jt_f c144 hf
    refine J_aload O (i := 10) (pc := 147) 0 rfl dX8_ratioOn_147 ?_
    refine J_aload O (i := 7) (pc := 149) 3 rfl dX8_ratioOn_149 ?_
    obtain ⟨z151, h151, hf⟩ := jt_b hf
    refine J_callVi O (pc := 151) (c_X5_isBelow l D cB cI cJ q134 e1 z134.1 z134.2 e1_0 e1_1 h151) rfl 0 rfl rfl gX8_ratioOn_X5_isBelow hdV_X5_isBelow ⟨(Nat.le_of_ble_eq_true rfl), (Nat.le_of_ble_eq_true rfl)⟩ rfl (st := []) rfl (Nat.le_of_ble_eq_true rfl) [7, 4] [0, 1, 2, 3, 5, 6] rfl rfl rfl rfl rfl (by decide) [(q, .inr (2, [.ref t, .int q_o, .int q_l])), (t, .inr (4, [.ref tb, .int t_l])), (tb, .inl (cB, t_n, .inl (b8 t_f))), (e0, .inr (3, [.long e0_0, .long e0_1])), (e1, .inr (3, [.long e1_0, .long e1_1])), (e2, .inr (3, [.long e2_0, .long e2_1])), (e3, .inr (3, [.long e3_0, .long e3_1])), (q134, .inr (3, [.long z134.1, .long z134.2]))] [0, 1, 2, 3, 7, 4, 5, 6] rfl rfl rfl (6) (12) (Nat.le_of_ble_eq_true rfl) (Nat.le_of_ble_eq_true rfl) ⟨(Nat.le_of_ble_eq_true rfl), (Nat.le_of_ble_eq_true rfl)⟩ dX8_ratioOn_151 ?_
    refine J_zeq O (tgt := 160) (pc := 154) dX8_ratioOn_154 (by decide) (fun c154 => ?_) (fun c154 => ?_)
    · have hf := jt_f c154 hf
      refine J_wsub [0, 1, 2, 5, 7] [(q, .inr (2, [.ref t, .int q_o, .int q_l])), (t, .inr (4, [.ref tb, .int t_l])), (tb, .inl (cB, t_n, .inl (b8 t_f))), (e2, .inr (3, [.long e2_0, .long e2_1])), (q134, .inr (3, [.long z134.1, .long z134.2]))] rfl rfl rfl ?_
      refine J_sub [4, 0] (lv' := [(8, .ref e2), (10, .ref q134)]) rfl ?_
      exact wk_X8_ratioOn_160 O q t tb t_n q_o q_l t_l t_f a1 a2 a3 fu e2 q134 e2_0 e2_1 z134.1 z134.2 hf
    · have hf := jt_t c154 hf
      refine J_aload O (i := 7) (pc := 157) 3 rfl dX8_ratioOn_157 ?_
      cases hf
      refine J_wsub [0, 1, 2, 4] [(q, .inr (2, [.ref t, .int q_o, .int q_l])), (t, .inr (4, [.ref tb, .int t_l])), (tb, .inl (cB, t_n, .inl (b8 t_f))), (e1, .inr (3, [.long e1_0, .long e1_1]))] rfl rfl rfl ?_
      exact J_aret O (pc := 159) _ rfl dX8_ratioOn_159
set_option maxHeartbeats 4000000 in
set_option maxRecDepth 100000 in
theorem c_X8_ratioOn (l : Launch) (D : va_G) (cB cI cJ : ClassId) (q t tb t_n : Nat) (q_o : Int32) (q_l : Int32) (t_l : Int32) (t_f : Nat → Int8) (a1 : Int32) (a2 : Int32) (a3 : Int32) (fu : Nat) {z : Int64 × Int64} (hf : p_X8_ratioOn fu t_n q_o q_l t_f a1 a2 a3 = some z) : Cr (l, D, cB, cI, cJ) yX8_ratioOn wsX8_ratioOn rmX8_ratioOn [.ref q, .int a1, .int a2, .int a3] [(q, .inr (2, [.ref t, .int q_o, .int q_l])), (t, .inr (4, [.ref tb, .int t_l])), (tb, .inl (cB, t_n, .inl (b8 t_f)))] (fun a => [(q, .inr (2, [.ref t, .int q_o, .int q_l])), (t, .inr (4, [.ref tb, .int t_l])), (tb, .inl (cB, t_n, .inl (b8 t_f))), (a, .inr (3, [.long z.1, .long z.2]))]) := by
  refine Cr_of (cc := cX8_ratioOn) (nL := 11) (own := RX8) (ret := (some (.object "BlorbRows$Ratio"))) (by decide) rfl rfl (Nat.le_of_ble_eq_true rfl) (fun X O hnm0 => ?_)
  rw [p_X8_ratioOn] at hf
  show J X 11 (JQr X (fun a => [(q, .inr (2, [.ref t, .int q_o, .int q_l])), (t, .inr (4, [.ref tb, .int t_l])), (tb, .inl (cB, t_n, .inl (b8 t_f))), (a, .inr (3, [.long z.1, .long z.2]))]) 6 12) [(q, .inr (2, [.ref t, .int q_o, .int q_l])), (t, .inr (4, [.ref tb, .int t_l])), (tb, .inl (cB, t_n, .inl (b8 t_f)))] 0 0 0 [(0, .ref q), (1, .int a1), (2, .int a2), (3, .int a3)] []
  refine J_new O (pc := 0) in_X8_ratioOn_X5 tyX5 tyX5_ok mb_X8_ratioOn_1 mb_X8_ratioOn_2 mb_X8_ratioOn_3 rfl [.long 0, .long 0] fs_X5 (Nat.le_of_ble_eq_true rfl) (Nat.le_of_ble_eq_true rfl) (fun q0 => [(q, .inr (2, [.ref t, .int q_o, .int q_l])), (t, .inr (4, [.ref tb, .int t_l])), (tb, .inl (cB, t_n, .inl (b8 t_f))), (q0, .inr (3, [.long 0, .long 0]))]) (fun _ => rfl) (1) (2) rfl rfl dX8_ratioOn_0 (fun q0 => ?_)
  refine J_dup O (pc := 3) rfl dX8_ratioOn_3 ?_
  refine J_iload_n O (i := 2) (k0 := 2) (pc := 4) 2 rfl rfl dX8_ratioOn_4 ?_
  refine J_i2l O (pc := 5) dX8_ratioOn_5 ?_
  refine J_aload_n O (i := 0) (k0 := 0) (pc := 6) 0 rfl rfl dX8_ratioOn_6 ?_
  refine J_iconst O (v := 0) (pc := 7) (by decide) dX8_ratioOn_7 ?_
  obtain ⟨z8, h8, hf⟩ := jt_b hf
  refine J_callVl O (pc := 8) (c_X3_u4 l D cB cI cJ q t tb t_n q_o q_l t_l t_f 0 fu h8) rfl 0 rfl rfl gX8_ratioOn_X3_u4 hdV_X3_u4 ⟨(Nat.le_of_ble_eq_true rfl), (Nat.le_of_ble_eq_true rfl)⟩ rfl (st := [.long (Int32.toInt64 a2), .ref q0, .ref q0]) rfl (Nat.le_of_ble_eq_true rfl) [0, 1, 2] [3] rfl rfl rfl rfl rfl (by decide) [(q, .inr (2, [.ref t, .int q_o, .int q_l])), (t, .inr (4, [.ref tb, .int t_l])), (tb, .inl (cB, t_n, .inl (b8 t_f))), (q0, .inr (3, [.long 0, .long 0]))] [1, 2, 3, 0] rfl rfl rfl (1) (2) (Nat.le_of_ble_eq_true rfl) (Nat.le_of_ble_eq_true rfl) ⟨(Nat.le_of_ble_eq_true rfl), (Nat.le_of_ble_eq_true rfl)⟩ dX8_ratioOn_8 ?_
  obtain ⟨z11, h11, hf⟩ := jt_b hf
  refine J_callIv O (pc := 11) (ret' := none) (c_X5_init l D cB cI cJ q0 (Int32.toInt64 a2) z8 h11) rfl gX8_ratioOn_X5_init mb_X8_ratioOn_4 mb_X8_ratioOn_5 mb_X8_ratioOn_6 rfl hdS_X5_init ⟨(Nat.le_of_ble_eq_true rfl), (Nat.le_of_ble_eq_true rfl)⟩ rfl (st := [.ref q0]) rfl (Nat.le_of_ble_eq_true rfl) [3] [0, 1, 2] rfl rfl rfl rfl rfl (by decide) [(q, .inr (2, [.ref t, .int q_o, .int q_l])), (t, .inr (4, [.ref tb, .int t_l])), (tb, .inl (cB, t_n, .inl (b8 t_f))), (q0, .inr (3, [.long z11.1, .long z11.2]))] [0, 1, 2, 3] rfl rfl rfl (1) (2) (Nat.le_of_ble_eq_true rfl) (Nat.le_of_ble_eq_true rfl) ⟨(Nat.le_of_ble_eq_true rfl), (Nat.le_of_ble_eq_true rfl)⟩ dX8_ratioOn_11 ?_
  refine J_astore O (i := 4) (pc := 14) [(4, .ref q0), (0, .ref q), (1, .int a1), (2, .int a2), (3, .int a3)] (by decide) rfl dX8_ratioOn_14 ?_
  refine J_new O (pc := 16) in_X8_ratioOn_X5 tyX5 tyX5_ok mb_X8_ratioOn_1 mb_X8_ratioOn_2 mb_X8_ratioOn_3 rfl [.long 0, .long 0] fs_X5 (Nat.le_of_ble_eq_true rfl) (Nat.le_of_ble_eq_true rfl) (fun q16 => [(q, .inr (2, [.ref t, .int q_o, .int q_l])), (t, .inr (4, [.ref tb, .int t_l])), (tb, .inl (cB, t_n, .inl (b8 t_f))), (q0, .inr (3, [.long z11.1, .long z11.2])), (q16, .inr (3, [.long 0, .long 0]))]) (fun _ => rfl) (2) (4) rfl rfl dX8_ratioOn_16 (fun q16 => ?_)
  refine J_dup O (pc := 19) rfl dX8_ratioOn_19 ?_
  refine J_iload_n O (i := 3) (k0 := 3) (pc := 20) 4 rfl rfl dX8_ratioOn_20 ?_
  refine J_i2l O (pc := 21) dX8_ratioOn_21 ?_
  refine J_aload_n O (i := 0) (k0 := 0) (pc := 22) 1 rfl rfl dX8_ratioOn_22 ?_
  refine J_iconst O (v := 4) (pc := 23) (by decide) dX8_ratioOn_23 ?_
  obtain ⟨z24, h24, hf⟩ := jt_b hf
  refine J_callVl O (pc := 24) (c_X3_u4 l D cB cI cJ q t tb t_n q_o q_l t_l t_f 4 fu h24) rfl 0 rfl rfl gX8_ratioOn_X3_u4 hdV_X3_u4 ⟨(Nat.le_of_ble_eq_true rfl), (Nat.le_of_ble_eq_true rfl)⟩ rfl (st := [.long (Int32.toInt64 a3), .ref q16, .ref q16]) rfl (Nat.le_of_ble_eq_true rfl) [0, 1, 2] [3, 4] rfl rfl rfl rfl rfl (by decide) [(q, .inr (2, [.ref t, .int q_o, .int q_l])), (t, .inr (4, [.ref tb, .int t_l])), (tb, .inl (cB, t_n, .inl (b8 t_f))), (q0, .inr (3, [.long z11.1, .long z11.2])), (q16, .inr (3, [.long 0, .long 0]))] [2, 3, 4, 0, 1] rfl rfl rfl (2) (4) (Nat.le_of_ble_eq_true rfl) (Nat.le_of_ble_eq_true rfl) ⟨(Nat.le_of_ble_eq_true rfl), (Nat.le_of_ble_eq_true rfl)⟩ dX8_ratioOn_24 ?_
  obtain ⟨z27, h27, hf⟩ := jt_b hf
  refine J_callIv O (pc := 27) (ret' := none) (c_X5_init l D cB cI cJ q16 (Int32.toInt64 a3) z24 h27) rfl gX8_ratioOn_X5_init mb_X8_ratioOn_4 mb_X8_ratioOn_5 mb_X8_ratioOn_6 rfl hdS_X5_init ⟨(Nat.le_of_ble_eq_true rfl), (Nat.le_of_ble_eq_true rfl)⟩ rfl (st := [.ref q16]) rfl (Nat.le_of_ble_eq_true rfl) [4] [0, 1, 2, 3] rfl rfl rfl rfl rfl (by decide) [(q, .inr (2, [.ref t, .int q_o, .int q_l])), (t, .inr (4, [.ref tb, .int t_l])), (tb, .inl (cB, t_n, .inl (b8 t_f))), (q0, .inr (3, [.long z11.1, .long z11.2])), (q16, .inr (3, [.long z27.1, .long z27.2]))] [0, 1, 2, 3, 4] rfl rfl rfl (2) (4) (Nat.le_of_ble_eq_true rfl) (Nat.le_of_ble_eq_true rfl) ⟨(Nat.le_of_ble_eq_true rfl), (Nat.le_of_ble_eq_true rfl)⟩ dX8_ratioOn_27 ?_
  refine J_astore O (i := 5) (pc := 30) [(5, .ref q16), (4, .ref q0), (0, .ref q), (1, .int a1), (2, .int a2), (3, .int a3)] (by decide) rfl dX8_ratioOn_30 ?_
  refine J_aload_n O (i := 0) (k0 := 0) (pc := 32) 2 rfl rfl dX8_ratioOn_32 ?_
  refine J_iload_n O (i := 1) (k0 := 1) (pc := 33) 3 rfl rfl dX8_ratioOn_33 ?_
  refine J_iconst O (v := 4) (pc := 34) (by decide) dX8_ratioOn_34 ?_
  refine J_iadd O (pc := 35) dX8_ratioOn_35 ?_
  obtain ⟨z36, h36, hf⟩ := jt_b hf
  refine J_callSr O (pc := 36) (c_X8_ratioAt l D cB cI cJ q t tb t_n q_o q_l t_l t_f (a1 + 4) fu h36) rfl gX8_ratioOn_X8_ratioAt hdS_X8_ratioAt ⟨(Nat.le_of_ble_eq_true rfl), (Nat.le_of_ble_eq_true rfl)⟩ rfl (st := []) rfl (Nat.le_of_ble_eq_true rfl) [0, 1, 2] [3, 4] rfl rfl rfl rfl rfl (by decide) (fun q36 => [(q, .inr (2, [.ref t, .int q_o, .int q_l])), (t, .inr (4, [.ref tb, .int t_l])), (tb, .inl (cB, t_n, .inl (b8 t_f))), (q0, .inr (3, [.long z11.1, .long z11.2])), (q16, .inr (3, [.long z27.1, .long z27.2])), (q36, .inr (3, [.long z36.1, .long z36.2]))]) [2, 3, 4, 0, 1, 5] rfl (fun _ => rfl) (fun _ => rfl) (3) (6) (Nat.le_of_ble_eq_true rfl) (Nat.le_of_ble_eq_true rfl) ⟨(Nat.le_of_ble_eq_true rfl), (Nat.le_of_ble_eq_true rfl)⟩ dX8_ratioOn_36 (fun q36 => ?_)
  refine J_astore O (i := 6) (pc := 39) [(6, .ref q36), (5, .ref q16), (4, .ref q0), (0, .ref q), (1, .int a1), (2, .int a2), (3, .int a3)] (by decide) rfl dX8_ratioOn_39 ?_
  refine J_aload_n O (i := 0) (k0 := 0) (pc := 41) 3 rfl rfl dX8_ratioOn_41 ?_
  refine J_iload_n O (i := 1) (k0 := 1) (pc := 42) 4 rfl rfl dX8_ratioOn_42 ?_
  refine J_bipush O (v := 12) (pc := 43) (by decide) dX8_ratioOn_43 ?_
  refine J_iadd O (pc := 45) dX8_ratioOn_45 ?_
  obtain ⟨z46, h46, hf⟩ := jt_b hf
  refine J_callSr O (pc := 46) (c_X8_ratioAt l D cB cI cJ q t tb t_n q_o q_l t_l t_f (a1 + 12) fu h46) rfl gX8_ratioOn_X8_ratioAt hdS_X8_ratioAt ⟨(Nat.le_of_ble_eq_true rfl), (Nat.le_of_ble_eq_true rfl)⟩ rfl (st := []) rfl (Nat.le_of_ble_eq_true rfl) [0, 1, 2] [3, 4, 5] rfl rfl rfl rfl rfl (by decide) (fun q46 => [(q, .inr (2, [.ref t, .int q_o, .int q_l])), (t, .inr (4, [.ref tb, .int t_l])), (tb, .inl (cB, t_n, .inl (b8 t_f))), (q0, .inr (3, [.long z11.1, .long z11.2])), (q16, .inr (3, [.long z27.1, .long z27.2])), (q36, .inr (3, [.long z36.1, .long z36.2])), (q46, .inr (3, [.long z46.1, .long z46.2]))]) [3, 4, 5, 0, 1, 2, 6] rfl (fun _ => rfl) (fun _ => rfl) (4) (8) (Nat.le_of_ble_eq_true rfl) (Nat.le_of_ble_eq_true rfl) ⟨(Nat.le_of_ble_eq_true rfl), (Nat.le_of_ble_eq_true rfl)⟩ dX8_ratioOn_46 (fun q46 => ?_)
  refine J_astore O (i := 7) (pc := 49) [(7, .ref q46), (6, .ref q36), (5, .ref q16), (4, .ref q0), (0, .ref q), (1, .int a1), (2, .int a2), (3, .int a3)] (by decide) rfl dX8_ratioOn_49 ?_
  refine J_aload_n O (i := 0) (k0 := 0) (pc := 51) 4 rfl rfl dX8_ratioOn_51 ?_
  refine J_iload_n O (i := 1) (k0 := 1) (pc := 52) 5 rfl rfl dX8_ratioOn_52 ?_
  refine J_bipush O (v := 20) (pc := 53) (by decide) dX8_ratioOn_53 ?_
  refine J_iadd O (pc := 55) dX8_ratioOn_55 ?_
  obtain ⟨z56, h56, hf⟩ := jt_b hf
  refine J_callSr O (pc := 56) (c_X8_ratioAt l D cB cI cJ q t tb t_n q_o q_l t_l t_f (a1 + 20) fu h56) rfl gX8_ratioOn_X8_ratioAt hdS_X8_ratioAt ⟨(Nat.le_of_ble_eq_true rfl), (Nat.le_of_ble_eq_true rfl)⟩ rfl (st := []) rfl (Nat.le_of_ble_eq_true rfl) [0, 1, 2] [3, 4, 5, 6] rfl rfl rfl rfl rfl (by decide) (fun q56 => [(q, .inr (2, [.ref t, .int q_o, .int q_l])), (t, .inr (4, [.ref tb, .int t_l])), (tb, .inl (cB, t_n, .inl (b8 t_f))), (q0, .inr (3, [.long z11.1, .long z11.2])), (q16, .inr (3, [.long z27.1, .long z27.2])), (q36, .inr (3, [.long z36.1, .long z36.2])), (q46, .inr (3, [.long z46.1, .long z46.2])), (q56, .inr (3, [.long z56.1, .long z56.2]))]) [4, 5, 6, 0, 1, 2, 3, 7] rfl (fun _ => rfl) (fun _ => rfl) (5) (10) (Nat.le_of_ble_eq_true rfl) (Nat.le_of_ble_eq_true rfl) ⟨(Nat.le_of_ble_eq_true rfl), (Nat.le_of_ble_eq_true rfl)⟩ dX8_ratioOn_56 (fun q56 => ?_)
  refine J_astore O (i := 8) (pc := 59) [(8, .ref q56), (7, .ref q46), (6, .ref q36), (5, .ref q16), (4, .ref q0), (0, .ref q), (1, .int a1), (2, .int a2), (3, .int a3)] (by decide) rfl dX8_ratioOn_59 ?_
  refine J_aload O (i := 4) (pc := 61) 4 rfl dX8_ratioOn_61 ?_
  obtain ⟨z63, h63, hf⟩ := jt_b hf
  refine J_callVi O (pc := 63) (c_X5_isUsable l D cB cI cJ q0 z11.1 z11.2 h63) rfl 0 rfl rfl gX8_ratioOn_X5_isUsable hdV_X5_isUsable ⟨(Nat.le_of_ble_eq_true rfl), (Nat.le_of_ble_eq_true rfl)⟩ rfl (st := []) rfl (Nat.le_of_ble_eq_true rfl) [3] [0, 1, 2, 4, 5, 6, 7] rfl rfl rfl rfl rfl (by decide) [(q, .inr (2, [.ref t, .int q_o, .int q_l])), (t, .inr (4, [.ref tb, .int t_l])), (tb, .inl (cB, t_n, .inl (b8 t_f))), (q0, .inr (3, [.long z11.1, .long z11.2])), (q16, .inr (3, [.long z27.1, .long z27.2])), (q36, .inr (3, [.long z36.1, .long z36.2])), (q46, .inr (3, [.long z46.1, .long z46.2])), (q56, .inr (3, [.long z56.1, .long z56.2]))] [0, 1, 2, 7, 3, 4, 5, 6] rfl rfl rfl (5) (10) (Nat.le_of_ble_eq_true rfl) (Nat.le_of_ble_eq_true rfl) ⟨(Nat.le_of_ble_eq_true rfl), (Nat.le_of_ble_eq_true rfl)⟩ dX8_ratioOn_63 ?_
  refine J_zeq O (tgt := 101) (pc := 66) dX8_ratioOn_66 (by decide) (fun c66 => ?_) (fun c66 => ?_)
  · have hf := jt_f c66 hf
    refine J_new O (pc := 101) in_X8_ratioOn_X5 tyX5 tyX5_ok mb_X8_ratioOn_1 mb_X8_ratioOn_2 mb_X8_ratioOn_3 rfl [.long 0, .long 0] fs_X5 (Nat.le_of_ble_eq_true rfl) (Nat.le_of_ble_eq_true rfl) (fun q101 => [(q, .inr (2, [.ref t, .int q_o, .int q_l])), (t, .inr (4, [.ref tb, .int t_l])), (tb, .inl (cB, t_n, .inl (b8 t_f))), (q0, .inr (3, [.long z11.1, .long z11.2])), (q16, .inr (3, [.long z27.1, .long z27.2])), (q36, .inr (3, [.long z36.1, .long z36.2])), (q46, .inr (3, [.long z46.1, .long z46.2])), (q56, .inr (3, [.long z56.1, .long z56.2])), (q101, .inr (3, [.long 0, .long 0]))]) (fun _ => rfl) (6) (12) rfl rfl dX8_ratioOn_101 (fun q101 => ?_)
    refine J_dup O (pc := 104) rfl dX8_ratioOn_104 ?_
    refine J_lconst O (v := 0) (pc := 105) (by decide) dX8_ratioOn_105 ?_
    refine J_lconst O (v := 0) (pc := 106) (by decide) dX8_ratioOn_106 ?_
    obtain ⟨z107, h107, hf⟩ := jt_b hf
    refine J_callIv O (pc := 107) (ret' := none) (c_X5_init l D cB cI cJ q101 0 0 h107) rfl gX8_ratioOn_X5_init mb_X8_ratioOn_4 mb_X8_ratioOn_5 mb_X8_ratioOn_6 rfl hdS_X5_init ⟨(Nat.le_of_ble_eq_true rfl), (Nat.le_of_ble_eq_true rfl)⟩ rfl (st := [.ref q101]) rfl (Nat.le_of_ble_eq_true rfl) [8] [0, 1, 2, 3, 4, 5, 6, 7] rfl rfl rfl rfl rfl (by decide) [(q, .inr (2, [.ref t, .int q_o, .int q_l])), (t, .inr (4, [.ref tb, .int t_l])), (tb, .inl (cB, t_n, .inl (b8 t_f))), (q0, .inr (3, [.long z11.1, .long z11.2])), (q16, .inr (3, [.long z27.1, .long z27.2])), (q36, .inr (3, [.long z36.1, .long z36.2])), (q46, .inr (3, [.long z46.1, .long z46.2])), (q56, .inr (3, [.long z56.1, .long z56.2])), (q101, .inr (3, [.long z107.1, .long z107.2]))] [0, 1, 2, 3, 4, 5, 6, 7, 8] rfl rfl rfl (6) (12) (Nat.le_of_ble_eq_true rfl) (Nat.le_of_ble_eq_true rfl) ⟨(Nat.le_of_ble_eq_true rfl), (Nat.le_of_ble_eq_true rfl)⟩ dX8_ratioOn_107 ?_
    cases hf
    refine J_wsub [0, 1, 2, 8] [(q, .inr (2, [.ref t, .int q_o, .int q_l])), (t, .inr (4, [.ref tb, .int t_l])), (tb, .inl (cB, t_n, .inl (b8 t_f))), (q101, .inr (3, [.long z107.1, .long z107.2]))] rfl rfl rfl ?_
    exact J_aret O (pc := 110) _ rfl dX8_ratioOn_110
  · have hf := jt_t c66 hf
    refine J_aload O (i := 5) (pc := 69) 3 rfl dX8_ratioOn_69 ?_
    obtain ⟨z71, h71, hf⟩ := jt_b hf
    refine J_callVi O (pc := 71) (c_X5_isUsable l D cB cI cJ q16 z27.1 z27.2 h71) rfl 0 rfl rfl gX8_ratioOn_X5_isUsable hdV_X5_isUsable ⟨(Nat.le_of_ble_eq_true rfl), (Nat.le_of_ble_eq_true rfl)⟩ rfl (st := []) rfl (Nat.le_of_ble_eq_true rfl) [4] [0, 1, 2, 3, 5, 6, 7] rfl rfl rfl rfl rfl (by decide) [(q, .inr (2, [.ref t, .int q_o, .int q_l])), (t, .inr (4, [.ref tb, .int t_l])), (tb, .inl (cB, t_n, .inl (b8 t_f))), (q0, .inr (3, [.long z11.1, .long z11.2])), (q16, .inr (3, [.long z27.1, .long z27.2])), (q36, .inr (3, [.long z36.1, .long z36.2])), (q46, .inr (3, [.long z46.1, .long z46.2])), (q56, .inr (3, [.long z56.1, .long z56.2]))] [0, 1, 2, 3, 7, 4, 5, 6] rfl rfl rfl (5) (10) (Nat.le_of_ble_eq_true rfl) (Nat.le_of_ble_eq_true rfl) ⟨(Nat.le_of_ble_eq_true rfl), (Nat.le_of_ble_eq_true rfl)⟩ dX8_ratioOn_71 ?_
    refine J_zeq O (tgt := 101) (pc := 74) dX8_ratioOn_74 (by decide) (fun c74 => ?_) (fun c74 => ?_)
    · have hf := jt_f c74 hf
      refine J_new O (pc := 101) in_X8_ratioOn_X5 tyX5 tyX5_ok mb_X8_ratioOn_1 mb_X8_ratioOn_2 mb_X8_ratioOn_3 rfl [.long 0, .long 0] fs_X5 (Nat.le_of_ble_eq_true rfl) (Nat.le_of_ble_eq_true rfl) (fun q101 => [(q, .inr (2, [.ref t, .int q_o, .int q_l])), (t, .inr (4, [.ref tb, .int t_l])), (tb, .inl (cB, t_n, .inl (b8 t_f))), (q0, .inr (3, [.long z11.1, .long z11.2])), (q16, .inr (3, [.long z27.1, .long z27.2])), (q36, .inr (3, [.long z36.1, .long z36.2])), (q46, .inr (3, [.long z46.1, .long z46.2])), (q56, .inr (3, [.long z56.1, .long z56.2])), (q101, .inr (3, [.long 0, .long 0]))]) (fun _ => rfl) (6) (12) rfl rfl dX8_ratioOn_101 (fun q101 => ?_)
      refine J_dup O (pc := 104) rfl dX8_ratioOn_104 ?_
      refine J_lconst O (v := 0) (pc := 105) (by decide) dX8_ratioOn_105 ?_
      refine J_lconst O (v := 0) (pc := 106) (by decide) dX8_ratioOn_106 ?_
      obtain ⟨z107, h107, hf⟩ := jt_b hf
      refine J_callIv O (pc := 107) (ret' := none) (c_X5_init l D cB cI cJ q101 0 0 h107) rfl gX8_ratioOn_X5_init mb_X8_ratioOn_4 mb_X8_ratioOn_5 mb_X8_ratioOn_6 rfl hdS_X5_init ⟨(Nat.le_of_ble_eq_true rfl), (Nat.le_of_ble_eq_true rfl)⟩ rfl (st := [.ref q101]) rfl (Nat.le_of_ble_eq_true rfl) [8] [0, 1, 2, 3, 4, 5, 6, 7] rfl rfl rfl rfl rfl (by decide) [(q, .inr (2, [.ref t, .int q_o, .int q_l])), (t, .inr (4, [.ref tb, .int t_l])), (tb, .inl (cB, t_n, .inl (b8 t_f))), (q0, .inr (3, [.long z11.1, .long z11.2])), (q16, .inr (3, [.long z27.1, .long z27.2])), (q36, .inr (3, [.long z36.1, .long z36.2])), (q46, .inr (3, [.long z46.1, .long z46.2])), (q56, .inr (3, [.long z56.1, .long z56.2])), (q101, .inr (3, [.long z107.1, .long z107.2]))] [0, 1, 2, 3, 4, 5, 6, 7, 8] rfl rfl rfl (6) (12) (Nat.le_of_ble_eq_true rfl) (Nat.le_of_ble_eq_true rfl) ⟨(Nat.le_of_ble_eq_true rfl), (Nat.le_of_ble_eq_true rfl)⟩ dX8_ratioOn_107 ?_
      cases hf
      refine J_wsub [0, 1, 2, 8] [(q, .inr (2, [.ref t, .int q_o, .int q_l])), (t, .inr (4, [.ref tb, .int t_l])), (tb, .inl (cB, t_n, .inl (b8 t_f))), (q101, .inr (3, [.long z107.1, .long z107.2]))] rfl rfl rfl ?_
      exact J_aret O (pc := 110) _ rfl dX8_ratioOn_110
    · have hf := jt_t c74 hf
      refine J_aload O (i := 6) (pc := 77) 2 rfl dX8_ratioOn_77 ?_
      obtain ⟨z79, h79, hf⟩ := jt_b hf
      refine J_callVi O (pc := 79) (c_X5_isUsable l D cB cI cJ q36 z36.1 z36.2 h79) rfl 0 rfl rfl gX8_ratioOn_X5_isUsable hdV_X5_isUsable ⟨(Nat.le_of_ble_eq_true rfl), (Nat.le_of_ble_eq_true rfl)⟩ rfl (st := []) rfl (Nat.le_of_ble_eq_true rfl) [5] [0, 1, 2, 3, 4, 6, 7] rfl rfl rfl rfl rfl (by decide) [(q, .inr (2, [.ref t, .int q_o, .int q_l])), (t, .inr (4, [.ref tb, .int t_l])), (tb, .inl (cB, t_n, .inl (b8 t_f))), (q0, .inr (3, [.long z11.1, .long z11.2])), (q16, .inr (3, [.long z27.1, .long z27.2])), (q36, .inr (3, [.long z36.1, .long z36.2])), (q46, .inr (3, [.long z46.1, .long z46.2])), (q56, .inr (3, [.long z56.1, .long z56.2]))] [0, 1, 2, 3, 4, 7, 5, 6] rfl rfl rfl (5) (10) (Nat.le_of_ble_eq_true rfl) (Nat.le_of_ble_eq_true rfl) ⟨(Nat.le_of_ble_eq_true rfl), (Nat.le_of_ble_eq_true rfl)⟩ dX8_ratioOn_79 ?_
      refine J_zeq O (tgt := 101) (pc := 82) dX8_ratioOn_82 (by decide) (fun c82 => ?_) (fun c82 => ?_)
      · have hf := jt_f c82 hf
        refine J_new O (pc := 101) in_X8_ratioOn_X5 tyX5 tyX5_ok mb_X8_ratioOn_1 mb_X8_ratioOn_2 mb_X8_ratioOn_3 rfl [.long 0, .long 0] fs_X5 (Nat.le_of_ble_eq_true rfl) (Nat.le_of_ble_eq_true rfl) (fun q101 => [(q, .inr (2, [.ref t, .int q_o, .int q_l])), (t, .inr (4, [.ref tb, .int t_l])), (tb, .inl (cB, t_n, .inl (b8 t_f))), (q0, .inr (3, [.long z11.1, .long z11.2])), (q16, .inr (3, [.long z27.1, .long z27.2])), (q36, .inr (3, [.long z36.1, .long z36.2])), (q46, .inr (3, [.long z46.1, .long z46.2])), (q56, .inr (3, [.long z56.1, .long z56.2])), (q101, .inr (3, [.long 0, .long 0]))]) (fun _ => rfl) (6) (12) rfl rfl dX8_ratioOn_101 (fun q101 => ?_)
        refine J_dup O (pc := 104) rfl dX8_ratioOn_104 ?_
        refine J_lconst O (v := 0) (pc := 105) (by decide) dX8_ratioOn_105 ?_
        refine J_lconst O (v := 0) (pc := 106) (by decide) dX8_ratioOn_106 ?_
        obtain ⟨z107, h107, hf⟩ := jt_b hf
        refine J_callIv O (pc := 107) (ret' := none) (c_X5_init l D cB cI cJ q101 0 0 h107) rfl gX8_ratioOn_X5_init mb_X8_ratioOn_4 mb_X8_ratioOn_5 mb_X8_ratioOn_6 rfl hdS_X5_init ⟨(Nat.le_of_ble_eq_true rfl), (Nat.le_of_ble_eq_true rfl)⟩ rfl (st := [.ref q101]) rfl (Nat.le_of_ble_eq_true rfl) [8] [0, 1, 2, 3, 4, 5, 6, 7] rfl rfl rfl rfl rfl (by decide) [(q, .inr (2, [.ref t, .int q_o, .int q_l])), (t, .inr (4, [.ref tb, .int t_l])), (tb, .inl (cB, t_n, .inl (b8 t_f))), (q0, .inr (3, [.long z11.1, .long z11.2])), (q16, .inr (3, [.long z27.1, .long z27.2])), (q36, .inr (3, [.long z36.1, .long z36.2])), (q46, .inr (3, [.long z46.1, .long z46.2])), (q56, .inr (3, [.long z56.1, .long z56.2])), (q101, .inr (3, [.long z107.1, .long z107.2]))] [0, 1, 2, 3, 4, 5, 6, 7, 8] rfl rfl rfl (6) (12) (Nat.le_of_ble_eq_true rfl) (Nat.le_of_ble_eq_true rfl) ⟨(Nat.le_of_ble_eq_true rfl), (Nat.le_of_ble_eq_true rfl)⟩ dX8_ratioOn_107 ?_
        cases hf
        refine J_wsub [0, 1, 2, 8] [(q, .inr (2, [.ref t, .int q_o, .int q_l])), (t, .inr (4, [.ref tb, .int t_l])), (tb, .inl (cB, t_n, .inl (b8 t_f))), (q101, .inr (3, [.long z107.1, .long z107.2]))] rfl rfl rfl ?_
        exact J_aret O (pc := 110) _ rfl dX8_ratioOn_110
      · have hf := jt_t c82 hf
        refine J_aload O (i := 7) (pc := 85) 1 rfl dX8_ratioOn_85 ?_
        obtain ⟨z87, h87, hf⟩ := jt_b hf
        refine J_callVi O (pc := 87) (c_X5_isLimit l D cB cI cJ q46 z46.1 z46.2 h87) rfl 0 rfl rfl gX8_ratioOn_X5_isLimit hdV_X5_isLimit ⟨(Nat.le_of_ble_eq_true rfl), (Nat.le_of_ble_eq_true rfl)⟩ rfl (st := []) rfl (Nat.le_of_ble_eq_true rfl) [6] [0, 1, 2, 3, 4, 5, 7] rfl rfl rfl rfl rfl (by decide) [(q, .inr (2, [.ref t, .int q_o, .int q_l])), (t, .inr (4, [.ref tb, .int t_l])), (tb, .inl (cB, t_n, .inl (b8 t_f))), (q0, .inr (3, [.long z11.1, .long z11.2])), (q16, .inr (3, [.long z27.1, .long z27.2])), (q36, .inr (3, [.long z36.1, .long z36.2])), (q46, .inr (3, [.long z46.1, .long z46.2])), (q56, .inr (3, [.long z56.1, .long z56.2]))] [0, 1, 2, 3, 4, 5, 7, 6] rfl rfl rfl (5) (10) (Nat.le_of_ble_eq_true rfl) (Nat.le_of_ble_eq_true rfl) ⟨(Nat.le_of_ble_eq_true rfl), (Nat.le_of_ble_eq_true rfl)⟩ dX8_ratioOn_87 ?_
        refine J_zeq O (tgt := 101) (pc := 90) dX8_ratioOn_90 (by decide) (fun c90 => ?_) (fun c90 => ?_)
        · have hf := jt_f c90 hf
          refine J_new O (pc := 101) in_X8_ratioOn_X5 tyX5 tyX5_ok mb_X8_ratioOn_1 mb_X8_ratioOn_2 mb_X8_ratioOn_3 rfl [.long 0, .long 0] fs_X5 (Nat.le_of_ble_eq_true rfl) (Nat.le_of_ble_eq_true rfl) (fun q101 => [(q, .inr (2, [.ref t, .int q_o, .int q_l])), (t, .inr (4, [.ref tb, .int t_l])), (tb, .inl (cB, t_n, .inl (b8 t_f))), (q0, .inr (3, [.long z11.1, .long z11.2])), (q16, .inr (3, [.long z27.1, .long z27.2])), (q36, .inr (3, [.long z36.1, .long z36.2])), (q46, .inr (3, [.long z46.1, .long z46.2])), (q56, .inr (3, [.long z56.1, .long z56.2])), (q101, .inr (3, [.long 0, .long 0]))]) (fun _ => rfl) (6) (12) rfl rfl dX8_ratioOn_101 (fun q101 => ?_)
          refine J_dup O (pc := 104) rfl dX8_ratioOn_104 ?_
          refine J_lconst O (v := 0) (pc := 105) (by decide) dX8_ratioOn_105 ?_
          refine J_lconst O (v := 0) (pc := 106) (by decide) dX8_ratioOn_106 ?_
          obtain ⟨z107, h107, hf⟩ := jt_b hf
          refine J_callIv O (pc := 107) (ret' := none) (c_X5_init l D cB cI cJ q101 0 0 h107) rfl gX8_ratioOn_X5_init mb_X8_ratioOn_4 mb_X8_ratioOn_5 mb_X8_ratioOn_6 rfl hdS_X5_init ⟨(Nat.le_of_ble_eq_true rfl), (Nat.le_of_ble_eq_true rfl)⟩ rfl (st := [.ref q101]) rfl (Nat.le_of_ble_eq_true rfl) [8] [0, 1, 2, 3, 4, 5, 6, 7] rfl rfl rfl rfl rfl (by decide) [(q, .inr (2, [.ref t, .int q_o, .int q_l])), (t, .inr (4, [.ref tb, .int t_l])), (tb, .inl (cB, t_n, .inl (b8 t_f))), (q0, .inr (3, [.long z11.1, .long z11.2])), (q16, .inr (3, [.long z27.1, .long z27.2])), (q36, .inr (3, [.long z36.1, .long z36.2])), (q46, .inr (3, [.long z46.1, .long z46.2])), (q56, .inr (3, [.long z56.1, .long z56.2])), (q101, .inr (3, [.long z107.1, .long z107.2]))] [0, 1, 2, 3, 4, 5, 6, 7, 8] rfl rfl rfl (6) (12) (Nat.le_of_ble_eq_true rfl) (Nat.le_of_ble_eq_true rfl) ⟨(Nat.le_of_ble_eq_true rfl), (Nat.le_of_ble_eq_true rfl)⟩ dX8_ratioOn_107 ?_
          cases hf
          refine J_wsub [0, 1, 2, 8] [(q, .inr (2, [.ref t, .int q_o, .int q_l])), (t, .inr (4, [.ref tb, .int t_l])), (tb, .inl (cB, t_n, .inl (b8 t_f))), (q101, .inr (3, [.long z107.1, .long z107.2]))] rfl rfl rfl ?_
          exact J_aret O (pc := 110) _ rfl dX8_ratioOn_110
        · have hf := jt_t c90 hf
          refine J_aload O (i := 8) (pc := 93) 0 rfl dX8_ratioOn_93 ?_
          obtain ⟨z95, h95, hf⟩ := jt_b hf
          refine J_callVi O (pc := 95) (c_X5_isLimit l D cB cI cJ q56 z56.1 z56.2 h95) rfl 0 rfl rfl gX8_ratioOn_X5_isLimit hdV_X5_isLimit ⟨(Nat.le_of_ble_eq_true rfl), (Nat.le_of_ble_eq_true rfl)⟩ rfl (st := []) rfl (Nat.le_of_ble_eq_true rfl) [7] [0, 1, 2, 3, 4, 5, 6] rfl rfl rfl rfl rfl (by decide) [(q, .inr (2, [.ref t, .int q_o, .int q_l])), (t, .inr (4, [.ref tb, .int t_l])), (tb, .inl (cB, t_n, .inl (b8 t_f))), (q0, .inr (3, [.long z11.1, .long z11.2])), (q16, .inr (3, [.long z27.1, .long z27.2])), (q36, .inr (3, [.long z36.1, .long z36.2])), (q46, .inr (3, [.long z46.1, .long z46.2])), (q56, .inr (3, [.long z56.1, .long z56.2]))] [0, 1, 2, 3, 4, 5, 6, 7] rfl rfl rfl (5) (10) (Nat.le_of_ble_eq_true rfl) (Nat.le_of_ble_eq_true rfl) ⟨(Nat.le_of_ble_eq_true rfl), (Nat.le_of_ble_eq_true rfl)⟩ dX8_ratioOn_95 ?_
          refine J_zne O (tgt := 111) (pc := 98) dX8_ratioOn_98 (by decide) (fun c98 => ?_) (fun c98 => ?_)
          · have hf := jt_t c98 hf
            refine J_aload O (i := 5) (pc := 111) 3 rfl dX8_ratioOn_111 ?_
            refine J_aload O (i := 4) (pc := 113) 4 rfl dX8_ratioOn_113 ?_
            obtain ⟨z115, h115, hf⟩ := jt_b hf
            refine J_callVi O (pc := 115) (c_X5_isBelow l D cB cI cJ q16 q0 z27.1 z27.2 z11.1 z11.2 h115) rfl 0 rfl rfl gX8_ratioOn_X5_isBelow hdV_X5_isBelow ⟨(Nat.le_of_ble_eq_true rfl), (Nat.le_of_ble_eq_true rfl)⟩ rfl (st := []) rfl (Nat.le_of_ble_eq_true rfl) [4, 3] [0, 1, 2, 5, 6, 7] rfl rfl rfl rfl rfl (by decide) [(q, .inr (2, [.ref t, .int q_o, .int q_l])), (t, .inr (4, [.ref tb, .int t_l])), (tb, .inl (cB, t_n, .inl (b8 t_f))), (q0, .inr (3, [.long z11.1, .long z11.2])), (q16, .inr (3, [.long z27.1, .long z27.2])), (q36, .inr (3, [.long z36.1, .long z36.2])), (q46, .inr (3, [.long z46.1, .long z46.2])), (q56, .inr (3, [.long z56.1, .long z56.2]))] [0, 1, 2, 7, 6, 3, 4, 5] rfl rfl rfl (5) (10) (Nat.le_of_ble_eq_true rfl) (Nat.le_of_ble_eq_true rfl) ⟨(Nat.le_of_ble_eq_true rfl), (Nat.le_of_ble_eq_true rfl)⟩ dX8_ratioOn_115 ?_
            refine J_zeq O (tgt := 126) (pc := 118) dX8_ratioOn_118 (by decide) (fun c118 => ?_) (fun c118 => ?_)
            · have hf := jt_f c118 hf
              refine J_aload O (i := 4) (pc := 126) 4 rfl dX8_ratioOn_126 ?_
              refine J_wsub [0, 1, 2, 5, 6, 7, 3] [(q, .inr (2, [.ref t, .int q_o, .int q_l])), (t, .inr (4, [.ref tb, .int t_l])), (tb, .inl (cB, t_n, .inl (b8 t_f))), (q36, .inr (3, [.long z36.1, .long z36.2])), (q46, .inr (3, [.long z46.1, .long z46.2])), (q56, .inr (3, [.long z56.1, .long z56.2])), (q0, .inr (3, [.long z11.1, .long z11.2]))] rfl rfl rfl ?_
              refine J_sub [2, 1, 0] (lv' := [(6, .ref q36), (7, .ref q46), (8, .ref q56)]) rfl ?_
              exact wk_X8_ratioOn_128 O q t tb t_n q_o q_l t_l t_f a1 a2 a3 fu q36 q46 q56 q0 z36.1 z36.2 z46.1 z46.2 z56.1 z56.2 z11.1 z11.2 hf
            · have hf := jt_t c118 hf
              refine J_aload O (i := 5) (pc := 121) 3 rfl dX8_ratioOn_121 ?_
              refine J_goto O (tgt := 128) (pc := 123) dX8_ratioOn_123 (by decide) ?_
              refine J_wsub [0, 1, 2, 5, 6, 7, 4] [(q, .inr (2, [.ref t, .int q_o, .int q_l])), (t, .inr (4, [.ref tb, .int t_l])), (tb, .inl (cB, t_n, .inl (b8 t_f))), (q36, .inr (3, [.long z36.1, .long z36.2])), (q46, .inr (3, [.long z46.1, .long z46.2])), (q56, .inr (3, [.long z56.1, .long z56.2])), (q16, .inr (3, [.long z27.1, .long z27.2]))] rfl rfl rfl ?_
              refine J_sub [2, 1, 0] (lv' := [(6, .ref q36), (7, .ref q46), (8, .ref q56)]) rfl ?_
              exact wk_X8_ratioOn_128 O q t tb t_n q_o q_l t_l t_f a1 a2 a3 fu q36 q46 q56 q16 z36.1 z36.2 z46.1 z46.2 z56.1 z56.2 z27.1 z27.2 hf
          · have hf := jt_f c98 hf
            refine J_new O (pc := 101) in_X8_ratioOn_X5 tyX5 tyX5_ok mb_X8_ratioOn_1 mb_X8_ratioOn_2 mb_X8_ratioOn_3 rfl [.long 0, .long 0] fs_X5 (Nat.le_of_ble_eq_true rfl) (Nat.le_of_ble_eq_true rfl) (fun q101 => [(q, .inr (2, [.ref t, .int q_o, .int q_l])), (t, .inr (4, [.ref tb, .int t_l])), (tb, .inl (cB, t_n, .inl (b8 t_f))), (q0, .inr (3, [.long z11.1, .long z11.2])), (q16, .inr (3, [.long z27.1, .long z27.2])), (q36, .inr (3, [.long z36.1, .long z36.2])), (q46, .inr (3, [.long z46.1, .long z46.2])), (q56, .inr (3, [.long z56.1, .long z56.2])), (q101, .inr (3, [.long 0, .long 0]))]) (fun _ => rfl) (6) (12) rfl rfl dX8_ratioOn_101 (fun q101 => ?_)
            refine J_dup O (pc := 104) rfl dX8_ratioOn_104 ?_
            refine J_lconst O (v := 0) (pc := 105) (by decide) dX8_ratioOn_105 ?_
            refine J_lconst O (v := 0) (pc := 106) (by decide) dX8_ratioOn_106 ?_
            obtain ⟨z107, h107, hf⟩ := jt_b hf
            refine J_callIv O (pc := 107) (ret' := none) (c_X5_init l D cB cI cJ q101 0 0 h107) rfl gX8_ratioOn_X5_init mb_X8_ratioOn_4 mb_X8_ratioOn_5 mb_X8_ratioOn_6 rfl hdS_X5_init ⟨(Nat.le_of_ble_eq_true rfl), (Nat.le_of_ble_eq_true rfl)⟩ rfl (st := [.ref q101]) rfl (Nat.le_of_ble_eq_true rfl) [8] [0, 1, 2, 3, 4, 5, 6, 7] rfl rfl rfl rfl rfl (by decide) [(q, .inr (2, [.ref t, .int q_o, .int q_l])), (t, .inr (4, [.ref tb, .int t_l])), (tb, .inl (cB, t_n, .inl (b8 t_f))), (q0, .inr (3, [.long z11.1, .long z11.2])), (q16, .inr (3, [.long z27.1, .long z27.2])), (q36, .inr (3, [.long z36.1, .long z36.2])), (q46, .inr (3, [.long z46.1, .long z46.2])), (q56, .inr (3, [.long z56.1, .long z56.2])), (q101, .inr (3, [.long z107.1, .long z107.2]))] [0, 1, 2, 3, 4, 5, 6, 7, 8] rfl rfl rfl (6) (12) (Nat.le_of_ble_eq_true rfl) (Nat.le_of_ble_eq_true rfl) ⟨(Nat.le_of_ble_eq_true rfl), (Nat.le_of_ble_eq_true rfl)⟩ dX8_ratioOn_107 ?_
            cases hf
            refine J_wsub [0, 1, 2, 8] [(q, .inr (2, [.ref t, .int q_o, .int q_l])), (t, .inr (4, [.ref tb, .int t_l])), (tb, .inl (cB, t_n, .inl (b8 t_f))), (q101, .inr (3, [.long z107.1, .long z107.2]))] rfl rfl rfl ?_
            exact J_aret O (pc := 110) _ rfl dX8_ratioOn_110
theorem in_X0_empty_X0 : ∀ w ∈ u_ws RX0 TX0 8, w ∈ wsX0_empty := fun _ h => List.mem_cons_of_mem _ (List.mem_append_left _ (List.mem_append_right _ h))
theorem mb_X0_empty_1 : Cond.fieldLink RX0 14 (TX0 0).1 (TX0 0).2.1 (TX0 0).2.2.1 ∈ wsX0_empty := by decide +kernel
theorem hdV_X6_keep : yX6_keep.cls = RX6 ∧ yX6_keep.cls ≠ "java/lang/invoke/MethodHandle" ∧ yX6_keep.cls ≠ "java/lang/invoke/VarHandle" ∧ (parseMethodDescriptor yX6_keep.desc).map (fun d => d.parameters.length) = some 1 := by decide +kernel
theorem mb_X0_empty_2 : Cond.fieldLink RX0 27 (TX0 3).1 (TX0 3).2.1 (TX0 3).2.2.1 ∈ wsX0_empty := by decide +kernel
theorem mb_X0_empty_3 : Cond.fieldLink RX0 41 (TX0 7).1 (TX0 7).2.1 (TX0 7).2.2.1 ∈ wsX0_empty := by decide +kernel
abbrev rmX0_empty : Room := { frames := 1, cells := 0, slots := 0, locals := 21 }
set_option maxHeartbeats 4000000 in
set_option maxRecDepth 100000 in
theorem c_X0_empty (l : Launch) (D : va_G) (cB cI cJ : ClassId) (h d db hk hs hu hn hg : Nat) (h_c : Int32) (h_e : Int32) (d_l : Int32) (d_f : Nat → Int8) (h_k : Nat → Int32) (h_s : Nat → Int32) (h_u : Nat → Int32) (h_n : Nat → Int64) (h_g : Nat → Int32) {z : Int32 × Int32 × Int32} (hf : p_X0_empty h_c h_e d_l = some z) : Cv (l, D, cB, cI, cJ) yX0_empty wsX0_empty rmX0_empty [.ref h] [(h, .inr (0, [.ref d, .ref hk, .ref hs, .int h_c, .ref hu, .ref hn, .ref hg, .int h_e])), (d, .inr (4, [.ref db, .int d_l])), (db, .inl (cB, 12000, .inl (b8 d_f))), (hk, .inl (cI, 60, .inl h_k)), (hs, .inl (cI, 61, .inl h_s)), (hu, .inl (cI, 40, .inl h_u)), (hn, .inl (cJ, 40, .inr (.inl h_n))), (hg, .inl (cI, 40, .inl h_g))] [(h, .inr (0, [.ref d, .ref hk, .ref hs, .int z.1, .ref hu, .ref hn, .ref hg, .int z.2.1])), (d, .inr (4, [.ref db, .int z.2.2])), (db, .inl (cB, 12000, .inl (b8 d_f))), (hk, .inl (cI, 60, .inl h_k)), (hs, .inl (cI, 61, .inl h_s)), (hu, .inl (cI, 40, .inl h_u)), (hn, .inl (cJ, 40, .inr (.inl h_n))), (hg, .inl (cI, 40, .inl h_g))] := by
  refine Cv_of (cc := cX0_empty) (nL := 1) (own := RX0) (ret := none) (by decide) rfl rfl (Nat.le_of_ble_eq_true rfl) (fun X O hnm0 => ?_)
  rw [p_X0_empty] at hf
  show J X 1 (JQv X [(h, .inr (0, [.ref d, .ref hk, .ref hs, .int z.1, .ref hu, .ref hn, .ref hg, .int z.2.1])), (d, .inr (4, [.ref db, .int z.2.2])), (db, .inl (cB, 12000, .inl (b8 d_f))), (hk, .inl (cI, 60, .inl h_k)), (hs, .inl (cI, 61, .inl h_s)), (hu, .inl (cI, 40, .inl h_u)), (hn, .inl (cJ, 40, .inr (.inl h_n))), (hg, .inl (cI, 40, .inl h_g))] 0 0) [(h, .inr (0, [.ref d, .ref hk, .ref hs, .int h_c, .ref hu, .ref hn, .ref hg, .int h_e])), (d, .inr (4, [.ref db, .int d_l])), (db, .inl (cB, 12000, .inl (b8 d_f))), (hk, .inl (cI, 60, .inl h_k)), (hs, .inl (cI, 61, .inl h_s)), (hu, .inl (cI, 40, .inl h_u)), (hn, .inl (cJ, 40, .inr (.inl h_n))), (hg, .inl (cI, 40, .inl h_g))] 0 0 0 [(0, .ref h)] []
  refine J_aload_n O (i := 0) (k0 := 0) (pc := 0) 0 rfl rfl dX0_empty_0 ?_
  refine J_get O (pc := 1) in_X0_empty_X0 0 rfl rfl 0 (by decide) mb_X0_empty_1 rfl dX0_empty_1 ?_
  refine J_iconst O (v := 0) (pc := 4) (by decide) dX0_empty_4 ?_
  obtain ⟨z5, h5, hf⟩ := jt_b hf
  refine J_callVv O (pc := 5) (c_X6_keep l D cB cI cJ d db 12000 d_l d_f 0 h5) rfl 0 rfl rfl gX0_empty_X6_keep hdV_X6_keep ⟨(Nat.le_of_ble_eq_true rfl), (Nat.le_of_ble_eq_true rfl)⟩ rfl (st := []) rfl (Nat.le_of_ble_eq_true rfl) [1, 2] [0, 3, 4, 5, 6, 7] rfl rfl rfl rfl rfl (by decide) [(h, .inr (0, [.ref d, .ref hk, .ref hs, .int h_c, .ref hu, .ref hn, .ref hg, .int h_e])), (d, .inr (4, [.ref db, .int z5])), (db, .inl (cB, 12000, .inl (b8 d_f))), (hk, .inl (cI, 60, .inl h_k)), (hs, .inl (cI, 61, .inl h_s)), (hu, .inl (cI, 40, .inl h_u)), (hn, .inl (cJ, 40, .inr (.inl h_n))), (hg, .inl (cI, 40, .inl h_g))] [0, 6, 7, 1, 2, 3, 4, 5] rfl rfl rfl (0) (0) (Nat.le_of_ble_eq_true rfl) (Nat.le_of_ble_eq_true rfl) ⟨(Nat.le_of_ble_eq_true rfl), (Nat.le_of_ble_eq_true rfl)⟩ dX0_empty_5 ?_
  refine J_aload_n O (i := 0) (k0 := 0) (pc := 8) 0 rfl rfl dX0_empty_8 ?_
  refine J_iconst O (v := 0) (pc := 9) (by decide) dX0_empty_9 ?_
  refine J_put O (pc := 10) in_X0_empty_X0 tyX0 tyX0_ok nmX0 0 rfl rfl 3 (by decide) mb_X0_empty_2 rfl rfl rfl (Nat.le_of_ble_eq_true rfl) [(h, .inr (0, [.ref d, .ref hk, .ref hs, .int 0, .ref hu, .ref hn, .ref hg, .int h_e])), (d, .inr (4, [.ref db, .int z5])), (db, .inl (cB, 12000, .inl (b8 d_f))), (hk, .inl (cI, 60, .inl h_k)), (hs, .inl (cI, 61, .inl h_s)), (hu, .inl (cI, 40, .inl h_u)), (hn, .inl (cJ, 40, .inr (.inl h_n))), (hg, .inl (cI, 40, .inl h_g))] rfl dX0_empty_10 ?_
  refine J_aload_n O (i := 0) (k0 := 0) (pc := 13) 0 rfl rfl dX0_empty_13 ?_
  refine J_iconst O (v := 0) (pc := 14) (by decide) dX0_empty_14 ?_
  refine J_put O (pc := 15) in_X0_empty_X0 tyX0 tyX0_ok nmX0 0 rfl rfl 7 (by decide) mb_X0_empty_3 rfl rfl rfl (Nat.le_of_ble_eq_true rfl) [(h, .inr (0, [.ref d, .ref hk, .ref hs, .int 0, .ref hu, .ref hn, .ref hg, .int 0])), (d, .inr (4, [.ref db, .int z5])), (db, .inl (cB, 12000, .inl (b8 d_f))), (hk, .inl (cI, 60, .inl h_k)), (hs, .inl (cI, 61, .inl h_s)), (hu, .inl (cI, 40, .inl h_u)), (hn, .inl (cJ, 40, .inr (.inl h_n))), (hg, .inl (cI, 40, .inl h_g))] rfl dX0_empty_15 ?_
  cases hf
  exact J_vret O (pc := 18) dX0_empty_18
theorem in_X0_hasChunk_X0 : ∀ w ∈ u_ws RX0 TX0 8, w ∈ wsX0_hasChunk := fun _ h => List.mem_cons_of_mem _ (List.mem_append_right _ h)
theorem mb_X0_hasChunk_1 : Cond.fieldLink RX0 27 (TX0 3).1 (TX0 3).2.1 (TX0 3).2.2.1 ∈ wsX0_hasChunk := by decide +kernel
abbrev rmX0_hasChunk : Room := { frames := 0, cells := 0, slots := 0, locals := 0 }
set_option maxHeartbeats 4000000 in
set_option maxRecDepth 100000 in
theorem c_X0_hasChunk (l : Launch) (D : va_G) (cB cI cJ : ClassId) (h d db hk hs hu hn hg : Nat) (h_c : Int32) (h_e : Int32) (d_l : Int32) (d_f : Nat → Int8) (h_k : Nat → Int32) (h_s : Nat → Int32) (h_u : Nat → Int32) (h_n : Nat → Int64) (h_g : Nat → Int32) (a1 : Int32) {z : Bool} (hf : p_X0_hasChunk h_c a1 = some z) : Ci (l, D, cB, cI, cJ) yX0_hasChunk wsX0_hasChunk rmX0_hasChunk [.ref h, .int a1] [(h, .inr (0, [.ref d, .ref hk, .ref hs, .int h_c, .ref hu, .ref hn, .ref hg, .int h_e])), (d, .inr (4, [.ref db, .int d_l])), (db, .inl (cB, 12000, .inl (b8 d_f))), (hk, .inl (cI, 60, .inl h_k)), (hs, .inl (cI, 61, .inl h_s)), (hu, .inl (cI, 40, .inl h_u)), (hn, .inl (cJ, 40, .inr (.inl h_n))), (hg, .inl (cI, 40, .inl h_g))] [(h, .inr (0, [.ref d, .ref hk, .ref hs, .int h_c, .ref hu, .ref hn, .ref hg, .int h_e])), (d, .inr (4, [.ref db, .int d_l])), (db, .inl (cB, 12000, .inl (b8 d_f))), (hk, .inl (cI, 60, .inl h_k)), (hs, .inl (cI, 61, .inl h_s)), (hu, .inl (cI, 40, .inl h_u)), (hn, .inl (cJ, 40, .inr (.inl h_n))), (hg, .inl (cI, 40, .inl h_g))] (bI z) := by
  refine Ci_of (cc := cX0_hasChunk) (nL := 2) (own := RX0) (ret := (some .boolean)) (by decide) rfl rfl (Nat.le_of_ble_eq_true rfl) (fun X O hnm0 => ?_)
  rw [p_X0_hasChunk] at hf
  show J X 2 (JQi X [(h, .inr (0, [.ref d, .ref hk, .ref hs, .int h_c, .ref hu, .ref hn, .ref hg, .int h_e])), (d, .inr (4, [.ref db, .int d_l])), (db, .inl (cB, 12000, .inl (b8 d_f))), (hk, .inl (cI, 60, .inl h_k)), (hs, .inl (cI, 61, .inl h_s)), (hu, .inl (cI, 40, .inl h_u)), (hn, .inl (cJ, 40, .inr (.inl h_n))), (hg, .inl (cI, 40, .inl h_g))] (bI z) 0 0) [(h, .inr (0, [.ref d, .ref hk, .ref hs, .int h_c, .ref hu, .ref hn, .ref hg, .int h_e])), (d, .inr (4, [.ref db, .int d_l])), (db, .inl (cB, 12000, .inl (b8 d_f))), (hk, .inl (cI, 60, .inl h_k)), (hs, .inl (cI, 61, .inl h_s)), (hu, .inl (cI, 40, .inl h_u)), (hn, .inl (cJ, 40, .inr (.inl h_n))), (hg, .inl (cI, 40, .inl h_g))] 0 0 0 [(0, .ref h), (1, .int a1)] []
  refine J_iload_n O (i := 1) (k0 := 1) (pc := 0) 1 rfl rfl dX0_hasChunk_0 ?_
  refine J_if_lt O (tgt := 16) (pc := 1) dX0_hasChunk_1 (by decide) (fun c1 => ?_) (fun c1 => ?_)
  · have hf := jt_t c1 hf
    refine J_iconst O (v := 0) (pc := 16) (by decide) dX0_hasChunk_16 ?_
    cases hf
    exact J_zret O (pc := 17) rfl dX0_hasChunk_17
  · have hf := jt_f c1 hf
    refine J_iload_n O (i := 1) (k0 := 1) (pc := 4) 1 rfl rfl dX0_hasChunk_4 ?_
    refine J_aload_n O (i := 0) (k0 := 0) (pc := 5) 0 rfl rfl dX0_hasChunk_5 ?_
    refine J_get O (pc := 6) in_X0_hasChunk_X0 0 rfl rfl 3 (by decide) mb_X0_hasChunk_1 rfl dX0_hasChunk_6 ?_
    refine J_icmp_ge O (tgt := 16) (pc := 9) dX0_hasChunk_9 (by decide) (fun c9 => ?_) (fun c9 => ?_)
    · have hf := jt_t c9 hf
      refine J_iconst O (v := 0) (pc := 16) (by decide) dX0_hasChunk_16 ?_
      cases hf
      exact J_zret O (pc := 17) rfl dX0_hasChunk_17
    · have hf := jt_f c9 hf
      refine J_iconst O (v := 1) (pc := 12) (by decide) dX0_hasChunk_12 ?_
      refine J_goto O (tgt := 17) (pc := 13) dX0_hasChunk_13 (by decide) ?_
      cases hf
      exact J_zret O (pc := 17) rfl dX0_hasChunk_17
theorem in_X0_hasEntry_X0 : ∀ w ∈ u_ws RX0 TX0 8, w ∈ wsX0_hasEntry := fun _ h => List.mem_cons_of_mem _ (List.mem_append_right _ h)
theorem mb_X0_hasEntry_1 : Cond.fieldLink RX0 41 (TX0 7).1 (TX0 7).2.1 (TX0 7).2.2.1 ∈ wsX0_hasEntry := by decide +kernel
abbrev rmX0_hasEntry : Room := { frames := 0, cells := 0, slots := 0, locals := 0 }
set_option maxHeartbeats 4000000 in
set_option maxRecDepth 100000 in
theorem c_X0_hasEntry (l : Launch) (D : va_G) (cB cI cJ : ClassId) (h d db hk hs hu hn hg : Nat) (h_c : Int32) (h_e : Int32) (d_l : Int32) (d_f : Nat → Int8) (h_k : Nat → Int32) (h_s : Nat → Int32) (h_u : Nat → Int32) (h_n : Nat → Int64) (h_g : Nat → Int32) (a1 : Int32) {z : Bool} (hf : p_X0_hasEntry h_e a1 = some z) : Ci (l, D, cB, cI, cJ) yX0_hasEntry wsX0_hasEntry rmX0_hasEntry [.ref h, .int a1] [(h, .inr (0, [.ref d, .ref hk, .ref hs, .int h_c, .ref hu, .ref hn, .ref hg, .int h_e])), (d, .inr (4, [.ref db, .int d_l])), (db, .inl (cB, 12000, .inl (b8 d_f))), (hk, .inl (cI, 60, .inl h_k)), (hs, .inl (cI, 61, .inl h_s)), (hu, .inl (cI, 40, .inl h_u)), (hn, .inl (cJ, 40, .inr (.inl h_n))), (hg, .inl (cI, 40, .inl h_g))] [(h, .inr (0, [.ref d, .ref hk, .ref hs, .int h_c, .ref hu, .ref hn, .ref hg, .int h_e])), (d, .inr (4, [.ref db, .int d_l])), (db, .inl (cB, 12000, .inl (b8 d_f))), (hk, .inl (cI, 60, .inl h_k)), (hs, .inl (cI, 61, .inl h_s)), (hu, .inl (cI, 40, .inl h_u)), (hn, .inl (cJ, 40, .inr (.inl h_n))), (hg, .inl (cI, 40, .inl h_g))] (bI z) := by
  refine Ci_of (cc := cX0_hasEntry) (nL := 2) (own := RX0) (ret := (some .boolean)) (by decide) rfl rfl (Nat.le_of_ble_eq_true rfl) (fun X O hnm0 => ?_)
  rw [p_X0_hasEntry] at hf
  show J X 2 (JQi X [(h, .inr (0, [.ref d, .ref hk, .ref hs, .int h_c, .ref hu, .ref hn, .ref hg, .int h_e])), (d, .inr (4, [.ref db, .int d_l])), (db, .inl (cB, 12000, .inl (b8 d_f))), (hk, .inl (cI, 60, .inl h_k)), (hs, .inl (cI, 61, .inl h_s)), (hu, .inl (cI, 40, .inl h_u)), (hn, .inl (cJ, 40, .inr (.inl h_n))), (hg, .inl (cI, 40, .inl h_g))] (bI z) 0 0) [(h, .inr (0, [.ref d, .ref hk, .ref hs, .int h_c, .ref hu, .ref hn, .ref hg, .int h_e])), (d, .inr (4, [.ref db, .int d_l])), (db, .inl (cB, 12000, .inl (b8 d_f))), (hk, .inl (cI, 60, .inl h_k)), (hs, .inl (cI, 61, .inl h_s)), (hu, .inl (cI, 40, .inl h_u)), (hn, .inl (cJ, 40, .inr (.inl h_n))), (hg, .inl (cI, 40, .inl h_g))] 0 0 0 [(0, .ref h), (1, .int a1)] []
  refine J_iload_n O (i := 1) (k0 := 1) (pc := 0) 1 rfl rfl dX0_hasEntry_0 ?_
  refine J_if_lt O (tgt := 16) (pc := 1) dX0_hasEntry_1 (by decide) (fun c1 => ?_) (fun c1 => ?_)
  · have hf := jt_t c1 hf
    refine J_iconst O (v := 0) (pc := 16) (by decide) dX0_hasEntry_16 ?_
    cases hf
    exact J_zret O (pc := 17) rfl dX0_hasEntry_17
  · have hf := jt_f c1 hf
    refine J_iload_n O (i := 1) (k0 := 1) (pc := 4) 1 rfl rfl dX0_hasEntry_4 ?_
    refine J_aload_n O (i := 0) (k0 := 0) (pc := 5) 0 rfl rfl dX0_hasEntry_5 ?_
    refine J_get O (pc := 6) in_X0_hasEntry_X0 0 rfl rfl 7 (by decide) mb_X0_hasEntry_1 rfl dX0_hasEntry_6 ?_
    refine J_icmp_ge O (tgt := 16) (pc := 9) dX0_hasEntry_9 (by decide) (fun c9 => ?_) (fun c9 => ?_)
    · have hf := jt_t c9 hf
      refine J_iconst O (v := 0) (pc := 16) (by decide) dX0_hasEntry_16 ?_
      cases hf
      exact J_zret O (pc := 17) rfl dX0_hasEntry_17
    · have hf := jt_f c9 hf
      refine J_iconst O (v := 1) (pc := 12) (by decide) dX0_hasEntry_12 ?_
      refine J_goto O (tgt := 17) (pc := 13) dX0_hasEntry_13 (by decide) ?_
      cases hf
      exact J_zret O (pc := 17) rfl dX0_hasEntry_17
theorem in_X0_hasChunkRoom_X0 : ∀ w ∈ u_ws RX0 TX0 8, w ∈ wsX0_hasChunkRoom := fun _ h => List.mem_cons_of_mem _ (List.mem_append_left _ (List.mem_append_right _ h))
theorem mb_X0_hasChunkRoom_1 : Cond.fieldLink RX0 27 (TX0 3).1 (TX0 3).2.1 (TX0 3).2.2.1 ∈ wsX0_hasChunkRoom := by decide +kernel
theorem mb_X0_hasChunkRoom_2 : Cond.fieldLink RX0 14 (TX0 0).1 (TX0 0).2.1 (TX0 0).2.2.1 ∈ wsX0_hasChunkRoom := by decide +kernel
abbrev rmX0_hasChunkRoom : Room := { frames := 1, cells := 0, slots := 0, locals := 20 }
set_option maxHeartbeats 4000000 in
set_option maxRecDepth 100000 in
theorem c_X0_hasChunkRoom (l : Launch) (D : va_G) (cB cI cJ : ClassId) (h d db hk hs hu hn hg : Nat) (h_c : Int32) (h_e : Int32) (d_l : Int32) (d_f : Nat → Int8) (h_k : Nat → Int32) (h_s : Nat → Int32) (h_u : Nat → Int32) (h_n : Nat → Int64) (h_g : Nat → Int32) (a1 : Int32) {z : Bool} (hf : p_X0_hasChunkRoom h_c d_l a1 = some z) : Ci (l, D, cB, cI, cJ) yX0_hasChunkRoom wsX0_hasChunkRoom rmX0_hasChunkRoom [.ref h, .int a1] [(h, .inr (0, [.ref d, .ref hk, .ref hs, .int h_c, .ref hu, .ref hn, .ref hg, .int h_e])), (d, .inr (4, [.ref db, .int d_l])), (db, .inl (cB, 12000, .inl (b8 d_f))), (hk, .inl (cI, 60, .inl h_k)), (hs, .inl (cI, 61, .inl h_s)), (hu, .inl (cI, 40, .inl h_u)), (hn, .inl (cJ, 40, .inr (.inl h_n))), (hg, .inl (cI, 40, .inl h_g))] [(h, .inr (0, [.ref d, .ref hk, .ref hs, .int h_c, .ref hu, .ref hn, .ref hg, .int h_e])), (d, .inr (4, [.ref db, .int d_l])), (db, .inl (cB, 12000, .inl (b8 d_f))), (hk, .inl (cI, 60, .inl h_k)), (hs, .inl (cI, 61, .inl h_s)), (hu, .inl (cI, 40, .inl h_u)), (hn, .inl (cJ, 40, .inr (.inl h_n))), (hg, .inl (cI, 40, .inl h_g))] (bI z) := by
  refine Ci_of (cc := cX0_hasChunkRoom) (nL := 2) (own := RX0) (ret := (some .boolean)) (by decide) rfl rfl (Nat.le_of_ble_eq_true rfl) (fun X O hnm0 => ?_)
  rw [p_X0_hasChunkRoom] at hf
  show J X 2 (JQi X [(h, .inr (0, [.ref d, .ref hk, .ref hs, .int h_c, .ref hu, .ref hn, .ref hg, .int h_e])), (d, .inr (4, [.ref db, .int d_l])), (db, .inl (cB, 12000, .inl (b8 d_f))), (hk, .inl (cI, 60, .inl h_k)), (hs, .inl (cI, 61, .inl h_s)), (hu, .inl (cI, 40, .inl h_u)), (hn, .inl (cJ, 40, .inr (.inl h_n))), (hg, .inl (cI, 40, .inl h_g))] (bI z) 0 0) [(h, .inr (0, [.ref d, .ref hk, .ref hs, .int h_c, .ref hu, .ref hn, .ref hg, .int h_e])), (d, .inr (4, [.ref db, .int d_l])), (db, .inl (cB, 12000, .inl (b8 d_f))), (hk, .inl (cI, 60, .inl h_k)), (hs, .inl (cI, 61, .inl h_s)), (hu, .inl (cI, 40, .inl h_u)), (hn, .inl (cJ, 40, .inr (.inl h_n))), (hg, .inl (cI, 40, .inl h_g))] 0 0 0 [(0, .ref h), (1, .int a1)] []
  refine J_aload_n O (i := 0) (k0 := 0) (pc := 0) 0 rfl rfl dX0_hasChunkRoom_0 ?_
  refine J_get O (pc := 1) in_X0_hasChunkRoom_X0 0 rfl rfl 3 (by decide) mb_X0_hasChunkRoom_1 rfl dX0_hasChunkRoom_1 ?_
  refine J_bipush O (v := 60) (pc := 4) (by decide) dX0_hasChunkRoom_4 ?_
  refine J_icmp_ge O (tgt := 24) (pc := 6) dX0_hasChunkRoom_6 (by decide) (fun c6 => ?_) (fun c6 => ?_)
  · have hf := jt_t c6 hf
    refine J_iconst O (v := 0) (pc := 24) (by decide) dX0_hasChunkRoom_24 ?_
    cases hf
    exact J_zret O (pc := 25) rfl dX0_hasChunkRoom_25
  · have hf := jt_f c6 hf
    refine J_iload_n O (i := 1) (k0 := 1) (pc := 9) 1 rfl rfl dX0_hasChunkRoom_9 ?_
    refine J_aload_n O (i := 0) (k0 := 0) (pc := 10) 0 rfl rfl dX0_hasChunkRoom_10 ?_
    refine J_get O (pc := 11) in_X0_hasChunkRoom_X0 0 rfl rfl 0 (by decide) mb_X0_hasChunkRoom_2 rfl dX0_hasChunkRoom_11 ?_
    obtain ⟨z14, h14, hf⟩ := jt_b hf
    refine J_callVi O (pc := 14) (c_X6_room l D cB cI cJ d db 12000 d_l d_f h14) rfl 0 rfl rfl gX0_hasChunkRoom_X6_room hdV_X6_room ⟨(Nat.le_of_ble_eq_true rfl), (Nat.le_of_ble_eq_true rfl)⟩ rfl (st := [.int a1]) rfl (Nat.le_of_ble_eq_true rfl) [1, 2] [0, 3, 4, 5, 6, 7] rfl rfl rfl rfl rfl (by decide) [(h, .inr (0, [.ref d, .ref hk, .ref hs, .int h_c, .ref hu, .ref hn, .ref hg, .int h_e])), (d, .inr (4, [.ref db, .int d_l])), (db, .inl (cB, 12000, .inl (b8 d_f))), (hk, .inl (cI, 60, .inl h_k)), (hs, .inl (cI, 61, .inl h_s)), (hu, .inl (cI, 40, .inl h_u)), (hn, .inl (cJ, 40, .inr (.inl h_n))), (hg, .inl (cI, 40, .inl h_g))] [0, 6, 7, 1, 2, 3, 4, 5] rfl rfl rfl (0) (0) (Nat.le_of_ble_eq_true rfl) (Nat.le_of_ble_eq_true rfl) ⟨(Nat.le_of_ble_eq_true rfl), (Nat.le_of_ble_eq_true rfl)⟩ dX0_hasChunkRoom_14 ?_
    refine J_icmp_gt O (tgt := 24) (pc := 17) dX0_hasChunkRoom_17 (by decide) (fun c17 => ?_) (fun c17 => ?_)
    · have hf := jt_t c17 hf
      refine J_iconst O (v := 0) (pc := 24) (by decide) dX0_hasChunkRoom_24 ?_
      cases hf
      exact J_zret O (pc := 25) rfl dX0_hasChunkRoom_25
    · have hf := jt_f c17 hf
      refine J_iconst O (v := 1) (pc := 20) (by decide) dX0_hasChunkRoom_20 ?_
      refine J_goto O (tgt := 25) (pc := 21) dX0_hasChunkRoom_21 (by decide) ?_
      cases hf
      exact J_zret O (pc := 25) rfl dX0_hasChunkRoom_25
theorem hdV_X0_hasChunk : yX0_hasChunk.cls = RX0 ∧ yX0_hasChunk.cls ≠ "java/lang/invoke/MethodHandle" ∧ yX0_hasChunk.cls ≠ "java/lang/invoke/VarHandle" ∧ (parseMethodDescriptor yX0_hasChunk.desc).map (fun d => d.parameters.length) = some 1 := by decide +kernel
theorem in_X0_kindOf_X0 : ∀ w ∈ u_ws RX0 TX0 8, w ∈ wsX0_kindOf := fun _ h => List.mem_cons_of_mem _ (List.mem_append_right _ h)
theorem mb_X0_kindOf_1 : Cond.fieldLink RX0 20 (TX0 1).1 (TX0 1).2.1 (TX0 1).2.2.1 ∈ wsX0_kindOf := by decide +kernel
abbrev rmX0_kindOf : Room := { frames := 1, cells := 0, slots := 0, locals := 21 }
set_option maxHeartbeats 4000000 in
set_option maxRecDepth 100000 in
theorem c_X0_kindOf (l : Launch) (D : va_G) (cB cI cJ : ClassId) (h d db hk hs hu hn hg : Nat) (h_c : Int32) (h_e : Int32) (d_l : Int32) (d_f : Nat → Int8) (h_k : Nat → Int32) (h_s : Nat → Int32) (h_u : Nat → Int32) (h_n : Nat → Int64) (h_g : Nat → Int32) (a1 : Int32) {z : Int32} (hf : p_X0_kindOf h_c h_k a1 = some z) : Ci (l, D, cB, cI, cJ) yX0_kindOf wsX0_kindOf rmX0_kindOf [.ref h, .int a1] [(h, .inr (0, [.ref d, .ref hk, .ref hs, .int h_c, .ref hu, .ref hn, .ref hg, .int h_e])), (d, .inr (4, [.ref db, .int d_l])), (db, .inl (cB, 12000, .inl (b8 d_f))), (hk, .inl (cI, 60, .inl h_k)), (hs, .inl (cI, 61, .inl h_s)), (hu, .inl (cI, 40, .inl h_u)), (hn, .inl (cJ, 40, .inr (.inl h_n))), (hg, .inl (cI, 40, .inl h_g))] [(h, .inr (0, [.ref d, .ref hk, .ref hs, .int h_c, .ref hu, .ref hn, .ref hg, .int h_e])), (d, .inr (4, [.ref db, .int d_l])), (db, .inl (cB, 12000, .inl (b8 d_f))), (hk, .inl (cI, 60, .inl h_k)), (hs, .inl (cI, 61, .inl h_s)), (hu, .inl (cI, 40, .inl h_u)), (hn, .inl (cJ, 40, .inr (.inl h_n))), (hg, .inl (cI, 40, .inl h_g))] z := by
  refine Ci_of (cc := cX0_kindOf) (nL := 2) (own := RX0) (ret := (some .int)) (by decide) rfl rfl (Nat.le_of_ble_eq_true rfl) (fun X O hnm0 => ?_)
  rw [p_X0_kindOf] at hf
  show J X 2 (JQi X [(h, .inr (0, [.ref d, .ref hk, .ref hs, .int h_c, .ref hu, .ref hn, .ref hg, .int h_e])), (d, .inr (4, [.ref db, .int d_l])), (db, .inl (cB, 12000, .inl (b8 d_f))), (hk, .inl (cI, 60, .inl h_k)), (hs, .inl (cI, 61, .inl h_s)), (hu, .inl (cI, 40, .inl h_u)), (hn, .inl (cJ, 40, .inr (.inl h_n))), (hg, .inl (cI, 40, .inl h_g))] z 0 0) [(h, .inr (0, [.ref d, .ref hk, .ref hs, .int h_c, .ref hu, .ref hn, .ref hg, .int h_e])), (d, .inr (4, [.ref db, .int d_l])), (db, .inl (cB, 12000, .inl (b8 d_f))), (hk, .inl (cI, 60, .inl h_k)), (hs, .inl (cI, 61, .inl h_s)), (hu, .inl (cI, 40, .inl h_u)), (hn, .inl (cJ, 40, .inr (.inl h_n))), (hg, .inl (cI, 40, .inl h_g))] 0 0 0 [(0, .ref h), (1, .int a1)] []
  refine J_aload_n O (i := 0) (k0 := 0) (pc := 0) 0 rfl rfl dX0_kindOf_0 ?_
  refine J_iload_n O (i := 1) (k0 := 1) (pc := 1) 1 rfl rfl dX0_kindOf_1 ?_
  obtain ⟨z2, h2, hf⟩ := jt_b hf
  refine J_callVi O (pc := 2) (c_X0_hasChunk l D cB cI cJ h d db hk hs hu hn hg h_c h_e d_l d_f h_k h_s h_u h_n h_g a1 h2) rfl 0 rfl rfl gX0_kindOf_X0_hasChunk hdV_X0_hasChunk ⟨(Nat.le_of_ble_eq_true rfl), (Nat.le_of_ble_eq_true rfl)⟩ rfl (st := []) rfl (Nat.le_of_ble_eq_true rfl) [0, 1, 2, 3, 4, 5, 6, 7] [] rfl rfl rfl rfl rfl (by decide) [(h, .inr (0, [.ref d, .ref hk, .ref hs, .int h_c, .ref hu, .ref hn, .ref hg, .int h_e])), (d, .inr (4, [.ref db, .int d_l])), (db, .inl (cB, 12000, .inl (b8 d_f))), (hk, .inl (cI, 60, .inl h_k)), (hs, .inl (cI, 61, .inl h_s)), (hu, .inl (cI, 40, .inl h_u)), (hn, .inl (cJ, 40, .inr (.inl h_n))), (hg, .inl (cI, 40, .inl h_g))] [0, 1, 2, 3, 4, 5, 6, 7] rfl rfl rfl (0) (0) (Nat.le_of_ble_eq_true rfl) (Nat.le_of_ble_eq_true rfl) ⟨(Nat.le_of_ble_eq_true rfl), (Nat.le_of_ble_eq_true rfl)⟩ dX0_kindOf_2 ?_
  refine J_zeq O (tgt := 17) (pc := 5) dX0_kindOf_5 (by decide) (fun c5 => ?_) (fun c5 => ?_)
  · have hf := jt_f c5 hf
    refine J_bipush O (v := (-2)) (pc := 17) (by decide) dX0_kindOf_17 ?_
    cases hf
    exact J_iret O (pc := 19) rfl dX0_kindOf_19
  · have hf := jt_t c5 hf
    refine J_aload_n O (i := 0) (k0 := 0) (pc := 8) 0 rfl rfl dX0_kindOf_8 ?_
    refine J_get O (pc := 9) in_X0_kindOf_X0 0 rfl rfl 1 (by decide) mb_X0_kindOf_1 rfl dX0_kindOf_9 ?_
    refine J_iload_n O (i := 1) (k0 := 1) (pc := 12) 1 rfl rfl dX0_kindOf_12 ?_
    obtain ⟨h13, hf⟩ := jt_g hf
    refine J_iald O (pc := 13) 3 1 rfl rfl h13 dX0_kindOf_13 ?_
    refine J_goto O (tgt := 19) (pc := 14) dX0_kindOf_14 (by decide) ?_
    cases hf
    exact J_iret O (pc := 19) rfl dX0_kindOf_19
