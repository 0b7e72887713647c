theorem hdV_X1_faultOfPiece : yX1_faultOfPiece.cls = RX1 ∧ yX1_faultOfPiece.cls ≠ "java/lang/invoke/MethodHandle" ∧ yX1_faultOfPiece.cls ≠ "java/lang/invoke/VarHandle" ∧ (parseMethodDescriptor yX1_faultOfPiece.desc).map (fun d => d.parameters.length) = some 2 := by decide +kernel
theorem hdV_X1_behindPiece : yX1_behindPiece.cls = RX1 ∧ yX1_behindPiece.cls ≠ "java/lang/invoke/MethodHandle" ∧ yX1_behindPiece.cls ≠ "java/lang/invoke/VarHandle" ∧ (parseMethodDescriptor yX1_behindPiece.desc).map (fun d => d.parameters.length) = some 2 := by decide +kernel
theorem in_X1_faultOfPieces_X3 : ∀ w ∈ u_ws RX3 TX3 3, w ∈ wsX1_faultOfPieces := fun _ h => List.mem_cons_of_mem _ (List.mem_append_left _ (List.mem_append_left _ (List.mem_append_right _ h)))
theorem mb_X1_faultOfPieces_1 : Cond.fieldLink RX1 32 (TX3 2).1 (TX3 2).2.1 (TX3 2).2.2.1 ∈ wsX1_faultOfPieces := by decide +kernel
theorem in_X1_faultOfPieces_X1 : ∀ w ∈ u_ws RX1 TX1 3, w ∈ wsX1_faultOfPieces := fun _ h => List.mem_cons_of_mem _ (List.mem_append_left _ (List.mem_append_right _ h))
theorem mb_X1_faultOfPieces_3 : Cond.fieldLink RX1 15 (TX1 1).1 (TX1 1).2.1 (TX1 1).2.2.1 ∈ wsX1_faultOfPieces := by decide +kernel
theorem mb_X1_faultOfPieces_4 : Cond.fieldLink RX1 9 (TX1 0).1 (TX1 0).2.1 (TX1 0).2.2.1 ∈ wsX1_faultOfPieces := by decide +kernel
abbrev rmX1_faultOfPieces : Room := { frames := 4, cells := 0, slots := 0, locals := 97 }
set_option maxHeartbeats 4000000 in
set_option maxRecDepth 100000 in
theorem wk_X1_faultOfPieces_13 {X : JC} {l : Launch} {D : va_G} {cB cI cJ : ClassId} (O : Jo X (l, D, cB, cI, cJ) cX1_faultOfPieces 5 RX1 wsX1_faultOfPieces rmX1_faultOfPieces (some .int)) (j jp q t tb : Nat) (t_n : Nat) (q_o : Int32) (q_l : Int32) (t_l : Int32) (t_f : Nat → Int8) (fu : Nat) {z : Int32 × Int32 × Int32 × (Nat → Int32)} : ∀ (fn : Nat) (v2 : Int32) (v3 : Int32) (v4 : Int32) (j_c : Int32) (j_a : Int32) (j_p : Nat → Int32), p_X1_faultOfPieces_13 fu t_n q_o q_l t_f fn v2 v3 v4 j_c j_a j_p = some z → J X 5 (JQi X [(j, .inr (1, [.ref jp, .int z.2.1, .int z.2.2.1])), (jp, .inl (cI, 60, .inl z.2.2.2)), (q, .inr (2, [.ref t, .int q_o, .int q_l])), (t, .inr (4, [.ref tb, .int t_l])), (tb, .inl (cB, t_n, .inl (b8 t_f)))] z.1 0 0) [(j, .inr (1, [.ref jp, .int j_c, .int j_a])), (jp, .inl (cI, 60, .inl j_p)), (q, .inr (2, [.ref t, .int q_o, .int q_l])), (t, .inr (4, [.ref tb, .int t_l])), (tb, .inl (cB, t_n, .inl (b8 t_f)))] 0 0 13 [(0, .ref j), (1, .ref q), (2, .int v2), (3, .int v3), (4, .int v4)] [] := by
  intro fn
  induction fn with
  | zero =>
    intro v2 v3 v4 j_c j_a j_p hf
    rw [p_X1_faultOfPieces_13] at hf
    exact jt_n hf
  | succ fn ih =>
    intro v2 v3 v4 j_c j_a j_p hf
    rw [p_X1_faultOfPieces_13] at hf
    refine J_iload O (i := 4) (pc := 13) 4 rfl dX1_faultOfPieces_13 ?_
    refine J_bipush O (v := 60) (pc := 15) (by decide) dX1_faultOfPieces_15 ?_
    refine J_icmp_gt O (tgt := 87) (pc := 17) dX1_faultOfPieces_17 (by decide) (fun c17 => ?_) (fun c17 => ?_)
    · have hf := jt_t c17 hf
      refine J_iload_n O (i := 3) (k0 := 3) (pc := 87) 3 rfl rfl dX1_faultOfPieces_87 ?_
      cases hf
      exact J_iret O (pc := 88) rfl dX1_faultOfPieces_88
    · have hf := jt_f c17 hf
      refine J_iload_n O (i := 3) (k0 := 3) (pc := 20) 3 rfl rfl dX1_faultOfPieces_20 ?_
      refine J_if_ne O (tgt := 87) (pc := 21) dX1_faultOfPieces_21 (by decide) (fun c21 => ?_) (fun c21 => ?_)
      · have hf := jt_f c21 hf
        refine J_iload_n O (i := 3) (k0 := 3) (pc := 87) 3 rfl rfl dX1_faultOfPieces_87 ?_
        cases hf
        exact J_iret O (pc := 88) rfl dX1_faultOfPieces_88
      · have hf := jt_t c21 hf
        refine J_aload_n O (i := 0) (k0 := 0) (pc := 24) 0 rfl rfl dX1_faultOfPieces_24 ?_
        refine J_aload_n O (i := 1) (k0 := 1) (pc := 25) 1 rfl rfl dX1_faultOfPieces_25 ?_
        refine J_iload_n O (i := 2) (k0 := 2) (pc := 26) 2 rfl rfl dX1_faultOfPieces_26 ?_
        obtain ⟨z27, h27, hf⟩ := jt_b hf
        refine J_callVi O (pc := 27) (c_X1_behindPiece l D cB cI cJ j jp q t tb t_n j_c j_a j_p q_o q_l t_l t_f v2 fu h27) rfl 0 rfl rfl gX1_faultOfPieces_X1_behindPiece hdV_X1_behindPiece ⟨(Nat.le_of_ble_eq_true rfl), (Nat.le_of_ble_eq_true rfl)⟩ rfl (st := []) rfl (Nat.le_of_ble_eq_true rfl) [0, 1, 2, 3, 4] [] rfl rfl rfl rfl rfl (by decide) [(j, .inr (1, [.ref jp, .int j_c, .int j_a])), (jp, .inl (cI, 60, .inl j_p)), (q, .inr (2, [.ref t, .int q_o, .int q_l])), (t, .inr (4, [.ref tb, .int t_l])), (tb, .inl (cB, t_n, .inl (b8 t_f)))] [0, 1, 2, 3, 4] rfl rfl rfl (0) (0) (Nat.le_of_ble_eq_true rfl) (Nat.le_of_ble_eq_true rfl) ⟨(Nat.le_of_ble_eq_true rfl), (Nat.le_of_ble_eq_true rfl)⟩ dX1_faultOfPieces_27 ?_
        refine J_istore_n O (i := 2) (k0 := 2) (pc := 30) rfl [(2, .int z27), (0, .ref j), (1, .ref q), (3, .int v3), (4, .int v4)] (by decide) rfl dX1_faultOfPieces_30 ?_
        refine J_iload_n O (i := 2) (k0 := 2) (pc := 31) 0 rfl rfl dX1_faultOfPieces_31 ?_
        refine J_aload_n O (i := 1) (k0 := 1) (pc := 32) 2 rfl rfl dX1_faultOfPieces_32 ?_
        refine J_get O (pc := 33) in_X1_faultOfPieces_X3 2 rfl rfl 2 (by decide) mb_X1_faultOfPieces_1 rfl dX1_faultOfPieces_33 ?_
        refine J_icmp_lt O (tgt := 41) (pc := 36) dX1_faultOfPieces_36 (by decide) (fun c36 => ?_) (fun c36 => ?_)
        · have hf := jt_t c36 hf
          refine J_aload_n O (i := 0) (k0 := 0) (pc := 41) 1 rfl rfl dX1_faultOfPieces_41 ?_
          refine J_aload_n O (i := 1) (k0 := 1) (pc := 42) 2 rfl rfl dX1_faultOfPieces_42 ?_
          refine J_iload_n O (i := 2) (k0 := 2) (pc := 43) 0 rfl rfl dX1_faultOfPieces_43 ?_
          obtain ⟨z44, h44, hf⟩ := jt_b hf
          refine J_callVi O (pc := 44) (c_X1_faultOfPiece l D cB cI cJ j jp q t tb t_n j_c j_a j_p q_o q_l t_l t_f z27 fu h44) rfl 0 rfl rfl gX1_faultOfPieces_X1_faultOfPiece hdV_X1_faultOfPiece ⟨(Nat.le_of_ble_eq_true rfl), (Nat.le_of_ble_eq_true rfl)⟩ rfl (st := []) rfl (Nat.le_of_ble_eq_true rfl) [0, 1, 2, 3, 4] [] rfl rfl rfl rfl rfl (by decide) [(j, .inr (1, [.ref jp, .int j_c, .int z44.2])), (jp, .inl (cI, 60, .inl j_p)), (q, .inr (2, [.ref t, .int q_o, .int q_l])), (t, .inr (4, [.ref tb, .int t_l])), (tb, .inl (cB, t_n, .inl (b8 t_f)))] [0, 1, 2, 3, 4] rfl rfl rfl (0) (0) (Nat.le_of_ble_eq_true rfl) (Nat.le_of_ble_eq_true rfl) ⟨(Nat.le_of_ble_eq_true rfl), (Nat.le_of_ble_eq_true rfl)⟩ dX1_faultOfPieces_44 ?_
          refine J_istore_n O (i := 3) (k0 := 3) (pc := 47) rfl [(3, .int z44.1), (2, .int z27), (0, .ref j), (1, .ref q), (4, .int v4)] (by decide) rfl dX1_faultOfPieces_47 ?_
          refine J_iload_n O (i := 3) (k0 := 3) (pc := 48) 0 rfl rfl dX1_faultOfPieces_48 ?_
          refine J_if_ne O (tgt := 81) (pc := 49) dX1_faultOfPieces_49 (by decide) (fun c49 => ?_) (fun c49 => ?_)
          · have hf := jt_f c49 hf
            refine J_iinc O (i := 4) (n := 1) (v := v4 + 1) (pc := 81) 4 rfl [(4, .int (v4 + 1)), (3, .int z44.1), (2, .int z27), (0, .ref j), (1, .ref q)] (by decide) (congrArg (_ + ·) (by decide)) rfl dX1_faultOfPieces_81 ?_
            refine J_goto O (tgt := 13) (pc := 84) dX1_faultOfPieces_84 (by decide) ?_
            refine J_sub [3, 4, 2, 1, 0] (lv' := [(0, .ref j), (1, .ref q), (2, .int z27), (3, .int z44.1), (4, .int (v4 + 1))]) rfl ?_
            exact ih z27 z44.1 (v4 + 1) j_c z44.2 j_p hf
          · have hf := jt_t c49 hf
            refine J_aload_n O (i := 0) (k0 := 0) (pc := 52) 2 rfl rfl dX1_faultOfPieces_52 ?_
            refine J_get O (pc := 53) in_X1_faultOfPieces_X1 0 rfl rfl 1 (by decide) mb_X1_faultOfPieces_3 rfl dX1_faultOfPieces_53 ?_
            refine J_bipush O (v := 60) (pc := 56) (by decide) dX1_faultOfPieces_56 ?_
            refine J_icmp_ge O (tgt := 81) (pc := 58) dX1_faultOfPieces_58 (by decide) (fun c58 => ?_) (fun c58 => ?_)
            · have hf := jt_t c58 hf
              refine J_iinc O (i := 4) (n := 1) (v := v4 + 1) (pc := 81) 4 rfl [(4, .int (v4 + 1)), (3, .int z44.1), (2, .int z27), (0, .ref j), (1, .ref q)] (by decide) (congrArg (_ + ·) (by decide)) rfl dX1_faultOfPieces_81 ?_
              refine J_goto O (tgt := 13) (pc := 84) dX1_faultOfPieces_84 (by decide) ?_
              refine J_sub [3, 4, 2, 1, 0] (lv' := [(0, .ref j), (1, .ref q), (2, .int z27), (3, .int z44.1), (4, .int (v4 + 1))]) rfl ?_
              exact ih z27 z44.1 (v4 + 1) j_c z44.2 j_p hf
            · have hf := jt_f c58 hf
              refine J_aload_n O (i := 0) (k0 := 0) (pc := 61) 2 rfl rfl dX1_faultOfPieces_61 ?_
              refine J_get O (pc := 62) in_X1_faultOfPieces_X1 0 rfl rfl 0 (by decide) mb_X1_faultOfPieces_4 rfl dX1_faultOfPieces_62 ?_
              refine J_aload_n O (i := 0) (k0 := 0) (pc := 65) 2 rfl rfl dX1_faultOfPieces_65 ?_
              refine J_get O (pc := 66) in_X1_faultOfPieces_X1 0 rfl rfl 1 (by decide) mb_X1_faultOfPieces_3 rfl dX1_faultOfPieces_66 ?_
              refine J_iload_n O (i := 2) (k0 := 2) (pc := 69) 1 rfl rfl dX1_faultOfPieces_69 ?_
              obtain ⟨h70, hf⟩ := jt_g hf
              refine J_iast O (pc := 70) 1 1 rfl rfl h70 [(j, .inr (1, [.ref jp, .int j_c, .int z44.2])), (jp, .inl (cI, 60, .inl (upd j_p (Int32.toNatClampNeg j_c) z27))), (q, .inr (2, [.ref t, .int q_o, .int q_l])), (t, .inr (4, [.ref tb, .int t_l])), (tb, .inl (cB, t_n, .inl (b8 t_f)))] rfl dX1_faultOfPieces_70 ?_
              refine J_aload_n O (i := 0) (k0 := 0) (pc := 71) 2 rfl rfl dX1_faultOfPieces_71 ?_
              refine J_dup O (pc := 72) rfl dX1_faultOfPieces_72 ?_
              refine J_get O (pc := 73) in_X1_faultOfPieces_X1 0 rfl rfl 1 (by decide) mb_X1_faultOfPieces_3 rfl dX1_faultOfPieces_73 ?_
              refine J_iconst O (v := 1) (pc := 76) (by decide) dX1_faultOfPieces_76 ?_
              refine J_iadd O (pc := 77) dX1_faultOfPieces_77 ?_
              refine J_put O (pc := 78) in_X1_faultOfPieces_X1 tyX1 tyX1_ok nmX1 0 rfl rfl 1 (by decide) mb_X1_faultOfPieces_3 rfl rfl rfl (Nat.le_of_ble_eq_true rfl) [(j, .inr (1, [.ref jp, .int (j_c + 1), .int z44.2])), (jp, .inl (cI, 60, .inl (upd j_p (Int32.toNatClampNeg j_c) z27))), (q, .inr (2, [.ref t, .int q_o, .int q_l])), (t, .inr (4, [.ref tb, .int t_l])), (tb, .inl (cB, t_n, .inl (b8 t_f)))] rfl dX1_faultOfPieces_78 ?_
              refine J_iinc O (i := 4) (n := 1) (v := v4 + 1) (pc := 81) 4 rfl [(4, .int (v4 + 1)), (3, .int z44.1), (2, .int z27), (0, .ref j), (1, .ref q)] (by decide) (congrArg (_ + ·) (by decide)) rfl dX1_faultOfPieces_81 ?_
              refine J_goto O (tgt := 13) (pc := 84) dX1_faultOfPieces_84 (by decide) ?_
              refine J_sub [3, 4, 2, 1, 0] (lv' := [(0, .ref j), (1, .ref q), (2, .int z27), (3, .int z44.1), (4, .int (v4 + 1))]) rfl ?_
              exact ih z27 z44.1 (v4 + 1) (j_c + 1) z44.2 (upd j_p (Int32.toNatClampNeg j_c) z27) hf
        · have hf := jt_f c36 hf
          refine J_iconst O (v := 0) (pc := 39) (by decide) dX1_faultOfPieces_39 ?_
          cases hf
          exact J_iret O (pc := 40) rfl dX1_faultOfPieces_40
set_option maxHeartbeats 4000000 in
set_option maxRecDepth 100000 in
theorem c_X1_faultOfPieces (l : Launch) (D : va_G) (cB cI cJ : ClassId) (j jp q t tb t_n : Nat) (j_c : Int32) (j_a : Int32) (j_p : Nat → Int32) (q_o : Int32) (q_l : Int32) (t_l : Int32) (t_f : Nat → Int8) (fu : Nat) {z : Int32 × Int32 × Int32 × (Nat → Int32)} (hf : p_X1_faultOfPieces fu t_n j_c j_a j_p q_o q_l t_f = some z) : Ci (l, D, cB, cI, cJ) yX1_faultOfPieces wsX1_faultOfPieces rmX1_faultOfPieces [.ref j, .ref q] [(j, .inr (1, [.ref jp, .int j_c, .int j_a])), (jp, .inl (cI, 60, .inl j_p)), (q, .inr (2, [.ref t, .int q_o, .int q_l])), (t, .inr (4, [.ref tb, .int t_l])), (tb, .inl (cB, t_n, .inl (b8 t_f)))] [(j, .inr (1, [.ref jp, .int z.2.1, .int z.2.2.1])), (jp, .inl (cI, 60, .inl z.2.2.2)), (q, .inr (2, [.ref t, .int q_o, .int q_l])), (t, .inr (4, [.ref tb, .int t_l])), (tb, .inl (cB, t_n, .inl (b8 t_f)))] z.1 := by
  refine Ci_of (cc := cX1_faultOfPieces) (nL := 5) (own := RX1) (ret := (some .int)) (by decide) rfl rfl (Nat.le_of_ble_eq_true rfl) (fun X O hnm0 => ?_)
  rw [p_X1_faultOfPieces] at hf
  show J X 5 (JQi X [(j, .inr (1, [.ref jp, .int z.2.1, .int z.2.2.1])), (jp, .inl (cI, 60, .inl z.2.2.2)), (q, .inr (2, [.ref t, .int q_o, .int q_l])), (t, .inr (4, [.ref tb, .int t_l])), (tb, .inl (cB, t_n, .inl (b8 t_f)))] z.1 0 0) [(j, .inr (1, [.ref jp, .int j_c, .int j_a])), (jp, .inl (cI, 60, .inl j_p)), (q, .inr (2, [.ref t, .int q_o, .int q_l])), (t, .inr (4, [.ref tb, .int t_l])), (tb, .inl (cB, t_n, .inl (b8 t_f)))] 0 0 0 [(0, .ref j), (1, .ref q)] []
  refine J_bipush O (v := 12) (pc := 0) (by decide) dX1_faultOfPieces_0 ?_
  refine J_istore_n O (i := 2) (k0 := 2) (pc := 2) rfl [(2, .int 12), (0, .ref j), (1, .ref q)] (by decide) rfl dX1_faultOfPieces_2 ?_
  refine J_aload_n O (i := 0) (k0 := 0) (pc := 3) 1 rfl rfl dX1_faultOfPieces_3 ?_
  refine J_aload_n O (i := 1) (k0 := 1) (pc := 4) 2 rfl rfl dX1_faultOfPieces_4 ?_
  refine J_iload_n O (i := 2) (k0 := 2) (pc := 5) 0 rfl rfl dX1_faultOfPieces_5 ?_
  obtain ⟨z6, h6, hf⟩ := jt_b hf
  refine J_callVi O (pc := 6) (c_X1_faultOfPiece l D cB cI cJ j jp q t tb t_n j_c j_a j_p q_o q_l t_l t_f 12 fu h6) rfl 0 rfl rfl gX1_faultOfPieces_X1_faultOfPiece hdV_X1_faultOfPiece ⟨(Nat.le_of_ble_eq_true rfl), (Nat.le_of_ble_eq_true rfl)⟩ rfl (st := []) rfl (Nat.le_of_ble_eq_true rfl) [0, 1, 2, 3, 4] [] rfl rfl rfl rfl rfl (by decide) [(j, .inr (1, [.ref jp, .int j_c, .int z6.2])), (jp, .inl (cI, 60, .inl j_p)), (q, .inr (2, [.ref t, .int q_o, .int q_l])), (t, .inr (4, [.ref tb, .int t_l])), (tb, .inl (cB, t_n, .inl (b8 t_f)))] [0, 1, 2, 3, 4] rfl rfl rfl (0) (0) (Nat.le_of_ble_eq_true rfl) (Nat.le_of_ble_eq_true rfl) ⟨(Nat.le_of_ble_eq_true rfl), (Nat.le_of_ble_eq_true rfl)⟩ dX1_faultOfPieces_6 ?_
  refine J_istore_n O (i := 3) (k0 := 3) (pc := 9) rfl [(3, .int z6.1), (2, .int 12), (0, .ref j), (1, .ref q)] (by decide) rfl dX1_faultOfPieces_9 ?_
  refine J_iconst O (v := 0) (pc := 10) (by decide) dX1_faultOfPieces_10 ?_
  refine J_istore O (i := 4) (pc := 11) [(4, .int 0), (3, .int z6.1), (2, .int 12), (0, .ref j), (1, .ref q)] (by decide) rfl dX1_faultOfPieces_11 ?_
  refine J_sub [3, 4, 2, 1, 0] (lv' := [(0, .ref j), (1, .ref q), (2, .int 12), (3, .int z6.1), (4, .int 0)]) rfl ?_
  exact wk_X1_faultOfPieces_13 O j jp q t tb t_n q_o q_l t_l t_f fu fu 12 z6.1 0 j_c z6.2 j_p hf
theorem hdS_X2_isUse : yX2_isUse.cls ≠ "java/lang/invoke/MethodHandle" ∧ yX2_isUse.cls ≠ "java/lang/invoke/VarHandle" ∧ (parseMethodDescriptor yX2_isUse.desc).map (fun d => d.parameters.length) = some 1 := by decide +kernel
theorem hdV_X1_pieceAt : yX1_pieceAt.cls = RX1 ∧ yX1_pieceAt.cls ≠ "java/lang/invoke/MethodHandle" ∧ yX1_pieceAt.cls ≠ "java/lang/invoke/VarHandle" ∧ (parseMethodDescriptor yX1_pieceAt.desc).map (fun d => d.parameters.length) = some 1 := by decide +kernel
abbrev rmX1_faultOfEntry : Room := { frames := 3, cells := 0, slots := 0, locals := 68 }
set_option maxHeartbeats 4000000 in
set_option maxRecDepth 100000 in
theorem wk_X1_faultOfEntry_45 {X : JC} {l : Launch} {D : va_G} {cB cI cJ : ClassId} (O : Jo X (l, D, cB, cI, cJ) cX1_faultOfEntry 6 RX1 wsX1_faultOfEntry rmX1_faultOfEntry (some .int)) (j jp q t tb : Nat) (t_n : Nat) (j_c : Int32) (j_p : Nat → Int32) (q_o : Int32) (q_l : Int32) (t_l : Int32) (t_f : Nat → Int8) (a2 : Int32) (fu : Nat) {z : Int32 × Int32} : ∀ (fn : Nat) (v3 : Int32) (v4 : Int32) (j_a : Int32), p_X1_faultOfEntry_45 fu t_n j_c j_p q_o q_l t_f a2 fn v3 v4 j_a = some z → J X 6 (JQi X [(j, .inr (1, [.ref jp, .int j_c, .int z.2])), (jp, .inl (cI, 60, .inl j_p)), (q, .inr (2, [.ref t, .int q_o, .int q_l])), (t, .inr (4, [.ref tb, .int t_l])), (tb, .inl (cB, t_n, .inl (b8 t_f)))] z.1 0 0) [(j, .inr (1, [.ref jp, .int j_c, .int j_a])), (jp, .inl (cI, 60, .inl j_p)), (q, .inr (2, [.ref t, .int q_o, .int q_l])), (t, .inr (4, [.ref tb, .int t_l])), (tb, .inl (cB, t_n, .inl (b8 t_f)))] 0 0 45 [(0, .ref j), (1, .ref q), (2, .int a2), (3, .int v3), (4, .int v4)] [] := by
  intro fn
  induction fn with
  | zero =>
    intro v3 v4 j_a hf
    rw [p_X1_faultOfEntry_45] at hf
    exact jt_n hf
  | succ fn ih =>
    intro v3 v4 j_a hf
    rw [p_X1_faultOfEntry_45] at hf
    refine J_iload O (i := 4) (pc := 45) 4 rfl dX1_faultOfEntry_45 ?_
    refine J_iload_n O (i := 2) (k0 := 2) (pc := 47) 2 rfl rfl dX1_faultOfEntry_47 ?_
    refine J_icmp_ge O (tgt := 109) (pc := 48) dX1_faultOfEntry_48 (by decide) (fun c48 => ?_) (fun c48 => ?_)
    · have hf := jt_t c48 hf
      refine J_aload_n O (i := 0) (k0 := 0) (pc := 109) 0 rfl rfl dX1_faultOfEntry_109 ?_
      refine J_aload_n O (i := 1) (k0 := 1) (pc := 110) 1 rfl rfl dX1_faultOfEntry_110 ?_
      refine J_iload_n O (i := 3) (k0 := 3) (pc := 111) 3 rfl rfl dX1_faultOfEntry_111 ?_
      refine J_bipush O (v := 8) (pc := 112) (by decide) dX1_faultOfEntry_112 ?_
      refine J_iadd O (pc := 114) dX1_faultOfEntry_114 ?_
      obtain ⟨z115, h115, hf⟩ := jt_b hf
      refine J_callVl O (pc := 115) (c_X3_u4 l D cB cI cJ q t tb t_n q_o q_l t_l t_f (v3 + 8) fu h115) rfl 0 rfl rfl gX1_faultOfEntry_X3_u4 hdV_X3_u4 ⟨(Nat.le_of_ble_eq_true rfl), (Nat.le_of_ble_eq_true rfl)⟩ rfl (st := [.ref j]) rfl (Nat.le_of_ble_eq_true rfl) [2, 3, 4] [0, 1] rfl rfl rfl rfl rfl (by decide) [(j, .inr (1, [.ref jp, .int j_c, .int j_a])), (jp, .inl (cI, 60, .inl j_p)), (q, .inr (2, [.ref t, .int q_o, .int q_l])), (t, .inr (4, [.ref tb, .int t_l])), (tb, .inl (cB, t_n, .inl (b8 t_f)))] [0, 1, 2, 3, 4] rfl rfl rfl (0) (0) (Nat.le_of_ble_eq_true rfl) (Nat.le_of_ble_eq_true rfl) ⟨(Nat.le_of_ble_eq_true rfl), (Nat.le_of_ble_eq_true rfl)⟩ dX1_faultOfEntry_115 ?_
      obtain ⟨z118, h118, hf⟩ := jt_b hf
      refine J_callVi O (pc := 118) (c_X1_pieceAt l D cB cI cJ j jp j_c j_a j_p z115 fu h118) rfl 0 rfl rfl gX1_faultOfEntry_X1_pieceAt hdV_X1_pieceAt ⟨(Nat.le_of_ble_eq_true rfl), (Nat.le_of_ble_eq_true rfl)⟩ rfl (st := []) rfl (Nat.le_of_ble_eq_true rfl) [0, 1] [2, 3, 4] rfl rfl rfl rfl rfl (by decide) [(j, .inr (1, [.ref jp, .int j_c, .int j_a])), (jp, .inl (cI, 60, .inl j_p)), (q, .inr (2, [.ref t, .int q_o, .int q_l])), (t, .inr (4, [.ref tb, .int t_l])), (tb, .inl (cB, t_n, .inl (b8 t_f)))] [3, 4, 0, 1, 2] rfl rfl rfl (0) (0) (Nat.le_of_ble_eq_true rfl) (Nat.le_of_ble_eq_true rfl) ⟨(Nat.le_of_ble_eq_true rfl), (Nat.le_of_ble_eq_true rfl)⟩ dX1_faultOfEntry_118 ?_
      refine J_if_ge O (tgt := 135) (pc := 121) dX1_faultOfEntry_121 (by decide) (fun c121 => ?_) (fun c121 => ?_)
      · have hf := jt_t c121 hf
        refine J_iconst O (v := 0) (pc := 135) (by decide) dX1_faultOfEntry_135 ?_
        cases hf
        exact J_iret O (pc := 136) rfl dX1_faultOfEntry_136
      · have hf := jt_f c121 hf
        refine J_aload_n O (i := 0) (k0 := 0) (pc := 124) 0 rfl rfl dX1_faultOfEntry_124 ?_
        refine J_bipush O (v := 8) (pc := 125) (by decide) dX1_faultOfEntry_125 ?_
        refine J_iload_n O (i := 3) (k0 := 3) (pc := 127) 3 rfl rfl dX1_faultOfEntry_127 ?_
        refine J_bipush O (v := 8) (pc := 128) (by decide) dX1_faultOfEntry_128 ?_
        refine J_iadd O (pc := 130) dX1_faultOfEntry_130 ?_
        obtain ⟨z131, h131, hf⟩ := jt_b hf
        refine J_callVi O (pc := 131) (c_X1_fail l D cB cI cJ j jp j_c j_a j_p 8 (v3 + 8) h131) rfl 0 rfl rfl gX1_faultOfEntry_X1_fail hdV_X1_fail ⟨(Nat.le_of_ble_eq_true rfl), (Nat.le_of_ble_eq_true rfl)⟩ rfl (st := []) rfl (Nat.le_of_ble_eq_true rfl) [0, 1] [2, 3, 4] rfl rfl rfl rfl rfl (by decide) [(j, .inr (1, [.ref jp, .int j_c, .int z131.2])), (jp, .inl (cI, 60, .inl j_p)), (q, .inr (2, [.ref t, .int q_o, .int q_l])), (t, .inr (4, [.ref tb, .int t_l])), (tb, .inl (cB, t_n, .inl (b8 t_f)))] [3, 4, 0, 1, 2] rfl rfl rfl (0) (0) (Nat.le_of_ble_eq_true rfl) (Nat.le_of_ble_eq_true rfl) ⟨(Nat.le_of_ble_eq_true rfl), (Nat.le_of_ble_eq_true rfl)⟩ dX1_faultOfEntry_131 ?_
        cases hf
        exact J_iret O (pc := 134) rfl dX1_faultOfEntry_134
    · have hf := jt_f c48 hf
      refine J_bipush O (v := 24) (pc := 51) (by decide) dX1_faultOfEntry_51 ?_
      refine J_bipush O (v := 12) (pc := 53) (by decide) dX1_faultOfEntry_53 ?_
      refine J_iload O (i := 4) (pc := 55) 4 rfl dX1_faultOfEntry_55 ?_
      refine J_imul O (pc := 57) dX1_faultOfEntry_57 ?_
      refine J_iadd O (pc := 58) dX1_faultOfEntry_58 ?_
      refine J_istore O (i := 5) (pc := 59) [(5, .int (24 + (12 * v4))), (0, .ref j), (1, .ref q), (2, .int a2), (3, .int v3), (4, .int v4)] (by decide) rfl dX1_faultOfEntry_59 ?_
      refine J_aload_n O (i := 1) (k0 := 1) (pc := 61) 2 rfl rfl dX1_faultOfEntry_61 ?_
      refine J_iload O (i := 5) (pc := 62) 0 rfl dX1_faultOfEntry_62 ?_
      obtain ⟨z64, h64, hf⟩ := jt_b hf
      refine J_callVl O (pc := 64) (c_X3_u4 l D cB cI cJ q t tb t_n q_o q_l t_l t_f (24 + (12 * v4)) fu h64) rfl 0 rfl rfl gX1_faultOfEntry_X3_u4 hdV_X3_u4 ⟨(Nat.le_of_ble_eq_true rfl), (Nat.le_of_ble_eq_true rfl)⟩ rfl (st := []) rfl (Nat.le_of_ble_eq_true rfl) [2, 3, 4] [0, 1] rfl rfl rfl rfl rfl (by decide) [(j, .inr (1, [.ref jp, .int j_c, .int j_a])), (jp, .inl (cI, 60, .inl j_p)), (q, .inr (2, [.ref t, .int q_o, .int q_l])), (t, .inr (4, [.ref tb, .int t_l])), (tb, .inl (cB, t_n, .inl (b8 t_f)))] [0, 1, 2, 3, 4] rfl rfl rfl (0) (0) (Nat.le_of_ble_eq_true rfl) (Nat.le_of_ble_eq_true rfl) ⟨(Nat.le_of_ble_eq_true rfl), (Nat.le_of_ble_eq_true rfl)⟩ dX1_faultOfEntry_64 ?_
      refine J_aload_n O (i := 1) (k0 := 1) (pc := 67) 2 rfl rfl dX1_faultOfEntry_67 ?_
      refine J_iload_n O (i := 3) (k0 := 3) (pc := 68) 4 rfl rfl dX1_faultOfEntry_68 ?_
      obtain ⟨z69, h69, hf⟩ := jt_b hf
      refine J_callVl O (pc := 69) (c_X3_u4 l D cB cI cJ q t tb t_n q_o q_l t_l t_f v3 fu h69) rfl 0 rfl rfl gX1_faultOfEntry_X3_u4 hdV_X3_u4 ⟨(Nat.le_of_ble_eq_true rfl), (Nat.le_of_ble_eq_true rfl)⟩ rfl (st := [.long z64]) rfl (Nat.le_of_ble_eq_true rfl) [2, 3, 4] [0, 1] rfl rfl rfl rfl rfl (by decide) [(j, .inr (1, [.ref jp, .int j_c, .int j_a])), (jp, .inl (cI, 60, .inl j_p)), (q, .inr (2, [.ref t, .int q_o, .int q_l])), (t, .inr (4, [.ref tb, .int t_l])), (tb, .inl (cB, t_n, .inl (b8 t_f)))] [0, 1, 2, 3, 4] rfl rfl rfl (0) (0) (Nat.le_of_ble_eq_true rfl) (Nat.le_of_ble_eq_true rfl) ⟨(Nat.le_of_ble_eq_true rfl), (Nat.le_of_ble_eq_true rfl)⟩ dX1_faultOfEntry_69 ?_
      refine J_lif_ne O (tgt := 103) (pc := 72) dX1_faultOfEntry_72 dX1_faultOfEntry_73 (by decide) (fun c72 => ?_) (fun c72 => ?_)
      · have hf := jt_f c72 hf
        refine J_iinc O (i := 4) (n := 1) (v := v4 + 1) (pc := 103) 5 rfl [(4, .int (v4 + 1)), (5, .int (24 + (12 * v4))), (0, .ref j), (1, .ref q), (2, .int a2), (3, .int v3)] (by decide) (congrArg (_ + ·) (by decide)) rfl dX1_faultOfEntry_103 ?_
        refine J_goto O (tgt := 45) (pc := 106) dX1_faultOfEntry_106 (by decide) ?_
        refine J_sub [2, 3, 4, 5, 0] (lv' := [(0, .ref j), (1, .ref q), (2, .int a2), (3, .int v3), (4, .int (v4 + 1))]) rfl ?_
        exact ih v3 (v4 + 1) j_a hf
      · have hf := jt_t c72 hf
        refine J_aload_n O (i := 1) (k0 := 1) (pc := 76) 2 rfl rfl dX1_faultOfEntry_76 ?_
        refine J_iload O (i := 5) (pc := 77) 0 rfl dX1_faultOfEntry_77 ?_
        refine J_iconst O (v := 4) (pc := 79) (by decide) dX1_faultOfEntry_79 ?_
        refine J_iadd O (pc := 80) dX1_faultOfEntry_80 ?_
        obtain ⟨z81, h81, hf⟩ := jt_b hf
        refine J_callVl O (pc := 81) (c_X3_u4 l D cB cI cJ q t tb t_n q_o q_l t_l t_f ((24 + (12 * v4)) + 4) fu h81) rfl 0 rfl rfl gX1_faultOfEntry_X3_u4 hdV_X3_u4 ⟨(Nat.le_of_ble_eq_true rfl), (Nat.le_of_ble_eq_true rfl)⟩ rfl (st := []) rfl (Nat.le_of_ble_eq_true rfl) [2, 3, 4] [0, 1] rfl rfl rfl rfl rfl (by decide) [(j, .inr (1, [.ref jp, .int j_c, .int j_a])), (jp, .inl (cI, 60, .inl j_p)), (q, .inr (2, [.ref t, .int q_o, .int q_l])), (t, .inr (4, [.ref tb, .int t_l])), (tb, .inl (cB, t_n, .inl (b8 t_f)))] [0, 1, 2, 3, 4] rfl rfl rfl (0) (0) (Nat.le_of_ble_eq_true rfl) (Nat.le_of_ble_eq_true rfl) ⟨(Nat.le_of_ble_eq_true rfl), (Nat.le_of_ble_eq_true rfl)⟩ dX1_faultOfEntry_81 ?_
        refine J_aload_n O (i := 1) (k0 := 1) (pc := 84) 2 rfl rfl dX1_faultOfEntry_84 ?_
        refine J_iload_n O (i := 3) (k0 := 3) (pc := 85) 4 rfl rfl dX1_faultOfEntry_85 ?_
        refine J_iconst O (v := 4) (pc := 86) (by decide) dX1_faultOfEntry_86 ?_
        refine J_iadd O (pc := 87) dX1_faultOfEntry_87 ?_
        obtain ⟨z88, h88, hf⟩ := jt_b hf
        refine J_callVl O (pc := 88) (c_X3_u4 l D cB cI cJ q t tb t_n q_o q_l t_l t_f (v3 + 4) fu h88) rfl 0 rfl rfl gX1_faultOfEntry_X3_u4 hdV_X3_u4 ⟨(Nat.le_of_ble_eq_true rfl), (Nat.le_of_ble_eq_true rfl)⟩ rfl (st := [.long z81]) rfl (Nat.le_of_ble_eq_true rfl) [2, 3, 4] [0, 1] rfl rfl rfl rfl rfl (by decide) [(j, .inr (1, [.ref jp, .int j_c, .int j_a])), (jp, .inl (cI, 60, .inl j_p)), (q, .inr (2, [.ref t, .int q_o, .int q_l])), (t, .inr (4, [.ref tb, .int t_l])), (tb, .inl (cB, t_n, .inl (b8 t_f)))] [0, 1, 2, 3, 4] rfl rfl rfl (0) (0) (Nat.le_of_ble_eq_true rfl) (Nat.le_of_ble_eq_true rfl) ⟨(Nat.le_of_ble_eq_true rfl), (Nat.le_of_ble_eq_true rfl)⟩ dX1_faultOfEntry_88 ?_
        refine J_lif_ne O (tgt := 103) (pc := 91) dX1_faultOfEntry_91 dX1_faultOfEntry_92 (by decide) (fun c91 => ?_) (fun c91 => ?_)
        · have hf := jt_f c91 hf
          refine J_iinc O (i := 4) (n := 1) (v := v4 + 1) (pc := 103) 5 rfl [(4, .int (v4 + 1)), (5, .int (24 + (12 * v4))), (0, .ref j), (1, .ref q), (2, .int a2), (3, .int v3)] (by decide) (congrArg (_ + ·) (by decide)) rfl dX1_faultOfEntry_103 ?_
          refine J_goto O (tgt := 45) (pc := 106) dX1_faultOfEntry_106 (by decide) ?_
          refine J_sub [2, 3, 4, 5, 0] (lv' := [(0, .ref j), (1, .ref q), (2, .int a2), (3, .int v3), (4, .int (v4 + 1))]) rfl ?_
          exact ih v3 (v4 + 1) j_a hf
        · have hf := jt_t c91 hf
          refine J_aload_n O (i := 0) (k0 := 0) (pc := 95) 1 rfl rfl dX1_faultOfEntry_95 ?_
          refine J_bipush O (v := 9) (pc := 96) (by decide) dX1_faultOfEntry_96 ?_
          refine J_iload_n O (i := 3) (k0 := 3) (pc := 98) 4 rfl rfl dX1_faultOfEntry_98 ?_
          obtain ⟨z99, h99, hf⟩ := jt_b hf
          refine J_callVi O (pc := 99) (c_X1_fail l D cB cI cJ j jp j_c j_a j_p 9 v3 h99) rfl 0 rfl rfl gX1_faultOfEntry_X1_fail hdV_X1_fail ⟨(Nat.le_of_ble_eq_true rfl), (Nat.le_of_ble_eq_true rfl)⟩ rfl (st := []) rfl (Nat.le_of_ble_eq_true rfl) [0, 1] [2, 3, 4] rfl rfl rfl rfl rfl (by decide) [(j, .inr (1, [.ref jp, .int j_c, .int z99.2])), (jp, .inl (cI, 60, .inl j_p)), (q, .inr (2, [.ref t, .int q_o, .int q_l])), (t, .inr (4, [.ref tb, .int t_l])), (tb, .inl (cB, t_n, .inl (b8 t_f)))] [3, 4, 0, 1, 2] rfl rfl rfl (0) (0) (Nat.le_of_ble_eq_true rfl) (Nat.le_of_ble_eq_true rfl) ⟨(Nat.le_of_ble_eq_true rfl), (Nat.le_of_ble_eq_true rfl)⟩ dX1_faultOfEntry_99 ?_
          cases hf
          exact J_iret O (pc := 102) rfl dX1_faultOfEntry_102
set_option maxHeartbeats 4000000 in
set_option maxRecDepth 100000 in
theorem c_X1_faultOfEntry (l : Launch) (D : va_G) (cB cI cJ : ClassId) (j jp q t tb t_n : Nat) (j_c : Int32) (j_a : Int32) (j_p : Nat → Int32) (q_o : Int32) (q_l : Int32) (t_l : Int32) (t_f : Nat → Int8) (a2 : Int32) (fu : Nat) {z : Int32 × Int32} (hf : p_X1_faultOfEntry fu t_n j_c j_a j_p q_o q_l t_f a2 = some z) : Ci (l, D, cB, cI, cJ) yX1_faultOfEntry wsX1_faultOfEntry rmX1_faultOfEntry [.ref j, .ref q, .int a2] [(j, .inr (1, [.ref jp, .int j_c, .int j_a])), (jp, .inl (cI, 60, .inl j_p)), (q, .inr (2, [.ref t, .int q_o, .int q_l])), (t, .inr (4, [.ref tb, .int t_l])), (tb, .inl (cB, t_n, .inl (b8 t_f)))] [(j, .inr (1, [.ref jp, .int j_c, .int z.2])), (jp, .inl (cI, 60, .inl j_p)), (q, .inr (2, [.ref t, .int q_o, .int q_l])), (t, .inr (4, [.ref tb, .int t_l])), (tb, .inl (cB, t_n, .inl (b8 t_f)))] z.1 := by
  refine Ci_of (cc := cX1_faultOfEntry) (nL := 6) (own := RX1) (ret := (some .int)) (by decide) rfl rfl (Nat.le_of_ble_eq_true rfl) (fun X O hnm0 => ?_)
  rw [p_X1_faultOfEntry] at hf
  show J X 6 (JQi X [(j, .inr (1, [.ref jp, .int j_c, .int z.2])), (jp, .inl (cI, 60, .inl j_p)), (q, .inr (2, [.ref t, .int q_o, .int q_l])), (t, .inr (4, [.ref tb, .int t_l])), (tb, .inl (cB, t_n, .inl (b8 t_f)))] z.1 0 0) [(j, .inr (1, [.ref jp, .int j_c, .int j_a])), (jp, .inl (cI, 60, .inl j_p)), (q, .inr (2, [.ref t, .int q_o, .int q_l])), (t, .inr (4, [.ref tb, .int t_l])), (tb, .inl (cB, t_n, .inl (b8 t_f)))] 0 0 0 [(0, .ref j), (1, .ref q), (2, .int a2)] []
  refine J_bipush O (v := 24) (pc := 0) (by decide) dX1_faultOfEntry_0 ?_
  refine J_bipush O (v := 12) (pc := 2) (by decide) dX1_faultOfEntry_2 ?_
  refine J_iload_n O (i := 2) (k0 := 2) (pc := 4) 2 rfl rfl dX1_faultOfEntry_4 ?_
  refine J_imul O (pc := 5) dX1_faultOfEntry_5 ?_
  refine J_iadd O (pc := 6) dX1_faultOfEntry_6 ?_
  refine J_istore_n O (i := 3) (k0 := 3) (pc := 7) rfl [(3, .int (24 + (12 * a2))), (0, .ref j), (1, .ref q), (2, .int a2)] (by decide) rfl dX1_faultOfEntry_7 ?_
  refine J_iload_n O (i := 2) (k0 := 2) (pc := 8) 3 rfl rfl dX1_faultOfEntry_8 ?_
  refine J_bipush O (v := 40) (pc := 9) (by decide) dX1_faultOfEntry_9 ?_
  refine J_icmp_lt O (tgt := 22) (pc := 11) dX1_faultOfEntry_11 (by decide) (fun c11 => ?_) (fun c11 => ?_)
  · have hf := jt_t c11 hf
    refine J_aload_n O (i := 1) (k0 := 1) (pc := 22) 2 rfl rfl dX1_faultOfEntry_22 ?_
    refine J_iload_n O (i := 3) (k0 := 3) (pc := 23) 0 rfl rfl dX1_faultOfEntry_23 ?_
    obtain ⟨z24, h24, hf⟩ := jt_b hf
    refine J_callVl O (pc := 24) (c_X3_u4 l D cB cI cJ q t tb t_n q_o q_l t_l t_f (24 + (12 * a2)) fu h24) rfl 0 rfl rfl gX1_faultOfEntry_X3_u4 hdV_X3_u4 ⟨(Nat.le_of_ble_eq_true rfl), (Nat.le_of_ble_eq_true rfl)⟩ rfl (st := []) rfl (Nat.le_of_ble_eq_true rfl) [2, 3, 4] [0, 1] rfl rfl rfl rfl rfl (by decide) [(j, .inr (1, [.ref jp, .int j_c, .int j_a])), (jp, .inl (cI, 60, .inl j_p)), (q, .inr (2, [.ref t, .int q_o, .int q_l])), (t, .inr (4, [.ref tb, .int t_l])), (tb, .inl (cB, t_n, .inl (b8 t_f)))] [0, 1, 2, 3, 4] rfl rfl rfl (0) (0) (Nat.le_of_ble_eq_true rfl) (Nat.le_of_ble_eq_true rfl) ⟨(Nat.le_of_ble_eq_true rfl), (Nat.le_of_ble_eq_true rfl)⟩ dX1_faultOfEntry_24 ?_
    refine J_l2i O (pc := 27) dX1_faultOfEntry_27 ?_
    obtain ⟨z28, h28, hf⟩ := jt_b hf
    refine J_callSi O (pc := 28) (c_X2_isUse l D cB cI cJ (Int64.toInt32 z24) h28) rfl gX1_faultOfEntry_X2_isUse hdS_X2_isUse ⟨(Nat.le_of_ble_eq_true rfl), (Nat.le_of_ble_eq_true rfl)⟩ rfl (st := []) rfl (Nat.le_of_ble_eq_true rfl) [] [0, 1, 2, 3, 4] rfl rfl rfl rfl rfl (by decide) [(j, .inr (1, [.ref jp, .int j_c, .int j_a])), (jp, .inl (cI, 60, .inl j_p)), (q, .inr (2, [.ref t, .int q_o, .int q_l])), (t, .inr (4, [.ref tb, .int t_l])), (tb, .inl (cB, t_n, .inl (b8 t_f)))] [0, 1, 2, 3, 4] rfl rfl rfl (0) (0) (Nat.le_of_ble_eq_true rfl) (Nat.le_of_ble_eq_true rfl) ⟨(Nat.le_of_ble_eq_true rfl), (Nat.le_of_ble_eq_true rfl)⟩ dX1_faultOfEntry_28 ?_
    refine J_zne O (tgt := 42) (pc := 31) dX1_faultOfEntry_31 (by decide) (fun c31 => ?_) (fun c31 => ?_)
    · have hf := jt_t c31 hf
      refine J_iconst O (v := 0) (pc := 42) (by decide) dX1_faultOfEntry_42 ?_
      refine J_istore O (i := 4) (pc := 43) [(4, .int 0), (3, .int (24 + (12 * a2))), (0, .ref j), (1, .ref q), (2, .int a2)] (by decide) rfl dX1_faultOfEntry_43 ?_
      refine J_sub [2, 3, 4, 1, 0] (lv' := [(0, .ref j), (1, .ref q), (2, .int a2), (3, .int (24 + (12 * a2))), (4, .int 0)]) rfl ?_
      exact wk_X1_faultOfEntry_45 O j jp q t tb t_n j_c j_p q_o q_l t_l t_f a2 fu fu (24 + (12 * a2)) 0 j_a hf
    · have hf := jt_f c31 hf
      refine J_aload_n O (i := 0) (k0 := 0) (pc := 34) 1 rfl rfl dX1_faultOfEntry_34 ?_
      refine J_bipush O (v := 7) (pc := 35) (by decide) dX1_faultOfEntry_35 ?_
      refine J_iload_n O (i := 3) (k0 := 3) (pc := 37) 0 rfl rfl dX1_faultOfEntry_37 ?_
      obtain ⟨z38, h38, hf⟩ := jt_b hf
      refine J_callVi O (pc := 38) (c_X1_fail l D cB cI cJ j jp j_c j_a j_p 7 (24 + (12 * a2)) h38) rfl 0 rfl rfl gX1_faultOfEntry_X1_fail hdV_X1_fail ⟨(Nat.le_of_ble_eq_true rfl), (Nat.le_of_ble_eq_true rfl)⟩ rfl (st := []) rfl (Nat.le_of_ble_eq_true rfl) [0, 1] [2, 3, 4] rfl rfl rfl rfl rfl (by decide) [(j, .inr (1, [.ref jp, .int j_c, .int z38.2])), (jp, .inl (cI, 60, .inl j_p)), (q, .inr (2, [.ref t, .int q_o, .int q_l])), (t, .inr (4, [.ref tb, .int t_l])), (tb, .inl (cB, t_n, .inl (b8 t_f)))] [3, 4, 0, 1, 2] rfl rfl rfl (0) (0) (Nat.le_of_ble_eq_true rfl) (Nat.le_of_ble_eq_true rfl) ⟨(Nat.le_of_ble_eq_true rfl), (Nat.le_of_ble_eq_true rfl)⟩ dX1_faultOfEntry_38 ?_
      cases hf
      exact J_iret O (pc := 41) rfl dX1_faultOfEntry_41
  · have hf := jt_f c11 hf
    refine J_aload_n O (i := 0) (k0 := 0) (pc := 14) 1 rfl rfl dX1_faultOfEntry_14 ?_
    refine J_bipush O (v := 10) (pc := 15) (by decide) dX1_faultOfEntry_15 ?_
    refine J_iload_n O (i := 3) (k0 := 3) (pc := 17) 0 rfl rfl dX1_faultOfEntry_17 ?_
    obtain ⟨z18, h18, hf⟩ := jt_b hf
    refine J_callVi O (pc := 18) (c_X1_fail l D cB cI cJ j jp j_c j_a j_p 10 (24 + (12 * a2)) h18) rfl 0 rfl rfl gX1_faultOfEntry_X1_fail hdV_X1_fail ⟨(Nat.le_of_ble_eq_true rfl), (Nat.le_of_ble_eq_true rfl)⟩ rfl (st := []) rfl (Nat.le_of_ble_eq_true rfl) [0, 1] [2, 3, 4] rfl rfl rfl rfl rfl (by decide) [(j, .inr (1, [.ref jp, .int j_c, .int z18.2])), (jp, .inl (cI, 60, .inl j_p)), (q, .inr (2, [.ref t, .int q_o, .int q_l])), (t, .inr (4, [.ref tb, .int t_l])), (tb, .inl (cB, t_n, .inl (b8 t_f)))] [3, 4, 0, 1, 2] rfl rfl rfl (0) (0) (Nat.le_of_ble_eq_true rfl) (Nat.le_of_ble_eq_true rfl) ⟨(Nat.le_of_ble_eq_true rfl), (Nat.le_of_ble_eq_true rfl)⟩ dX1_faultOfEntry_18 ?_
    cases hf
    exact J_iret O (pc := 21) rfl dX1_faultOfEntry_21
theorem mb_X1_faultOfIndex_0 : Cond.constantLong RX1 71 4 ∈ wsX1_faultOfIndex := by decide +kernel
theorem mb_X1_faultOfIndex_1 : Cond.constantLong RX1 73 12 ∈ wsX1_faultOfIndex := by decide +kernel
theorem hdV_X1_faultOfEntry : yX1_faultOfEntry.cls = RX1 ∧ yX1_faultOfEntry.cls ≠ "java/lang/invoke/MethodHandle" ∧ yX1_faultOfEntry.cls ≠ "java/lang/invoke/VarHandle" ∧ (parseMethodDescriptor yX1_faultOfEntry.desc).map (fun d => d.parameters.length) = some 2 := by decide +kernel
abbrev rmX1_faultOfIndex : Room := { frames := 4, cells := 0, slots := 0, locals := 93 }
set_option maxHeartbeats 4000000 in
set_option maxRecDepth 100000 in
theorem wk_X1_faultOfIndex_57 {X : JC} {l : Launch} {D : va_G} {cB cI cJ : ClassId} (O : Jo X (l, D, cB, cI, cJ) cX1_faultOfIndex 8 RX1 wsX1_faultOfIndex rmX1_faultOfIndex (some .int)) (j jp q t tb : Nat) (t_n : Nat) (j_c : Int32) (j_p : Nat → Int32) (q_o : Int32) (q_l : Int32) (t_l : Int32) (t_f : Nat → Int8) (fu : Nat) {z : Int32 × Int32} : ∀ (fn : Nat) (v4 : Int64) (v6 : Int32) (v7 : Int32) (j_a : Int32), p_X1_faultOfIndex_57 fu t_n j_c j_p q_o q_l t_f fn v4 v6 v7 j_a = some z → J X 8 (JQi X [(j, .inr (1, [.ref jp, .int j_c, .int z.2])), (jp, .inl (cI, 60, .inl j_p)), (q, .inr (2, [.ref t, .int q_o, .int q_l])), (t, .inr (4, [.ref tb, .int t_l])), (tb, .inl (cB, t_n, .inl (b8 t_f)))] z.1 0 0) [(j, .inr (1, [.ref jp, .int j_c, .int j_a])), (jp, .inl (cI, 60, .inl j_p)), (q, .inr (2, [.ref t, .int q_o, .int q_l])), (t, .inr (4, [.ref tb, .int t_l])), (tb, .inl (cB, t_n, .inl (b8 t_f)))] 0 0 57 [(0, .ref j), (1, .ref q), (4, .long v4), (6, .int v6), (7, .int v7)] [] := by
  intro fn
  induction fn with
  | zero =>
    intro v4 v6 v7 j_a hf
    rw [p_X1_faultOfIndex_57] at hf
    exact jt_n hf
  | succ fn ih =>
    intro v4 v6 v7 j_a hf
    rw [p_X1_faultOfIndex_57] at hf
    refine J_iload O (i := 7) (pc := 57) 4 rfl dX1_faultOfIndex_57 ?_
    refine J_i2l O (pc := 59) dX1_faultOfIndex_59 ?_
    refine J_lload O (i := 4) (pc := 60) 2 rfl dX1_faultOfIndex_60 ?_
    refine J_lif_ge O (tgt := 93) (pc := 62) dX1_faultOfIndex_62 dX1_faultOfIndex_63 (by decide) (fun c62 => ?_) (fun c62 => ?_)
    · have hf := jt_t c62 hf
      refine J_iload O (i := 6) (pc := 93) 3 rfl dX1_faultOfIndex_93 ?_
      cases hf
      exact J_iret O (pc := 95) rfl dX1_faultOfIndex_95
    · have hf := jt_f c62 hf
      refine J_iload O (i := 7) (pc := 66) 4 rfl dX1_faultOfIndex_66 ?_
      refine J_bipush O (v := 40) (pc := 68) (by decide) dX1_faultOfIndex_68 ?_
      refine J_icmp_gt O (tgt := 93) (pc := 70) dX1_faultOfIndex_70 (by decide) (fun c70 => ?_) (fun c70 => ?_)
      · have hf := jt_t c70 hf
        refine J_iload O (i := 6) (pc := 93) 3 rfl dX1_faultOfIndex_93 ?_
        cases hf
        exact J_iret O (pc := 95) rfl dX1_faultOfIndex_95
      · have hf := jt_f c70 hf
        refine J_iload O (i := 6) (pc := 73) 3 rfl dX1_faultOfIndex_73 ?_
        refine J_if_ne O (tgt := 93) (pc := 75) dX1_faultOfIndex_75 (by decide) (fun c75 => ?_) (fun c75 => ?_)
        · have hf := jt_f c75 hf
          refine J_iload O (i := 6) (pc := 93) 3 rfl dX1_faultOfIndex_93 ?_
          cases hf
          exact J_iret O (pc := 95) rfl dX1_faultOfIndex_95
        · have hf := jt_t c75 hf
          refine J_aload_n O (i := 0) (k0 := 0) (pc := 78) 0 rfl rfl dX1_faultOfIndex_78 ?_
          refine J_aload_n O (i := 1) (k0 := 1) (pc := 79) 1 rfl rfl dX1_faultOfIndex_79 ?_
          refine J_iload O (i := 7) (pc := 80) 4 rfl dX1_faultOfIndex_80 ?_
          obtain ⟨z82, h82, hf⟩ := jt_b hf
          refine J_callVi O (pc := 82) (c_X1_faultOfEntry l D cB cI cJ j jp q t tb t_n j_c j_a j_p q_o q_l t_l t_f v7 fu h82) rfl 0 rfl rfl gX1_faultOfIndex_X1_faultOfEntry hdV_X1_faultOfEntry ⟨(Nat.le_of_ble_eq_true rfl), (Nat.le_of_ble_eq_true rfl)⟩ rfl (st := []) rfl (Nat.le_of_ble_eq_true rfl) [0, 1, 2, 3, 4] [] rfl rfl rfl rfl rfl (by decide) [(j, .inr (1, [.ref jp, .int j_c, .int z82.2])), (jp, .inl (cI, 60, .inl j_p)), (q, .inr (2, [.ref t, .int q_o, .int q_l])), (t, .inr (4, [.ref tb, .int t_l])), (tb, .inl (cB, t_n, .inl (b8 t_f)))] [0, 1, 2, 3, 4] rfl rfl rfl (0) (0) (Nat.le_of_ble_eq_true rfl) (Nat.le_of_ble_eq_true rfl) ⟨(Nat.le_of_ble_eq_true rfl), (Nat.le_of_ble_eq_true rfl)⟩ dX1_faultOfIndex_82 ?_
          refine J_istore O (i := 6) (pc := 85) [(6, .int z82.1), (0, .ref j), (1, .ref q), (4, .long v4), (7, .int v7)] (by decide) rfl dX1_faultOfIndex_85 ?_
          refine J_iinc O (i := 7) (n := 1) (v := v7 + 1) (pc := 87) 4 rfl [(7, .int (v7 + 1)), (6, .int z82.1), (0, .ref j), (1, .ref q), (4, .long v4)] (by decide) (congrArg (_ + ·) (by decide)) rfl dX1_faultOfIndex_87 ?_
          refine J_goto O (tgt := 57) (pc := 90) dX1_faultOfIndex_90 (by decide) ?_
          refine J_sub [2, 3, 4, 1, 0] (lv' := [(0, .ref j), (1, .ref q), (4, .long v4), (6, .int z82.1), (7, .int (v7 + 1))]) rfl ?_
          exact ih v4 z82.1 (v7 + 1) z82.2 hf
set_option maxHeartbeats 4000000 in
set_option maxRecDepth 100000 in
theorem c_X1_faultOfIndex (l : Launch) (D : va_G) (cB cI cJ : ClassId) (j jp q t tb t_n : Nat) (j_c : Int32) (j_a : Int32) (j_p : Nat → Int32) (q_o : Int32) (q_l : Int32) (t_l : Int32) (t_f : Nat → Int8) (fu : Nat) {z : Int32 × Int32} (hf : p_X1_faultOfIndex fu t_n j_c j_a j_p q_o q_l t_f = some z) : Ci (l, D, cB, cI, cJ) yX1_faultOfIndex wsX1_faultOfIndex rmX1_faultOfIndex [.ref j, .ref q] [(j, .inr (1, [.ref jp, .int j_c, .int j_a])), (jp, .inl (cI, 60, .inl j_p)), (q, .inr (2, [.ref t, .int q_o, .int q_l])), (t, .inr (4, [.ref tb, .int t_l])), (tb, .inl (cB, t_n, .inl (b8 t_f)))] [(j, .inr (1, [.ref jp, .int j_c, .int z.2])), (jp, .inl (cI, 60, .inl j_p)), (q, .inr (2, [.ref t, .int q_o, .int q_l])), (t, .inr (4, [.ref tb, .int t_l])), (tb, .inl (cB, t_n, .inl (b8 t_f)))] z.1 := by
  refine Ci_of (cc := cX1_faultOfIndex) (nL := 8) (own := RX1) (ret := (some .int)) (by decide) rfl rfl (Nat.le_of_ble_eq_true rfl) (fun X O hnm0 => ?_)
  rw [p_X1_faultOfIndex] at hf
  show J X 8 (JQi X [(j, .inr (1, [.ref jp, .int j_c, .int z.2])), (jp, .inl (cI, 60, .inl j_p)), (q, .inr (2, [.ref t, .int q_o, .int q_l])), (t, .inr (4, [.ref tb, .int t_l])), (tb, .inl (cB, t_n, .inl (b8 t_f)))] z.1 0 0) [(j, .inr (1, [.ref jp, .int j_c, .int j_a])), (jp, .inl (cI, 60, .inl j_p)), (q, .inr (2, [.ref t, .int q_o, .int q_l])), (t, .inr (4, [.ref tb, .int t_l])), (tb, .inl (cB, t_n, .inl (b8 t_f)))] 0 0 0 [(0, .ref j), (1, .ref q)] []
  refine J_aload_n O (i := 1) (k0 := 1) (pc := 0) 1 rfl rfl dX1_faultOfIndex_0 ?_
  refine J_bipush O (v := 16) (pc := 1) (by decide) dX1_faultOfIndex_1 ?_
  obtain ⟨z3, h3, hf⟩ := jt_b hf
  refine J_callVl O (pc := 3) (c_X3_u4 l D cB cI cJ q t tb t_n q_o q_l t_l t_f 16 fu h3) rfl 0 rfl rfl gX1_faultOfIndex_X3_u4 hdV_X3_u4 ⟨(Nat.le_of_ble_eq_true rfl), (Nat.le_of_ble_eq_true rfl)⟩ rfl (st := []) rfl (Nat.le_of_ble_eq_true rfl) [2, 3, 4] [0, 1] rfl rfl rfl rfl rfl (by decide) [(j, .inr (1, [.ref jp, .int j_c, .int j_a])), (jp, .inl (cI, 60, .inl j_p)), (q, .inr (2, [.ref t, .int q_o, .int q_l])), (t, .inr (4, [.ref tb, .int t_l])), (tb, .inl (cB, t_n, .inl (b8 t_f)))] [0, 1, 2, 3, 4] rfl rfl rfl (0) (0) (Nat.le_of_ble_eq_true rfl) (Nat.le_of_ble_eq_true rfl) ⟨(Nat.le_of_ble_eq_true rfl), (Nat.le_of_ble_eq_true rfl)⟩ dX1_faultOfIndex_3 ?_
  refine J_lstore_n O (i := 2) (k0 := 2) (pc := 6) rfl [(2, .long z3), (0, .ref j), (1, .ref q)] (by decide) rfl dX1_faultOfIndex_6 ?_
  refine J_lload_n O (i := 2) (k0 := 2) (pc := 7) 0 rfl rfl dX1_faultOfIndex_7 ?_
  refine J_ldc2 O (pc := 8) mb_X1_faultOfIndex_0 dX1_faultOfIndex_8 ?_
  refine J_lif_lt O (tgt := 34) (pc := 11) dX1_faultOfIndex_11 dX1_faultOfIndex_12 (by decide) (fun c11 => ?_) (fun c11 => ?_)
  · have hf := jt_t c11 hf
    refine J_aload_n O (i := 0) (k0 := 0) (pc := 34) 1 rfl rfl dX1_faultOfIndex_34 ?_
    refine J_bipush O (v := 6) (pc := 35) (by decide) dX1_faultOfIndex_35 ?_
    refine J_bipush O (v := 16) (pc := 37) (by decide) dX1_faultOfIndex_37 ?_
    obtain ⟨z39, h39, hf⟩ := jt_b hf
    refine J_callVi O (pc := 39) (c_X1_fail l D cB cI cJ j jp j_c j_a j_p 6 16 h39) rfl 0 rfl rfl gX1_faultOfIndex_X1_fail hdV_X1_fail ⟨(Nat.le_of_ble_eq_true rfl), (Nat.le_of_ble_eq_true rfl)⟩ rfl (st := []) rfl (Nat.le_of_ble_eq_true rfl) [0, 1] [2, 3, 4] rfl rfl rfl rfl rfl (by decide) [(j, .inr (1, [.ref jp, .int j_c, .int z39.2])), (jp, .inl (cI, 60, .inl j_p)), (q, .inr (2, [.ref t, .int q_o, .int q_l])), (t, .inr (4, [.ref tb, .int t_l])), (tb, .inl (cB, t_n, .inl (b8 t_f)))] [3, 4, 0, 1, 2] rfl rfl rfl (0) (0) (Nat.le_of_ble_eq_true rfl) (Nat.le_of_ble_eq_true rfl) ⟨(Nat.le_of_ble_eq_true rfl), (Nat.le_of_ble_eq_true rfl)⟩ dX1_faultOfIndex_39 ?_
    cases hf
    exact J_iret O (pc := 42) rfl dX1_faultOfIndex_42
  · have hf := jt_f c11 hf
    refine J_lload_n O (i := 2) (k0 := 2) (pc := 15) 0 rfl rfl dX1_faultOfIndex_15 ?_
    refine J_ldc2 O (pc := 16) mb_X1_faultOfIndex_0 dX1_faultOfIndex_16 ?_
    refine J_ldc2 O (pc := 19) mb_X1_faultOfIndex_1 dX1_faultOfIndex_19 ?_
    refine J_aload_n O (i := 1) (k0 := 1) (pc := 22) 2 rfl rfl dX1_faultOfIndex_22 ?_
    refine J_bipush O (v := 20) (pc := 23) (by decide) dX1_faultOfIndex_23 ?_
    obtain ⟨z25, h25, hf⟩ := jt_b hf
    refine J_callVl O (pc := 25) (c_X3_u4 l D cB cI cJ q t tb t_n q_o q_l t_l t_f 20 fu h25) rfl 0 rfl rfl gX1_faultOfIndex_X3_u4 hdV_X3_u4 ⟨(Nat.le_of_ble_eq_true rfl), (Nat.le_of_ble_eq_true rfl)⟩ rfl (st := [.long 12, .long 4, .long z3]) rfl (Nat.le_of_ble_eq_true rfl) [2, 3, 4] [0, 1] rfl rfl rfl rfl rfl (by decide) [(j, .inr (1, [.ref jp, .int j_c, .int j_a])), (jp, .inl (cI, 60, .inl j_p)), (q, .inr (2, [.ref t, .int q_o, .int q_l])), (t, .inr (4, [.ref tb, .int t_l])), (tb, .inl (cB, t_n, .inl (b8 t_f)))] [0, 1, 2, 3, 4] rfl rfl rfl (0) (0) (Nat.le_of_ble_eq_true rfl) (Nat.le_of_ble_eq_true rfl) ⟨(Nat.le_of_ble_eq_true rfl), (Nat.le_of_ble_eq_true rfl)⟩ dX1_faultOfIndex_25 ?_
    refine J_lmul O (pc := 28) dX1_faultOfIndex_28 ?_
    refine J_ladd O (pc := 29) dX1_faultOfIndex_29 ?_
    refine J_lif_eq O (tgt := 43) (pc := 30) dX1_faultOfIndex_30 dX1_faultOfIndex_31 (by decide) (fun c30 => ?_) (fun c30 => ?_)
    · have hf := jt_t c30 hf
      refine J_aload_n O (i := 1) (k0 := 1) (pc := 43) 2 rfl rfl dX1_faultOfIndex_43 ?_
      refine J_bipush O (v := 20) (pc := 44) (by decide) dX1_faultOfIndex_44 ?_
      obtain ⟨z46, h46, hf⟩ := jt_b hf
      refine J_callVl O (pc := 46) (c_X3_u4 l D cB cI cJ q t tb t_n q_o q_l t_l t_f 20 fu h46) rfl 0 rfl rfl gX1_faultOfIndex_X3_u4 hdV_X3_u4 ⟨(Nat.le_of_ble_eq_true rfl), (Nat.le_of_ble_eq_true rfl)⟩ rfl (st := []) rfl (Nat.le_of_ble_eq_true rfl) [2, 3, 4] [0, 1] rfl rfl rfl rfl rfl (by decide) [(j, .inr (1, [.ref jp, .int j_c, .int j_a])), (jp, .inl (cI, 60, .inl j_p)), (q, .inr (2, [.ref t, .int q_o, .int q_l])), (t, .inr (4, [.ref tb, .int t_l])), (tb, .inl (cB, t_n, .inl (b8 t_f)))] [0, 1, 2, 3, 4] rfl rfl rfl (0) (0) (Nat.le_of_ble_eq_true rfl) (Nat.le_of_ble_eq_true rfl) ⟨(Nat.le_of_ble_eq_true rfl), (Nat.le_of_ble_eq_true rfl)⟩ dX1_faultOfIndex_46 ?_
      refine J_lstore O (i := 4) (pc := 49) [(4, .long z46), (2, .long z3), (0, .ref j), (1, .ref q)] (by decide) rfl dX1_faultOfIndex_49 ?_
      refine J_iconst O (v := 0) (pc := 51) (by decide) dX1_faultOfIndex_51 ?_
      refine J_istore O (i := 6) (pc := 52) [(6, .int 0), (4, .long z46), (2, .long z3), (0, .ref j), (1, .ref q)] (by decide) rfl dX1_faultOfIndex_52 ?_
      refine J_iconst O (v := 0) (pc := 54) (by decide) dX1_faultOfIndex_54 ?_
      refine J_istore O (i := 7) (pc := 55) [(7, .int 0), (6, .int 0), (4, .long z46), (2, .long z3), (0, .ref j), (1, .ref q)] (by decide) rfl dX1_faultOfIndex_55 ?_
      refine J_sub [4, 5, 2, 1, 0] (lv' := [(0, .ref j), (1, .ref q), (4, .long z46), (6, .int 0), (7, .int 0)]) rfl ?_
      exact wk_X1_faultOfIndex_57 O j jp q t tb t_n j_c j_p q_o q_l t_l t_f fu fu z46 0 0 j_a hf
    · have hf := jt_f c30 hf
      refine J_aload_n O (i := 0) (k0 := 0) (pc := 34) 1 rfl rfl dX1_faultOfIndex_34 ?_
      refine J_bipush O (v := 6) (pc := 35) (by decide) dX1_faultOfIndex_35 ?_
      refine J_bipush O (v := 16) (pc := 37) (by decide) dX1_faultOfIndex_37 ?_
      obtain ⟨z39, h39, hf⟩ := jt_b hf
      refine J_callVi O (pc := 39) (c_X1_fail l D cB cI cJ j jp j_c j_a j_p 6 16 h39) rfl 0 rfl rfl gX1_faultOfIndex_X1_fail hdV_X1_fail ⟨(Nat.le_of_ble_eq_true rfl), (Nat.le_of_ble_eq_true rfl)⟩ rfl (st := []) rfl (Nat.le_of_ble_eq_true rfl) [0, 1] [2, 3, 4] rfl rfl rfl rfl rfl (by decide) [(j, .inr (1, [.ref jp, .int j_c, .int z39.2])), (jp, .inl (cI, 60, .inl j_p)), (q, .inr (2, [.ref t, .int q_o, .int q_l])), (t, .inr (4, [.ref tb, .int t_l])), (tb, .inl (cB, t_n, .inl (b8 t_f)))] [3, 4, 0, 1, 2] rfl rfl rfl (0) (0) (Nat.le_of_ble_eq_true rfl) (Nat.le_of_ble_eq_true rfl) ⟨(Nat.le_of_ble_eq_true rfl), (Nat.le_of_ble_eq_true rfl)⟩ dX1_faultOfIndex_39 ?_
      cases hf
      exact J_iret O (pc := 42) rfl dX1_faultOfIndex_42
theorem in_X1_faultOf_X1 : ∀ w ∈ u_ws RX1 TX1 3, w ∈ wsX1_faultOf := fun _ h => List.mem_cons_of_mem _ (List.mem_append_left _ (List.mem_append_left _ (List.mem_append_right _ h)))
theorem mb_X1_faultOf_1 : Cond.fieldLink RX1 15 (TX1 1).1 (TX1 1).2.1 (TX1 1).2.2.1 ∈ wsX1_faultOf := by decide +kernel
theorem mb_X1_faultOf_2 : Cond.fieldLink RX1 19 (TX1 2).1 (TX1 2).2.1 (TX1 2).2.2.1 ∈ wsX1_faultOf := by decide +kernel
theorem hdV_X1_faultOfHead : yX1_faultOfHead.cls = RX1 ∧ yX1_faultOfHead.cls ≠ "java/lang/invoke/MethodHandle" ∧ yX1_faultOfHead.cls ≠ "java/lang/invoke/VarHandle" ∧ (parseMethodDescriptor yX1_faultOfHead.desc).map (fun d => d.parameters.length) = some 1 := by decide +kernel
theorem hdV_X1_faultOfIndex : yX1_faultOfIndex.cls = RX1 ∧ yX1_faultOfIndex.cls ≠ "java/lang/invoke/MethodHandle" ∧ yX1_faultOfIndex.cls ≠ "java/lang/invoke/VarHandle" ∧ (parseMethodDescriptor yX1_faultOfIndex.desc).map (fun d => d.parameters.length) = some 1 := by decide +kernel
theorem hdV_X1_faultOfPieces : yX1_faultOfPieces.cls = RX1 ∧ yX1_faultOfPieces.cls ≠ "java/lang/invoke/MethodHandle" ∧ yX1_faultOfPieces.cls ≠ "java/lang/invoke/VarHandle" ∧ (parseMethodDescriptor yX1_faultOfPieces.desc).map (fun d => d.parameters.length) = some 1 := by decide +kernel
abbrev rmX1_faultOf : Room := { frames := 5, cells := 0, slots := 0, locals := 121 }
set_option maxHeartbeats 4000000 in
set_option maxRecDepth 100000 in
theorem c_X1_faultOf (l : Launch) (D : va_G) (cB cI cJ : ClassId) (j jp q t tb t_n : Nat) (j_c : Int32) (j_a : Int32) (j_p : Nat → Int32) (q_o : Int32) (q_l : Int32) (t_l : Int32) (t_f : Nat → Int8) (fu : Nat) {z : Int32 × Int32 × Int32 × (Nat → Int32)} (hf : p_X1_faultOf fu t_n j_c j_a j_p q_o q_l t_f = some z) : Ci (l, D, cB, cI, cJ) yX1_faultOf wsX1_faultOf rmX1_faultOf [.ref j, .ref q] [(j, .inr (1, [.ref jp, .int j_c, .int j_a])), (jp, .inl (cI, 60, .inl j_p)), (q, .inr (2, [.ref t, .int q_o, .int q_l])), (t, .inr (4, [.ref tb, .int t_l])), (tb, .inl (cB, t_n, .inl (b8 t_f)))] [(j, .inr (1, [.ref jp, .int z.2.1, .int z.2.2.1])), (jp, .inl (cI, 60, .inl z.2.2.2)), (q, .inr (2, [.ref t, .int q_o, .int q_l])), (t, .inr (4, [.ref tb, .int t_l])), (tb, .inl (cB, t_n, .inl (b8 t_f)))] z.1 := by
  refine Ci_of (cc := cX1_faultOf) (nL := 3) (own := RX1) (ret := (some .int)) (by decide) rfl rfl (Nat.le_of_ble_eq_true rfl) (fun X O hnm0 => ?_)
  rw [p_X1_faultOf] at hf
  show J X 3 (JQi X [(j, .inr (1, [.ref jp, .int z.2.1, .int z.2.2.1])), (jp, .inl (cI, 60, .inl z.2.2.2)), (q, .inr (2, [.ref t, .int q_o, .int q_l])), (t, .inr (4, [.ref tb, .int t_l])), (tb, .inl (cB, t_n, .inl (b8 t_f)))] z.1 0 0) [(j, .inr (1, [.ref jp, .int j_c, .int j_a])), (jp, .inl (cI, 60, .inl j_p)), (q, .inr (2, [.ref t, .int q_o, .int q_l])), (t, .inr (4, [.ref tb, .int t_l])), (tb, .inl (cB, t_n, .inl (b8 t_f)))] 0 0 0 [(0, .ref j), (1, .ref q)] []
  refine J_aload_n O (i := 0) (k0 := 0) (pc := 0) 0 rfl rfl dX1_faultOf_0 ?_
  refine J_iconst O (v := 0) (pc := 1) (by decide) dX1_faultOf_1 ?_
  refine J_put O (pc := 2) in_X1_faultOf_X1 tyX1 tyX1_ok nmX1 0 rfl rfl 1 (by decide) mb_X1_faultOf_1 rfl rfl rfl (Nat.le_of_ble_eq_true rfl) [(j, .inr (1, [.ref jp, .int 0, .int j_a])), (jp, .inl (cI, 60, .inl j_p)), (q, .inr (2, [.ref t, .int q_o, .int q_l])), (t, .inr (4, [.ref tb, .int t_l])), (tb, .inl (cB, t_n, .inl (b8 t_f)))] rfl dX1_faultOf_2 ?_
  refine J_aload_n O (i := 0) (k0 := 0) (pc := 5) 0 rfl rfl dX1_faultOf_5 ?_
  refine J_bipush O (v := (-2)) (pc := 6) (by decide) dX1_faultOf_6 ?_
  refine J_put O (pc := 8) in_X1_faultOf_X1 tyX1 tyX1_ok nmX1 0 rfl rfl 2 (by decide) mb_X1_faultOf_2 rfl rfl rfl (Nat.le_of_ble_eq_true rfl) [(j, .inr (1, [.ref jp, .int 0, .int (-2)])), (jp, .inl (cI, 60, .inl j_p)), (q, .inr (2, [.ref t, .int q_o, .int q_l])), (t, .inr (4, [.ref tb, .int t_l])), (tb, .inl (cB, t_n, .inl (b8 t_f)))] rfl dX1_faultOf_8 ?_
  refine J_aload_n O (i := 0) (k0 := 0) (pc := 11) 0 rfl rfl dX1_faultOf_11 ?_
  refine J_aload_n O (i := 1) (k0 := 1) (pc := 12) 1 rfl rfl dX1_faultOf_12 ?_
  obtain ⟨z13, h13, hf⟩ := jt_b hf
  refine J_callVi O (pc := 13) (c_X1_faultOfHead l D cB cI cJ j jp q t tb t_n 0 (-2) j_p q_o q_l t_l t_f fu h13) rfl 0 rfl rfl gX1_faultOf_X1_faultOfHead hdV_X1_faultOfHead ⟨(Nat.le_of_ble_eq_true rfl), (Nat.le_of_ble_eq_true rfl)⟩ rfl (st := []) rfl (Nat.le_of_ble_eq_true rfl) [0, 1, 2, 3, 4] [] rfl rfl rfl rfl rfl (by decide) [(j, .inr (1, [.ref jp, .int 0, .int z13.2])), (jp, .inl (cI, 60, .inl j_p)), (q, .inr (2, [.ref t, .int q_o, .int q_l])), (t, .inr (4, [.ref tb, .int t_l])), (tb, .inl (cB, t_n, .inl (b8 t_f)))] [0, 1, 2, 3, 4] rfl rfl rfl (0) (0) (Nat.le_of_ble_eq_true rfl) (Nat.le_of_ble_eq_true rfl) ⟨(Nat.le_of_ble_eq_true rfl), (Nat.le_of_ble_eq_true rfl)⟩ dX1_faultOf_13 ?_
  refine J_istore_n O (i := 2) (k0 := 2) (pc := 16) rfl [(2, .int z13.1), (0, .ref j), (1, .ref q)] (by decide) rfl dX1_faultOf_16 ?_
  refine J_iload_n O (i := 2) (k0 := 2) (pc := 17) 0 rfl rfl dX1_faultOf_17 ?_
  refine J_if_ne O (tgt := 27) (pc := 18) dX1_faultOf_18 (by decide) (fun c18 => ?_) (fun c18 => ?_)
  · have hf := jt_f c18 hf
    refine J_iload_n O (i := 2) (k0 := 2) (pc := 27) 0 rfl rfl dX1_faultOf_27 ?_
    refine J_if_ne O (tgt := 37) (pc := 28) dX1_faultOf_28 (by decide) (fun c28 => ?_) (fun c28 => ?_)
    · have hf := jt_f c28 hf
      refine J_iload_n O (i := 2) (k0 := 2) (pc := 37) 0 rfl rfl dX1_faultOf_37 ?_
      cases hf
      exact J_iret O (pc := 38) rfl dX1_faultOf_38
    · have hf := jt_t c28 hf
      refine J_aload_n O (i := 0) (k0 := 0) (pc := 31) 1 rfl rfl dX1_faultOf_31 ?_
      refine J_aload_n O (i := 1) (k0 := 1) (pc := 32) 2 rfl rfl dX1_faultOf_32 ?_
      obtain ⟨z33, h33, hf⟩ := jt_b hf
      refine J_callVi O (pc := 33) (c_X1_faultOfIndex l D cB cI cJ j jp q t tb t_n 0 z13.2 j_p q_o q_l t_l t_f fu h33) rfl 0 rfl rfl gX1_faultOf_X1_faultOfIndex hdV_X1_faultOfIndex ⟨(Nat.le_of_ble_eq_true rfl), (Nat.le_of_ble_eq_true rfl)⟩ rfl (st := []) rfl (Nat.le_of_ble_eq_true rfl) [0, 1, 2, 3, 4] [] rfl rfl rfl rfl rfl (by decide) [(j, .inr (1, [.ref jp, .int 0, .int z33.2])), (jp, .inl (cI, 60, .inl j_p)), (q, .inr (2, [.ref t, .int q_o, .int q_l])), (t, .inr (4, [.ref tb, .int t_l])), (tb, .inl (cB, t_n, .inl (b8 t_f)))] [0, 1, 2, 3, 4] rfl rfl rfl (0) (0) (Nat.le_of_ble_eq_true rfl) (Nat.le_of_ble_eq_true rfl) ⟨(Nat.le_of_ble_eq_true rfl), (Nat.le_of_ble_eq_true rfl)⟩ dX1_faultOf_33 ?_
      refine J_istore_n O (i := 2) (k0 := 2) (pc := 36) rfl [(2, .int z33.1), (0, .ref j), (1, .ref q)] (by decide) rfl dX1_faultOf_36 ?_
      refine J_iload_n O (i := 2) (k0 := 2) (pc := 37) 0 rfl rfl dX1_faultOf_37 ?_
      cases hf
      exact J_iret O (pc := 38) rfl dX1_faultOf_38
  · have hf := jt_t c18 hf
    refine J_aload_n O (i := 0) (k0 := 0) (pc := 21) 1 rfl rfl dX1_faultOf_21 ?_
    refine J_aload_n O (i := 1) (k0 := 1) (pc := 22) 2 rfl rfl dX1_faultOf_22 ?_
    obtain ⟨z23, h23, hf⟩ := jt_b hf
    refine J_callVi O (pc := 23) (c_X1_faultOfPieces l D cB cI cJ j jp q t tb t_n 0 z13.2 j_p q_o q_l t_l t_f fu h23) rfl 0 rfl rfl gX1_faultOf_X1_faultOfPieces hdV_X1_faultOfPieces ⟨(Nat.le_of_ble_eq_true rfl), (Nat.le_of_ble_eq_true rfl)⟩ rfl (st := []) rfl (Nat.le_of_ble_eq_true rfl) [0, 1, 2, 3, 4] [] rfl rfl rfl rfl rfl (by decide) [(j, .inr (1, [.ref jp, .int z23.2.1, .int z23.2.2.1])), (jp, .inl (cI, 60, .inl z23.2.2.2)), (q, .inr (2, [.ref t, .int q_o, .int q_l])), (t, .inr (4, [.ref tb, .int t_l])), (tb, .inl (cB, t_n, .inl (b8 t_f)))] [0, 1, 2, 3, 4] rfl rfl rfl (0) (0) (Nat.le_of_ble_eq_true rfl) (Nat.le_of_ble_eq_true rfl) ⟨(Nat.le_of_ble_eq_true rfl), (Nat.le_of_ble_eq_true rfl)⟩ dX1_faultOf_23 ?_
    refine J_istore_n O (i := 2) (k0 := 2) (pc := 26) rfl [(2, .int z23.1), (0, .ref j), (1, .ref q)] (by decide) rfl dX1_faultOf_26 ?_
    refine J_iload_n O (i := 2) (k0 := 2) (pc := 27) 0 rfl rfl dX1_faultOf_27 ?_
    refine J_if_ne O (tgt := 37) (pc := 28) dX1_faultOf_28 (by decide) (fun c28 => ?_) (fun c28 => ?_)
    · have hf := jt_f c28 hf
      refine J_iload_n O (i := 2) (k0 := 2) (pc := 37) 0 rfl rfl dX1_faultOf_37 ?_
      cases hf
      exact J_iret O (pc := 38) rfl dX1_faultOf_38
    · have hf := jt_t c28 hf
      refine J_aload_n O (i := 0) (k0 := 0) (pc := 31) 1 rfl rfl dX1_faultOf_31 ?_
      refine J_aload_n O (i := 1) (k0 := 1) (pc := 32) 2 rfl rfl dX1_faultOf_32 ?_
      obtain ⟨z33, h33, hf⟩ := jt_b hf
      refine J_callVi O (pc := 33) (c_X1_faultOfIndex l D cB cI cJ j jp q t tb t_n z23.2.1 z23.2.2.1 z23.2.2.2 q_o q_l t_l t_f fu h33) rfl 0 rfl rfl gX1_faultOf_X1_faultOfIndex hdV_X1_faultOfIndex ⟨(Nat.le_of_ble_eq_true rfl), (Nat.le_of_ble_eq_true rfl)⟩ rfl (st := []) rfl (Nat.le_of_ble_eq_true rfl) [0, 1, 2, 3, 4] [] rfl rfl rfl rfl rfl (by decide) [(j, .inr (1, [.ref jp, .int z23.2.1, .int z33.2])), (jp, .inl (cI, 60, .inl z23.2.2.2)), (q, .inr (2, [.ref t, .int q_o, .int q_l])), (t, .inr (4, [.ref tb, .int t_l])), (tb, .inl (cB, t_n, .inl (b8 t_f)))] [0, 1, 2, 3, 4] rfl rfl rfl (0) (0) (Nat.le_of_ble_eq_true rfl) (Nat.le_of_ble_eq_true rfl) ⟨(Nat.le_of_ble_eq_true rfl), (Nat.le_of_ble_eq_true rfl)⟩ dX1_faultOf_33 ?_
      refine J_istore_n O (i := 2) (k0 := 2) (pc := 36) rfl [(2, .int z33.1), (0, .ref j), (1, .ref q)] (by decide) rfl dX1_faultOf_36 ?_
      refine J_iload_n O (i := 2) (k0 := 2) (pc := 37) 0 rfl rfl dX1_faultOf_37 ?_
      cases hf
      exact J_iret O (pc := 38) rfl dX1_faultOf_38
theorem hdV_X0_empty : yX0_empty.cls = RX0 ∧ yX0_empty.cls ≠ "java/lang/invoke/MethodHandle" ∧ yX0_empty.cls ≠ "java/lang/invoke/VarHandle" ∧ (parseMethodDescriptor yX0_empty.desc).map (fun d => d.parameters.length) = some 0 := by decide +kernel
theorem in_X1_moveInto_X1 : ∀ w ∈ u_ws RX1 TX1 3, w ∈ wsX1_moveInto := fun _ h => List.mem_cons_of_mem _ (List.mem_append_left _ (List.mem_append_left _ (List.mem_append_left _ (List.mem_append_right _ h))))
theorem mb_X1_moveInto_1 : Cond.fieldLink RX1 15 (TX1 1).1 (TX1 1).2.1 (TX1 1).2.2.1 ∈ wsX1_moveInto := by decide +kernel
theorem hdV_X0_addEntry : yX0_addEntry.cls = RX0 ∧ yX0_addEntry.cls ≠ "java/lang/invoke/MethodHandle" ∧ yX0_addEntry.cls ≠ "java/lang/invoke/VarHandle" ∧ (parseMethodDescriptor yX0_addEntry.desc).map (fun d => d.parameters.length) = some 3 := by decide +kernel
theorem mb_X1_moveInto_2 : Cond.fieldLink RX1 9 (TX1 0).1 (TX1 0).2.1 (TX1 0).2.2.1 ∈ wsX1_moveInto := by decide +kernel
theorem in_X1_moveInto_X3 : ∀ w ∈ u_ws RX3 TX3 3, w ∈ wsX1_moveInto := fun _ h => List.mem_cons_of_mem _ (List.mem_append_left _ (List.mem_append_left _ (List.mem_append_right _ h)))
theorem mb_X1_moveInto_4 : Cond.classLink RX1 33 RX3 ∈ wsX1_moveInto := by decide +kernel
theorem mb_X1_moveInto_5 : Cond.instantiable RX3 3 ∈ wsX1_moveInto := by decide +kernel
theorem mb_X1_moveInto_6 : Cond.initialized RX3 ∈ wsX1_moveInto := by decide +kernel
theorem mb_X1_moveInto_7 : Cond.fieldLink RX1 90 (TX3 0).1 (TX3 0).2.1 (TX3 0).2.2.1 ∈ wsX1_moveInto := by decide +kernel
theorem mb_X1_moveInto_8 : Cond.fieldLink RX1 94 (TX3 1).1 (TX3 1).2.1 (TX3 1).2.2.1 ∈ wsX1_moveInto := by decide +kernel
theorem mb_X1_moveInto_9 : Cond.initialized yX3_init.cls ∈ wsX1_moveInto := by decide +kernel
theorem mb_X1_moveInto_10 : Cond.methodLink RX1 97 yX3_init ∈ wsX1_moveInto := by decide +kernel
theorem mb_X1_moveInto_11 : Cond.instanceMethod yX3_init ∈ wsX1_moveInto := by decide +kernel
theorem hdV_X0_addChunk : yX0_addChunk.cls = RX0 ∧ yX0_addChunk.cls ≠ "java/lang/invoke/MethodHandle" ∧ yX0_addChunk.cls ≠ "java/lang/invoke/VarHandle" ∧ (parseMethodDescriptor yX0_addChunk.desc).map (fun d => d.parameters.length) = some 2 := by decide +kernel
abbrev rmX1_moveInto : Room := { frames := 3, cells := 65, slots := 195, locals := 86 }
set_option maxHeartbeats 4000000 in
set_option maxRecDepth 100000 in
theorem wk_X1_moveInto_87 {X : JC} {l : Launch} {D : va_G} {cB cI cJ : ClassId} (O : Jo X (l, D, cB, cI, cJ) cX1_moveInto 7 RX1 wsX1_moveInto rmX1_moveInto none) (j jp h d db hk hs hu hn hg q t tb : Nat) (t_n : Nat) (j_c : Int32) (j_a : Int32) (j_p : Nat → Int32) (q_o : Int32) (q_l : Int32) (t_l : Int32) (t_f : Nat → Int8) (fu : Nat) {z : Int32 × Int32 × Int32 × (Nat → Int8) × (Nat → Int32) × (Nat → Int32) × (Nat → Int32) × (Nat → Int64) × (Nat → Int32)} : ∀ (fn : Nat) (v3 : Int64) (v5 : Int32) (h_c : Int32) (h_e : Int32) (d_l : Int32) (d_f : Nat → Int8) (h_k : Nat → Int32) (h_s : Nat → Int32) (h_u : Nat → Int32) (h_n : Nat → Int64) (h_g : Nat → Int32), p_X1_moveInto_87 fu t_n j_c j_p q_o q_l t_l t_f fn v3 v5 h_c h_e d_l d_f h_k h_s h_u h_n h_g = some z → J X 7 (JQv X [(j, .inr (1, [.ref jp, .int j_c, .int j_a])), (jp, .inl (cI, 60, .inl j_p)), (h, .inr (0, [.ref d, .ref hk, .ref hs, .int z.1, .ref hu, .ref hn, .ref hg, .int z.2.1])), (d, .inr (4, [.ref db, .int z.2.2.1])), (db, .inl (cB, 12000, .inl (b8 z.2.2.2.1))), (hk, .inl (cI, 60, .inl z.2.2.2.2.1)), (hs, .inl (cI, 61, .inl z.2.2.2.2.2.1)), (hu, .inl (cI, 40, .inl z.2.2.2.2.2.2.1)), (hn, .inl (cJ, 40, .inr (.inl z.2.2.2.2.2.2.2.1))), (hg, .inl (cI, 40, .inl z.2.2.2.2.2.2.2.2)), (q, .inr (2, [.ref t, .int q_o, .int q_l])), (t, .inr (4, [.ref tb, .int t_l])), (tb, .inl (cB, t_n, .inl (b8 t_f)))] 65 195) [(j, .inr (1, [.ref jp, .int j_c, .int j_a])), (jp, .inl (cI, 60, .inl j_p)), (h, .inr (0, [.ref d, .ref hk, .ref hs, .int h_c, .ref hu, .ref hn, .ref hg, .int h_e])), (d, .inr (4, [.ref db, .int d_l])), (db, .inl (cB, 12000, .inl (b8 d_f))), (hk, .inl (cI, 60, .inl h_k)), (hs, .inl (cI, 61, .inl h_s)), (hu, .inl (cI, 40, .inl h_u)), (hn, .inl (cJ, 40, .inr (.inl h_n))), (hg, .inl (cI, 40, .inl h_g)), (q, .inr (2, [.ref t, .int q_o, .int q_l])), (t, .inr (4, [.ref tb, .int t_l])), (tb, .inl (cB, t_n, .inl (b8 t_f)))] 64 192 87 [(0, .ref j), (1, .ref h), (2, .ref q), (3, .long v3), (5, .int v5)] [] := by
  intro fn
  induction fn with
  | zero =>
    intro v3 v5 h_c h_e d_l d_f h_k h_s h_u h_n h_g hf
    rw [p_X1_moveInto_87] at hf
    exact jt_n hf
  | succ fn ih =>
    intro v3 v5 h_c h_e d_l d_f h_k h_s h_u h_n h_g hf
    rw [p_X1_moveInto_87] at hf
    refine J_iload O (i := 5) (pc := 87) 4 rfl dX1_moveInto_87 ?_
    refine J_i2l O (pc := 89) dX1_moveInto_89 ?_
    refine J_lload_n O (i := 3) (k0 := 3) (pc := 90) 3 rfl rfl dX1_moveInto_90 ?_
    refine J_lif_ge O (tgt := 150) (pc := 91) dX1_moveInto_91 dX1_moveInto_92 (by decide) (fun c91 => ?_) (fun c91 => ?_)
    · have hf := jt_t c91 hf
      cases hf
      refine J_widen 65 195 (Nat.le_of_ble_eq_true rfl) (Nat.le_of_ble_eq_true rfl) ?_
      exact J_vret O (pc := 150) dX1_moveInto_150
    · have hf := jt_f c91 hf
      refine J_iload O (i := 5) (pc := 95) 4 rfl dX1_moveInto_95 ?_
      refine J_bipush O (v := 40) (pc := 97) (by decide) dX1_moveInto_97 ?_
      refine J_icmp_ge O (tgt := 150) (pc := 99) dX1_moveInto_99 (by decide) (fun c99 => ?_) (fun c99 => ?_)
      · have hf := jt_t c99 hf
        cases hf
        refine J_widen 65 195 (Nat.le_of_ble_eq_true rfl) (Nat.le_of_ble_eq_true rfl) ?_
        exact J_vret O (pc := 150) dX1_moveInto_150
      · have hf := jt_f c99 hf
        refine J_bipush O (v := 24) (pc := 102) (by decide) dX1_moveInto_102 ?_
        refine J_bipush O (v := 12) (pc := 104) (by decide) dX1_moveInto_104 ?_
        refine J_iload O (i := 5) (pc := 106) 4 rfl dX1_moveInto_106 ?_
        refine J_imul O (pc := 108) dX1_moveInto_108 ?_
        refine J_iadd O (pc := 109) dX1_moveInto_109 ?_
        refine J_istore O (i := 6) (pc := 110) [(6, .int (24 + (12 * v5))), (0, .ref j), (1, .ref h), (2, .ref q), (3, .long v3), (5, .int v5)] (by decide) rfl dX1_moveInto_110 ?_
        refine J_aload_n O (i := 1) (k0 := 1) (pc := 112) 2 rfl rfl dX1_moveInto_112 ?_
        refine J_aload_n O (i := 2) (k0 := 2) (pc := 113) 3 rfl rfl dX1_moveInto_113 ?_
        refine J_iload O (i := 6) (pc := 114) 0 rfl dX1_moveInto_114 ?_
        obtain ⟨z116, h116, hf⟩ := jt_b hf
        refine J_callVl O (pc := 116) (c_X3_u4 l D cB cI cJ q t tb t_n q_o q_l t_l t_f (24 + (12 * v5)) fu h116) rfl 0 rfl rfl gX1_moveInto_X3_u4 hdV_X3_u4 ⟨(Nat.le_of_ble_eq_true rfl), (Nat.le_of_ble_eq_true rfl)⟩ rfl (st := [.ref h]) rfl (Nat.le_of_ble_eq_true rfl) [10, 11, 12] [0, 1, 2, 3, 4, 5, 6, 7, 8, 9] rfl rfl rfl rfl rfl (by decide) [(j, .inr (1, [.ref jp, .int j_c, .int j_a])), (jp, .inl (cI, 60, .inl j_p)), (h, .inr (0, [.ref d, .ref hk, .ref hs, .int h_c, .ref hu, .ref hn, .ref hg, .int h_e])), (d, .inr (4, [.ref db, .int d_l])), (db, .inl (cB, 12000, .inl (b8 d_f))), (hk, .inl (cI, 60, .inl h_k)), (hs, .inl (cI, 61, .inl h_s)), (hu, .inl (cI, 40, .inl h_u)), (hn, .inl (cJ, 40, .inr (.inl h_n))), (hg, .inl (cI, 40, .inl h_g)), (q, .inr (2, [.ref t, .int q_o, .int q_l])), (t, .inr (4, [.ref tb, .int t_l])), (tb, .inl (cB, t_n, .inl (b8 t_f)))] [0, 1, 2, 3, 4, 5, 6, 7, 8, 9, 10, 11, 12] rfl rfl rfl (64) (192) (Nat.le_of_ble_eq_true rfl) (Nat.le_of_ble_eq_true rfl) ⟨(Nat.le_of_ble_eq_true rfl), (Nat.le_of_ble_eq_true rfl)⟩ dX1_moveInto_116 ?_
        refine J_l2i O (pc := 119) dX1_moveInto_119 ?_
        refine J_aload_n O (i := 2) (k0 := 2) (pc := 120) 3 rfl rfl dX1_moveInto_120 ?_
        refine J_iload O (i := 6) (pc := 121) 0 rfl dX1_moveInto_121 ?_
        refine J_iconst O (v := 4) (pc := 123) (by decide) dX1_moveInto_123 ?_
        refine J_iadd O (pc := 124) dX1_moveInto_124 ?_
        obtain ⟨z125, h125, hf⟩ := jt_b hf
        refine J_callVl O (pc := 125) (c_X3_u4 l D cB cI cJ q t tb t_n q_o q_l t_l t_f ((24 + (12 * v5)) + 4) fu h125) rfl 0 rfl rfl gX1_moveInto_X3_u4 hdV_X3_u4 ⟨(Nat.le_of_ble_eq_true rfl), (Nat.le_of_ble_eq_true rfl)⟩ rfl (st := [.int (Int64.toInt32 z116), .ref h]) rfl (Nat.le_of_ble_eq_true rfl) [10, 11, 12] [0, 1, 2, 3, 4, 5, 6, 7, 8, 9] rfl rfl rfl rfl rfl (by decide) [(j, .inr (1, [.ref jp, .int j_c, .int j_a])), (jp, .inl (cI, 60, .inl j_p)), (h, .inr (0, [.ref d, .ref hk, .ref hs, .int h_c, .ref hu, .ref hn, .ref hg, .int h_e])), (d, .inr (4, [.ref db, .int d_l])), (db, .inl (cB, 12000, .inl (b8 d_f))), (hk, .inl (cI, 60, .inl h_k)), (hs, .inl (cI, 61, .inl h_s)), (hu, .inl (cI, 40, .inl h_u)), (hn, .inl (cJ, 40, .inr (.inl h_n))), (hg, .inl (cI, 40, .inl h_g)), (q, .inr (2, [.ref t, .int q_o, .int q_l])), (t, .inr (4, [.ref tb, .int t_l])), (tb, .inl (cB, t_n, .inl (b8 t_f)))] [0, 1, 2, 3, 4, 5, 6, 7, 8, 9, 10, 11, 12] rfl rfl rfl (64) (192) (Nat.le_of_ble_eq_true rfl) (Nat.le_of_ble_eq_true rfl) ⟨(Nat.le_of_ble_eq_true rfl), (Nat.le_of_ble_eq_true rfl)⟩ dX1_moveInto_125 ?_
        refine J_aload_n O (i := 0) (k0 := 0) (pc := 128) 1 rfl rfl dX1_moveInto_128 ?_
        refine J_aload_n O (i := 2) (k0 := 2) (pc := 129) 3 rfl rfl dX1_moveInto_129 ?_
        refine J_iload O (i := 6) (pc := 130) 0 rfl dX1_moveInto_130 ?_
        refine J_bipush O (v := 8) (pc := 132) (by decide) dX1_moveInto_132 ?_
        refine J_iadd O (pc := 134) dX1_moveInto_134 ?_
        obtain ⟨z135, h135, hf⟩ := jt_b hf
        refine J_callVl O (pc := 135) (c_X3_u4 l D cB cI cJ q t tb t_n q_o q_l t_l t_f ((24 + (12 * v5)) + 8) fu h135) rfl 0 rfl rfl gX1_moveInto_X3_u4 hdV_X3_u4 ⟨(Nat.le_of_ble_eq_true rfl), (Nat.le_of_ble_eq_true rfl)⟩ rfl (st := [.ref j, .long z125, .int (Int64.toInt32 z116), .ref h]) rfl (Nat.le_of_ble_eq_true rfl) [10, 11, 12] [0, 1, 2, 3, 4, 5, 6, 7, 8, 9] rfl rfl rfl rfl rfl (by decide) [(j, .inr (1, [.ref jp, .int j_c, .int j_a])), (jp, .inl (cI, 60, .inl j_p)), (h, .inr (0, [.ref d, .ref hk, .ref hs, .int h_c, .ref hu, .ref hn, .ref hg, .int h_e])), (d, .inr (4, [.ref db, .int d_l])), (db, .inl (cB, 12000, .inl (b8 d_f))), (hk, .inl (cI, 60, .inl h_k)), (hs, .inl (cI, 61, .inl h_s)), (hu, .inl (cI, 40, .inl h_u)), (hn, .inl (cJ, 40, .inr (.inl h_n))), (hg, .inl (cI, 40, .inl h_g)), (q, .inr (2, [.ref t, .int q_o, .int q_l])), (t, .inr (4, [.ref tb, .int t_l])), (tb, .inl (cB, t_n, .inl (b8 t_f)))] [0, 1, 2, 3, 4, 5, 6, 7, 8, 9, 10, 11, 12] rfl rfl rfl (64) (192) (Nat.le_of_ble_eq_true rfl) (Nat.le_of_ble_eq_true rfl) ⟨(Nat.le_of_ble_eq_true rfl), (Nat.le_of_ble_eq_true rfl)⟩ dX1_moveInto_135 ?_
        obtain ⟨z138, h138, hf⟩ := jt_b hf
        refine J_callVi O (pc := 138) (c_X1_pieceAt l D cB cI cJ j jp j_c j_a j_p z135 fu h138) rfl 0 rfl rfl gX1_moveInto_X1_pieceAt hdV_X1_pieceAt ⟨(Nat.le_of_ble_eq_true rfl), (Nat.le_of_ble_eq_true rfl)⟩ rfl (st := [.long z125, .int (Int64.toInt32 z116), .ref h]) rfl (Nat.le_of_ble_eq_true rfl) [0, 1] [2, 3, 4, 5, 6, 7, 8, 9, 10, 11, 12] rfl rfl rfl rfl rfl (by decide) [(j, .inr (1, [.ref jp, .int j_c, .int j_a])), (jp, .inl (cI, 60, .inl j_p)), (h, .inr (0, [.ref d, .ref hk, .ref hs, .int h_c, .ref hu, .ref hn, .ref hg, .int h_e])), (d, .inr (4, [.ref db, .int d_l])), (db, .inl (cB, 12000, .inl (b8 d_f))), (hk, .inl (cI, 60, .inl h_k)), (hs, .inl (cI, 61, .inl h_s)), (hu, .inl (cI, 40, .inl h_u)), (hn, .inl (cJ, 40, .inr (.inl h_n))), (hg, .inl (cI, 40, .inl h_g)), (q, .inr (2, [.ref t, .int q_o, .int q_l])), (t, .inr (4, [.ref tb, .int t_l])), (tb, .inl (cB, t_n, .inl (b8 t_f)))] [11, 12, 0, 1, 2, 3, 4, 5, 6, 7, 8, 9, 10] rfl rfl rfl (64) (192) (Nat.le_of_ble_eq_true rfl) (Nat.le_of_ble_eq_true rfl) ⟨(Nat.le_of_ble_eq_true rfl), (Nat.le_of_ble_eq_true rfl)⟩ dX1_moveInto_138 ?_
        obtain ⟨z141, h141, hf⟩ := jt_b hf
        refine J_callVv O (pc := 141) (c_X0_addEntry l D cB cI cJ h d db hk hs hu hn hg h_c h_e d_l d_f h_k h_s h_u h_n h_g (Int64.toInt32 z116) z125 z138 h141) rfl 0 rfl rfl gX1_moveInto_X0_addEntry hdV_X0_addEntry ⟨(Nat.le_of_ble_eq_true rfl), (Nat.le_of_ble_eq_true rfl)⟩ rfl (st := []) rfl (Nat.le_of_ble_eq_true rfl) [2, 3, 4, 5, 6, 7, 8, 9] [0, 1, 10, 11, 12] rfl rfl rfl rfl rfl (by decide) [(j, .inr (1, [.ref jp, .int j_c, .int j_a])), (jp, .inl (cI, 60, .inl j_p)), (h, .inr (0, [.ref d, .ref hk, .ref hs, .int h_c, .ref hu, .ref hn, .ref hg, .int z141.1])), (d, .inr (4, [.ref db, .int d_l])), (db, .inl (cB, 12000, .inl (b8 d_f))), (hk, .inl (cI, 60, .inl h_k)), (hs, .inl (cI, 61, .inl h_s)), (hu, .inl (cI, 40, .inl z141.2.1)), (hn, .inl (cJ, 40, .inr (.inl z141.2.2.1))), (hg, .inl (cI, 40, .inl z141.2.2.2)), (q, .inr (2, [.ref t, .int q_o, .int q_l])), (t, .inr (4, [.ref tb, .int t_l])), (tb, .inl (cB, t_n, .inl (b8 t_f)))] [0, 1, 5, 6, 7, 8, 9, 10, 11, 12, 2, 3, 4] rfl rfl rfl (64) (192) (Nat.le_of_ble_eq_true rfl) (Nat.le_of_ble_eq_true rfl) ⟨(Nat.le_of_ble_eq_true rfl), (Nat.le_of_ble_eq_true rfl)⟩ dX1_moveInto_141 ?_
        refine J_iinc O (i := 5) (n := 1) (v := v5 + 1) (pc := 144) 5 rfl [(5, .int (v5 + 1)), (6, .int (24 + (12 * v5))), (0, .ref j), (1, .ref h), (2, .ref q), (3, .long v3)] (by decide) (congrArg (_ + ·) (by decide)) rfl dX1_moveInto_144 ?_
        refine J_goto O (tgt := 87) (pc := 147) dX1_moveInto_147 (by decide) ?_
        refine J_sub [2, 3, 4, 5, 0] (lv' := [(0, .ref j), (1, .ref h), (2, .ref q), (3, .long v3), (5, .int (v5 + 1))]) rfl ?_
        exact ih v3 (v5 + 1) h_c z141.1 d_l d_f h_k h_s z141.2.1 z141.2.2.1 z141.2.2.2 hf
set_option maxHeartbeats 4000000 in
set_option maxRecDepth 100000 in
theorem wk_X1_moveInto_6 {X : JC} {l : Launch} {D : va_G} {cB cI cJ : ClassId} (O : Jo X (l, D, cB, cI, cJ) cX1_moveInto 7 RX1 wsX1_moveInto rmX1_moveInto none) (j jp h d db hk hs hu hn hg q t tb : Nat) (t_n : Nat) (j_c : Int32) (j_a : Int32) (j_p : Nat → Int32) (q_o : Int32) (q_l : Int32) (t_l : Int32) (t_f : Nat → Int8) (fu : Nat) {z : Int32 × Int32 × Int32 × (Nat → Int8) × (Nat → Int32) × (Nat → Int32) × (Nat → Int32) × (Nat → Int64) × (Nat → Int32)} : ∀ (fn : Nat) (v3 : Int32) (h_c : Int32) (h_e : Int32) (d_l : Int32) (d_f : Nat → Int8) (h_k : Nat → Int32) (h_s : Nat → Int32) (h_u : Nat → Int32) (h_n : Nat → Int64) (h_g : Nat → Int32), fn ≤ 64 → p_X1_moveInto_6 fu t_n j_c j_p q_o q_l t_l t_f fn v3 h_c h_e d_l d_f h_k h_s h_u h_n h_g = some z → J X 7 (JQv X [(j, .inr (1, [.ref jp, .int j_c, .int j_a])), (jp, .inl (cI, 60, .inl j_p)), (h, .inr (0, [.ref d, .ref hk, .ref hs, .int z.1, .ref hu, .ref hn, .ref hg, .int z.2.1])), (d, .inr (4, [.ref db, .int z.2.2.1])), (db, .inl (cB, 12000, .inl (b8 z.2.2.2.1))), (hk, .inl (cI, 60, .inl z.2.2.2.2.1)), (hs, .inl (cI, 61, .inl z.2.2.2.2.2.1)), (hu, .inl (cI, 40, .inl z.2.2.2.2.2.2.1)), (hn, .inl (cJ, 40, .inr (.inl z.2.2.2.2.2.2.2.1))), (hg, .inl (cI, 40, .inl z.2.2.2.2.2.2.2.2)), (q, .inr (2, [.ref t, .int q_o, .int q_l])), (t, .inr (4, [.ref tb, .int t_l])), (tb, .inl (cB, t_n, .inl (b8 t_f)))] 65 195) [(j, .inr (1, [.ref jp, .int j_c, .int j_a])), (jp, .inl (cI, 60, .inl j_p)), (h, .inr (0, [.ref d, .ref hk, .ref hs, .int h_c, .ref hu, .ref hn, .ref hg, .int h_e])), (d, .inr (4, [.ref db, .int d_l])), (db, .inl (cB, 12000, .inl (b8 d_f))), (hk, .inl (cI, 60, .inl h_k)), (hs, .inl (cI, 61, .inl h_s)), (hu, .inl (cI, 40, .inl h_u)), (hn, .inl (cJ, 40, .inr (.inl h_n))), (hg, .inl (cI, 40, .inl h_g)), (q, .inr (2, [.ref t, .int q_o, .int q_l])), (t, .inr (4, [.ref tb, .int t_l])), (tb, .inl (cB, t_n, .inl (b8 t_f)))] (0 + 1 * (64 - fn)) (0 + 3 * (64 - fn)) 6 [(0, .ref j), (1, .ref h), (2, .ref q), (3, .int v3)] [] := by
  intro fn
  induction fn with
  | zero =>
    intro v3 h_c h_e d_l d_f h_k h_s h_u h_n h_g hfn hf
    rw [p_X1_moveInto_6] at hf
    exact jt_n hf
  | succ fn ih =>
    intro v3 h_c h_e d_l d_f h_k h_s h_u h_n h_g hfn hf
    rw [p_X1_moveInto_6] at hf
    refine J_iload_n O (i := 3) (k0 := 3) (pc := 6) 3 rfl rfl dX1_moveInto_6 ?_
    refine J_aload_n O (i := 0) (k0 := 0) (pc := 7) 0 rfl rfl dX1_moveInto_7 ?_
    refine J_get O (pc := 8) in_X1_moveInto_X1 0 rfl rfl 1 (by decide) mb_X1_moveInto_1 rfl dX1_moveInto_8 ?_
    refine J_icmp_ge O (tgt := 77) (pc := 11) dX1_moveInto_11 (by decide) (fun c11 => ?_) (fun c11 => ?_)
    · have hf := jt_t c11 hf
      refine J_widen 64 192 (by omega) (by omega) ?_
      refine J_aload_n O (i := 2) (k0 := 2) (pc := 77) 2 rfl rfl dX1_moveInto_77 ?_
      refine J_bipush O (v := 20) (pc := 78) (by decide) dX1_moveInto_78 ?_
      obtain ⟨z80, h80, hf⟩ := jt_b hf
      refine J_callVl O (pc := 80) (c_X3_u4 l D cB cI cJ q t tb t_n q_o q_l t_l t_f 20 fu h80) rfl 0 rfl rfl gX1_moveInto_X3_u4 hdV_X3_u4 ⟨(Nat.le_of_ble_eq_true rfl), (Nat.le_of_ble_eq_true rfl)⟩ rfl (st := []) rfl (Nat.le_of_ble_eq_true rfl) [10, 11, 12] [0, 1, 2, 3, 4, 5, 6, 7, 8, 9] rfl rfl rfl rfl rfl (by decide) [(j, .inr (1, [.ref jp, .int j_c, .int j_a])), (jp, .inl (cI, 60, .inl j_p)), (h, .inr (0, [.ref d, .ref hk, .ref hs, .int h_c, .ref hu, .ref hn, .ref hg, .int h_e])), (d, .inr (4, [.ref db, .int d_l])), (db, .inl (cB, 12000, .inl (b8 d_f))), (hk, .inl (cI, 60, .inl h_k)), (hs, .inl (cI, 61, .inl h_s)), (hu, .inl (cI, 40, .inl h_u)), (hn, .inl (cJ, 40, .inr (.inl h_n))), (hg, .inl (cI, 40, .inl h_g)), (q, .inr (2, [.ref t, .int q_o, .int q_l])), (t, .inr (4, [.ref tb, .int t_l])), (tb, .inl (cB, t_n, .inl (b8 t_f)))] [0, 1, 2, 3, 4, 5, 6, 7, 8, 9, 10, 11, 12] rfl rfl rfl (64) (192) (Nat.le_of_ble_eq_true rfl) (Nat.le_of_ble_eq_true rfl) ⟨(Nat.le_of_ble_eq_true rfl), (Nat.le_of_ble_eq_true rfl)⟩ dX1_moveInto_80 ?_
      refine J_lstore_n O (i := 3) (k0 := 3) (pc := 83) rfl [(3, .long z80), (0, .ref j), (1, .ref h), (2, .ref q)] (by decide) rfl dX1_moveInto_83 ?_
      refine J_iconst O (v := 0) (pc := 84) (by decide) dX1_moveInto_84 ?_
      refine J_istore O (i := 5) (pc := 85) [(5, .int 0), (3, .long z80), (0, .ref j), (1, .ref h), (2, .ref q)] (by decide) rfl dX1_moveInto_85 ?_
      refine J_sub [2, 3, 4, 1, 0] (lv' := [(0, .ref j), (1, .ref h), (2, .ref q), (3, .long z80), (5, .int 0)]) rfl ?_
      exact wk_X1_moveInto_87 O j jp h d db hk hs hu hn hg q t tb t_n j_c j_a j_p q_o q_l t_l t_f fu fu z80 0 h_c h_e d_l d_f h_k h_s h_u h_n h_g hf
    · have hf := jt_f c11 hf
      refine J_aload_n O (i := 0) (k0 := 0) (pc := 14) 0 rfl rfl dX1_moveInto_14 ?_
      refine J_get O (pc := 15) in_X1_moveInto_X1 0 rfl rfl 0 (by decide) mb_X1_moveInto_2 rfl dX1_moveInto_15 ?_
      refine J_iload_n O (i := 3) (k0 := 3) (pc := 18) 3 rfl rfl dX1_moveInto_18 ?_
      obtain ⟨h19, hf⟩ := jt_g hf
      refine J_iald O (pc := 19) 1 1 rfl rfl h19 dX1_moveInto_19 ?_
      refine J_istore O (i := 4) (pc := 20) [(4, .int (j_p (Int32.toNatClampNeg v3))), (0, .ref j), (1, .ref h), (2, .ref q), (3, .int v3)] (by decide) rfl dX1_moveInto_20 ?_
      refine J_aload_n O (i := 2) (k0 := 2) (pc := 22) 3 rfl rfl dX1_moveInto_22 ?_
      refine J_iload O (i := 4) (pc := 23) 0 rfl dX1_moveInto_23 ?_
      refine J_iconst O (v := 4) (pc := 25) (by decide) dX1_moveInto_25 ?_
      refine J_iadd O (pc := 26) dX1_moveInto_26 ?_
      obtain ⟨z27, h27, hf⟩ := jt_b hf
      refine J_callVl O (pc := 27) (c_X3_u4 l D cB cI cJ q t tb t_n q_o q_l t_l t_f ((j_p (Int32.toNatClampNeg v3)) + 4) fu h27) rfl 0 rfl rfl gX1_moveInto_X3_u4 hdV_X3_u4 ⟨(Nat.le_of_ble_eq_true rfl), (Nat.le_of_ble_eq_true rfl)⟩ rfl (st := []) rfl (Nat.le_of_ble_eq_true rfl) [10, 11, 12] [0, 1, 2, 3, 4, 5, 6, 7, 8, 9] rfl rfl rfl rfl rfl (by decide) [(j, .inr (1, [.ref jp, .int j_c, .int j_a])), (jp, .inl (cI, 60, .inl j_p)), (h, .inr (0, [.ref d, .ref hk, .ref hs, .int h_c, .ref hu, .ref hn, .ref hg, .int h_e])), (d, .inr (4, [.ref db, .int d_l])), (db, .inl (cB, 12000, .inl (b8 d_f))), (hk, .inl (cI, 60, .inl h_k)), (hs, .inl (cI, 61, .inl h_s)), (hu, .inl (cI, 40, .inl h_u)), (hn, .inl (cJ, 40, .inr (.inl h_n))), (hg, .inl (cI, 40, .inl h_g)), (q, .inr (2, [.ref t, .int q_o, .int q_l])), (t, .inr (4, [.ref tb, .int t_l])), (tb, .inl (cB, t_n, .inl (b8 t_f)))] [0, 1, 2, 3, 4, 5, 6, 7, 8, 9, 10, 11, 12] rfl rfl rfl (0 + 1 * (64 - (fn + 1))) (0 + 3 * (64 - (fn + 1))) (by simp only [rmX3_u4]; omega) (by simp only [rmX3_u4]; omega) ⟨by simp only [rmX1_moveInto]; omega, by simp only [rmX1_moveInto]; omega⟩ dX1_moveInto_27 ?_
      refine J_l2i O (pc := 30) dX1_moveInto_30 ?_
      refine J_istore O (i := 5) (pc := 31) [(5, .int (Int64.toInt32 z27)), (4, .int (j_p (Int32.toNatClampNeg v3))), (0, .ref j), (1, .ref h), (2, .ref q), (3, .int v3)] (by decide) rfl dX1_moveInto_31 ?_
      refine J_new O (pc := 33) in_X1_moveInto_X3 tyX3 tyX3_ok mb_X1_moveInto_4 mb_X1_moveInto_5 mb_X1_moveInto_6 rfl [.null, .int 0, .int 0] fs_X3 (by show _ ≤ (_ : Nat); simp only [rmX1_moveInto]; omega) (by show _ ≤ (_ : Nat); simp only [rmX1_moveInto]; omega) (fun q33 => [(j, .inr (1, [.ref jp, .int j_c, .int j_a])), (jp, .inl (cI, 60, .inl j_p)), (h, .inr (0, [.ref d, .ref hk, .ref hs, .int h_c, .ref hu, .ref hn, .ref hg, .int h_e])), (d, .inr (4, [.ref db, .int d_l])), (db, .inl (cB, 12000, .inl (b8 d_f))), (hk, .inl (cI, 60, .inl h_k)), (hs, .inl (cI, 61, .inl h_s)), (hu, .inl (cI, 40, .inl h_u)), (hn, .inl (cJ, 40, .inr (.inl h_n))), (hg, .inl (cI, 40, .inl h_g)), (q, .inr (2, [.ref t, .int q_o, .int q_l])), (t, .inr (4, [.ref tb, .int t_l])), (tb, .inl (cB, t_n, .inl (b8 t_f))), (q33, .inr (2, [.null, .int 0, .int 0]))]) (fun _ => rfl) (1 + 1 * (64 - (fn + 1))) (3 + 3 * (64 - (fn + 1))) (by omega) (by omega) dX1_moveInto_33 (fun q33 => ?_)
      refine J_dup O (pc := 36) rfl dX1_moveInto_36 ?_
      refine J_aload_n O (i := 2) (k0 := 2) (pc := 37) 4 rfl rfl dX1_moveInto_37 ?_
      refine J_get O (pc := 38) in_X1_moveInto_X3 10 rfl rfl 0 (by decide) mb_X1_moveInto_7 rfl dX1_moveInto_38 ?_
      refine J_aload_n O (i := 2) (k0 := 2) (pc := 41) 4 rfl rfl dX1_moveInto_41 ?_
      refine J_get O (pc := 42) in_X1_moveInto_X3 10 rfl rfl 1 (by decide) mb_X1_moveInto_8 rfl dX1_moveInto_42 ?_
      refine J_iload O (i := 4) (pc := 45) 1 rfl dX1_moveInto_45 ?_
      refine J_iadd O (pc := 47) dX1_moveInto_47 ?_
      refine J_bipush O (v := 8) (pc := 48) (by decide) dX1_moveInto_48 ?_
      refine J_iadd O (pc := 50) dX1_moveInto_50 ?_
      refine J_iload O (i := 5) (pc := 51) 0 rfl dX1_moveInto_51 ?_
      obtain ⟨z53, h53, hf⟩ := jt_b hf
      refine J_callIv O (pc := 53) (ret' := none) (c_X3_init l D cB cI cJ q33 t tb t_n t_l t_f ((q_o + (j_p (Int32.toNatClampNeg v3))) + 8) (Int64.toInt32 z27) h53) rfl gX1_moveInto_X3_init mb_X1_moveInto_9 mb_X1_moveInto_10 mb_X1_moveInto_11 rfl hdS_X3_init ⟨(Nat.le_of_ble_eq_true rfl), (Nat.le_of_ble_eq_true rfl)⟩ rfl (st := [.ref q33]) rfl (Nat.le_of_ble_eq_true rfl) [13, 11, 12] [0, 1, 2, 3, 4, 5, 6, 7, 8, 9, 10] rfl rfl rfl rfl rfl (by decide) [(j, .inr (1, [.ref jp, .int j_c, .int j_a])), (jp, .inl (cI, 60, .inl j_p)), (h, .inr (0, [.ref d, .ref hk, .ref hs, .int h_c, .ref hu, .ref hn, .ref hg, .int h_e])), (d, .inr (4, [.ref db, .int d_l])), (db, .inl (cB, 12000, .inl (b8 d_f))), (hk, .inl (cI, 60, .inl h_k)), (hs, .inl (cI, 61, .inl h_s)), (hu, .inl (cI, 40, .inl h_u)), (hn, .inl (cJ, 40, .inr (.inl h_n))), (hg, .inl (cI, 40, .inl h_g)), (q, .inr (2, [.ref t, .int q_o, .int q_l])), (t, .inr (4, [.ref tb, .int t_l])), (tb, .inl (cB, t_n, .inl (b8 t_f))), (q33, .inr (2, [.ref t, .int z53.1, .int z53.2]))] [0, 1, 2, 3, 4, 5, 6, 7, 8, 9, 10, 12, 13, 11] rfl rfl rfl (1 + 1 * (64 - (fn + 1))) (3 + 3 * (64 - (fn + 1))) (by simp only [rmX3_init]; omega) (by simp only [rmX3_init]; omega) ⟨by simp only [rmX1_moveInto]; omega, by simp only [rmX1_moveInto]; omega⟩ dX1_moveInto_53 ?_
      refine J_astore O (i := 6) (pc := 56) [(6, .ref q33), (5, .int (Int64.toInt32 z27)), (4, .int (j_p (Int32.toNatClampNeg v3))), (0, .ref j), (1, .ref h), (2, .ref q), (3, .int v3)] (by decide) rfl dX1_moveInto_56 ?_
      refine J_aload_n O (i := 1) (k0 := 1) (pc := 58) 4 rfl rfl dX1_moveInto_58 ?_
      refine J_aload_n O (i := 2) (k0 := 2) (pc := 59) 5 rfl rfl dX1_moveInto_59 ?_
      refine J_iload O (i := 4) (pc := 60) 2 rfl dX1_moveInto_60 ?_
      obtain ⟨z62, h62, hf⟩ := jt_b hf
      refine J_callVl O (pc := 62) (c_X3_u4 l D cB cI cJ q t tb t_n q_o q_l t_l t_f (j_p (Int32.toNatClampNeg v3)) fu h62) rfl 0 rfl rfl gX1_moveInto_X3_u4 hdV_X3_u4 ⟨(Nat.le_of_ble_eq_true rfl), (Nat.le_of_ble_eq_true rfl)⟩ rfl (st := [.ref h]) rfl (Nat.le_of_ble_eq_true rfl) [10, 11, 12] [0, 1, 2, 3, 4, 5, 6, 7, 8, 9, 13] rfl rfl rfl rfl rfl (by decide) [(j, .inr (1, [.ref jp, .int j_c, .int j_a])), (jp, .inl (cI, 60, .inl j_p)), (h, .inr (0, [.ref d, .ref hk, .ref hs, .int h_c, .ref hu, .ref hn, .ref hg, .int h_e])), (d, .inr (4, [.ref db, .int d_l])), (db, .inl (cB, 12000, .inl (b8 d_f))), (hk, .inl (cI, 60, .inl h_k)), (hs, .inl (cI, 61, .inl h_s)), (hu, .inl (cI, 40, .inl h_u)), (hn, .inl (cJ, 40, .inr (.inl h_n))), (hg, .inl (cI, 40, .inl h_g)), (q, .inr (2, [.ref t, .int q_o, .int q_l])), (t, .inr (4, [.ref tb, .int t_l])), (tb, .inl (cB, t_n, .inl (b8 t_f))), (q33, .inr (2, [.ref t, .int z53.1, .int z53.2]))] [0, 1, 2, 3, 4, 5, 6, 7, 8, 9, 11, 12, 13, 10] rfl rfl rfl (1 + 1 * (64 - (fn + 1))) (3 + 3 * (64 - (fn + 1))) (by simp only [rmX3_u4]; omega) (by simp only [rmX3_u4]; omega) ⟨by simp only [rmX1_moveInto]; omega, by simp only [rmX1_moveInto]; omega⟩ dX1_moveInto_62 ?_
      refine J_l2i O (pc := 65) dX1_moveInto_65 ?_
      refine J_aload O (i := 6) (pc := 66) 0 rfl dX1_moveInto_66 ?_
      obtain ⟨z68, h68, hf⟩ := jt_b hf
      refine J_callVv O (pc := 68) (c_X0_addChunk l D cB cI cJ h d db hk hs hu hn hg q33 t tb t_n h_c h_e d_l d_f h_k h_s h_u h_n h_g z53.1 z53.2 t_l t_f (Int64.toInt32 z62) h68) rfl 0 rfl rfl gX1_moveInto_X0_addChunk hdV_X0_addChunk ⟨(Nat.le_of_ble_eq_true rfl), (Nat.le_of_ble_eq_true rfl)⟩ rfl (st := []) rfl (Nat.le_of_ble_eq_true rfl) [2, 3, 4, 5, 6, 7, 8, 9, 13, 11, 12] [0, 1, 10] rfl rfl rfl rfl rfl (by decide) [(j, .inr (1, [.ref jp, .int j_c, .int j_a])), (jp, .inl (cI, 60, .inl j_p)), (h, .inr (0, [.ref d, .ref hk, .ref hs, .int z68.1, .ref hu, .ref hn, .ref hg, .int h_e])), (d, .inr (4, [.ref db, .int z68.2.1])), (db, .inl (cB, 12000, .inl (b8 z68.2.2.1))), (hk, .inl (cI, 60, .inl z68.2.2.2.1)), (hs, .inl (cI, 61, .inl z68.2.2.2.2)), (hu, .inl (cI, 40, .inl h_u)), (hn, .inl (cJ, 40, .inr (.inl h_n))), (hg, .inl (cI, 40, .inl h_g)), (q, .inr (2, [.ref t, .int q_o, .int q_l])), (t, .inr (4, [.ref tb, .int t_l])), (tb, .inl (cB, t_n, .inl (b8 t_f))), (q33, .inr (2, [.ref t, .int z53.1, .int z53.2]))] [0, 1, 3, 4, 5, 6, 7, 8, 9, 10, 2, 12, 13, 11] rfl rfl rfl (1 + 1 * (64 - (fn + 1))) (3 + 3 * (64 - (fn + 1))) (by simp only [rmX0_addChunk]; omega) (by simp only [rmX0_addChunk]; omega) ⟨by simp only [rmX1_moveInto]; omega, by simp only [rmX1_moveInto]; omega⟩ dX1_moveInto_68 ?_
      refine J_iinc O (i := 3) (n := 1) (v := v3 + 1) (pc := 71) 6 rfl [(3, .int (v3 + 1)), (6, .ref q33), (5, .int (Int64.toInt32 z27)), (4, .int (j_p (Int32.toNatClampNeg v3))), (0, .ref j), (1, .ref h), (2, .ref q)] (by decide) (congrArg (_ + ·) (by decide)) rfl dX1_moveInto_71 ?_
      refine J_goto O (tgt := 6) (pc := 74) dX1_moveInto_74 (by decide) ?_
      refine J_wsub [0, 1, 2, 3, 4, 5, 6, 7, 8, 9, 10, 11, 12] [(j, .inr (1, [.ref jp, .int j_c, .int j_a])), (jp, .inl (cI, 60, .inl j_p)), (h, .inr (0, [.ref d, .ref hk, .ref hs, .int z68.1, .ref hu, .ref hn, .ref hg, .int h_e])), (d, .inr (4, [.ref db, .int z68.2.1])), (db, .inl (cB, 12000, .inl (b8 z68.2.2.1))), (hk, .inl (cI, 60, .inl z68.2.2.2.1)), (hs, .inl (cI, 61, .inl z68.2.2.2.2)), (hu, .inl (cI, 40, .inl h_u)), (hn, .inl (cJ, 40, .inr (.inl h_n))), (hg, .inl (cI, 40, .inl h_g)), (q, .inr (2, [.ref t, .int q_o, .int q_l])), (t, .inr (4, [.ref tb, .int t_l])), (tb, .inl (cB, t_n, .inl (b8 t_f)))] rfl rfl rfl ?_
      refine J_sub [4, 5, 6, 0] (lv' := [(0, .ref j), (1, .ref h), (2, .ref q), (3, .int (v3 + 1))]) rfl ?_
      refine J_widen (0 + 1 * (64 - fn)) (0 + 3 * (64 - fn)) (by omega) (by omega) ?_
      exact ih (v3 + 1) z68.1 h_e z68.2.1 z68.2.2.1 z68.2.2.2.1 z68.2.2.2.2 h_u h_n h_g (by omega) hf
set_option maxHeartbeats 4000000 in
set_option maxRecDepth 100000 in
theorem c_X1_moveInto (l : Launch) (D : va_G) (cB cI cJ : ClassId) (j jp h d db hk hs hu hn hg q t tb t_n : Nat) (j_c : Int32) (j_a : Int32) (j_p : Nat → Int32) (h_c : Int32) (h_e : Int32) (d_l : Int32) (d_f : Nat → Int8) (h_k : Nat → Int32) (h_s : Nat → Int32) (h_u : Nat → Int32) (h_n : Nat → Int64) (h_g : Nat → Int32) (q_o : Int32) (q_l : Int32) (t_l : Int32) (t_f : Nat → Int8) (fu : Nat) {z : Int32 × Int32 × Int32 × (Nat → Int8) × (Nat → Int32) × (Nat → Int32) × (Nat → Int32) × (Nat → Int64) × (Nat → Int32)} (hf : p_X1_moveInto fu t_n j_c j_p h_c h_e d_l d_f h_k h_s h_u h_n h_g q_o q_l t_l t_f = some z) : Cv (l, D, cB, cI, cJ) yX1_moveInto wsX1_moveInto rmX1_moveInto [.ref j, .ref h, .ref q] [(j, .inr (1, [.ref jp, .int j_c, .int j_a])), (jp, .inl (cI, 60, .inl j_p)), (h, .inr (0, [.ref d, .ref hk, .ref hs, .int h_c, .ref hu, .ref hn, .ref hg, .int h_e])), (d, .inr (4, [.ref db, .int d_l])), (db, .inl (cB, 12000, .inl (b8 d_f))), (hk, .inl (cI, 60, .inl h_k)), (hs, .inl (cI, 61, .inl h_s)), (hu, .inl (cI, 40, .inl h_u)), (hn, .inl (cJ, 40, .inr (.inl h_n))), (hg, .inl (cI, 40, .inl h_g)), (q, .inr (2, [.ref t, .int q_o, .int q_l])), (t, .inr (4, [.ref tb, .int t_l])), (tb, .inl (cB, t_n, .inl (b8 t_f)))] [(j, .inr (1, [.ref jp, .int j_c, .int j_a])), (jp, .inl (cI, 60, .inl j_p)), (h, .inr (0, [.ref d, .ref hk, .ref hs, .int z.1, .ref hu, .ref hn, .ref hg, .int z.2.1])), (d, .inr (4, [.ref db, .int z.2.2.1])), (db, .inl (cB, 12000, .inl (b8 z.2.2.2.1))), (hk, .inl (cI, 60, .inl z.2.2.2.2.1)), (hs, .inl (cI, 61, .inl z.2.2.2.2.2.1)), (hu, .inl (cI, 40, .inl z.2.2.2.2.2.2.1)), (hn, .inl (cJ, 40, .inr (.inl z.2.2.2.2.2.2.2.1))), (hg, .inl (cI, 40, .inl z.2.2.2.2.2.2.2.2)), (q, .inr (2, [.ref t, .int q_o, .int q_l])), (t, .inr (4, [.ref tb, .int t_l])), (tb, .inl (cB, t_n, .inl (b8 t_f)))] := by
  refine Cv_of (cc := cX1_moveInto) (nL := 7) (own := RX1) (ret := none) (by decide) rfl rfl (Nat.le_of_ble_eq_true rfl) (fun X O hnm0 => ?_)
  rw [p_X1_moveInto] at hf
  show J X 7 (JQv X [(j, .inr (1, [.ref jp, .int j_c, .int j_a])), (jp, .inl (cI, 60, .inl j_p)), (h, .inr (0, [.ref d, .ref hk, .ref hs, .int z.1, .ref hu, .ref hn, .ref hg, .int z.2.1])), (d, .inr (4, [.ref db, .int z.2.2.1])), (db, .inl (cB, 12000, .inl (b8 z.2.2.2.1))), (hk, .inl (cI, 60, .inl z.2.2.2.2.1)), (hs, .inl (cI, 61, .inl z.2.2.2.2.2.1)), (hu, .inl (cI, 40, .inl z.2.2.2.2.2.2.1)), (hn, .inl (cJ, 40, .inr (.inl z.2.2.2.2.2.2.2.1))), (hg, .inl (cI, 40, .inl z.2.2.2.2.2.2.2.2)), (q, .inr (2, [.ref t, .int q_o, .int q_l])), (t, .inr (4, [.ref tb, .int t_l])), (tb, .inl (cB, t_n, .inl (b8 t_f)))] 65 195) [(j, .inr (1, [.ref jp, .int j_c, .int j_a])), (jp, .inl (cI, 60, .inl j_p)), (h, .inr (0, [.ref d, .ref hk, .ref hs, .int h_c, .ref hu, .ref hn, .ref hg, .int h_e])), (d, .inr (4, [.ref db, .int d_l])), (db, .inl (cB, 12000, .inl (b8 d_f))), (hk, .inl (cI, 60, .inl h_k)), (hs, .inl (cI, 61, .inl h_s)), (hu, .inl (cI, 40, .inl h_u)), (hn, .inl (cJ, 40, .inr (.inl h_n))), (hg, .inl (cI, 40, .inl h_g)), (q, .inr (2, [.ref t, .int q_o, .int q_l])), (t, .inr (4, [.ref tb, .int t_l])), (tb, .inl (cB, t_n, .inl (b8 t_f)))] 0 0 0 [(0, .ref j), (1, .ref h), (2, .ref q)] []
  refine J_aload_n O (i := 1) (k0 := 1) (pc := 0) 1 rfl rfl dX1_moveInto_0 ?_
  obtain ⟨z1, h1, hf⟩ := jt_b hf
  refine J_callVv O (pc := 1) (c_X0_empty l D cB cI cJ h d db hk hs hu hn hg h_c h_e d_l d_f h_k h_s h_u h_n h_g h1) rfl 0 rfl rfl gX1_moveInto_X0_empty hdV_X0_empty ⟨(Nat.le_of_ble_eq_true rfl), (Nat.le_of_ble_eq_true rfl)⟩ rfl (st := []) rfl (Nat.le_of_ble_eq_true rfl) [2, 3, 4, 5, 6, 7, 8, 9] [0, 1, 10, 11, 12] rfl rfl rfl rfl rfl (by decide) [(j, .inr (1, [.ref jp, .int j_c, .int j_a])), (jp, .inl (cI, 60, .inl j_p)), (h, .inr (0, [.ref d, .ref hk, .ref hs, .int z1.1, .ref hu, .ref hn, .ref hg, .int z1.2.1])), (d, .inr (4, [.ref db, .int z1.2.2])), (db, .inl (cB, 12000, .inl (b8 d_f))), (hk, .inl (cI, 60, .inl h_k)), (hs, .inl (cI, 61, .inl h_s)), (hu, .inl (cI, 40, .inl h_u)), (hn, .inl (cJ, 40, .inr (.inl h_n))), (hg, .inl (cI, 40, .inl h_g)), (q, .inr (2, [.ref t, .int q_o, .int q_l])), (t, .inr (4, [.ref tb, .int t_l])), (tb, .inl (cB, t_n, .inl (b8 t_f)))] [0, 1, 5, 6, 7, 8, 9, 10, 11, 12, 2, 3, 4] rfl rfl rfl (0) (0) (Nat.le_of_ble_eq_true rfl) (Nat.le_of_ble_eq_true rfl) ⟨(Nat.le_of_ble_eq_true rfl), (Nat.le_of_ble_eq_true rfl)⟩ dX1_moveInto_1 ?_
  refine J_iconst O (v := 0) (pc := 4) (by decide) dX1_moveInto_4 ?_
  refine J_istore_n O (i := 3) (k0 := 3) (pc := 5) rfl [(3, .int 0), (0, .ref j), (1, .ref h), (2, .ref q)] (by decide) rfl dX1_moveInto_5 ?_
  refine J_sub [1, 2, 3, 0] (lv' := [(0, .ref j), (1, .ref h), (2, .ref q), (3, .int 0)]) rfl ?_
  refine J_widen (0 + 1 * (64 - 64)) (0 + 3 * (64 - 64)) (Nat.le_of_ble_eq_true rfl) (Nat.le_of_ble_eq_true rfl) ?_
  exact wk_X1_moveInto_6 O j jp h d db hk hs hu hn hg q t tb t_n j_c j_a j_p q_o q_l t_l t_f fu 64 0 z1.1 z1.2.1 z1.2.2 d_f h_k h_s h_u h_n h_g (by decide) hf
