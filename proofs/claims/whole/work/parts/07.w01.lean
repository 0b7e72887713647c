theorem hdS_X2_isLetter : yX2_isLetter.cls ≠ "java/lang/invoke/MethodHandle" ∧ yX2_isLetter.cls ≠ "java/lang/invoke/VarHandle" ∧ (parseMethodDescriptor yX2_isLetter.desc).map (fun d => d.parameters.length) = some 1 := by decide +kernel
abbrev rmX2_isKind : Room := { frames := 1, cells := 0, slots := 0, locals := 20 }
set_option maxHeartbeats 4000000 in
set_option maxRecDepth 100000 in
theorem c_X2_isKind (l : Launch) (D : va_G) (cB cI cJ : ClassId)  (a0 : Int32) {z : Bool} (hf : p_X2_isKind a0 = some z) : Ci (l, D, cB, cI, cJ) yX2_isKind wsX2_isKind rmX2_isKind [.int a0] [] [] (bI z) := by
  refine Ci_of (cc := cX2_isKind) (nL := 1) (own := RX2) (ret := (some .boolean)) (by decide) rfl rfl (Nat.le_of_ble_eq_true rfl) (fun X O hnm0 => ?_)
  rw [p_X2_isKind] at hf
  show J X 1 (JQi X [] (bI z) 0 0) [] 0 0 0 [(0, .int a0)] []
  refine J_iload_n O (i := 0) (k0 := 0) (pc := 0) 0 rfl rfl dX2_isKind_0 ?_
  refine J_bipush O (v := 24) (pc := 1) (by decide) dX2_isKind_1 ?_
  refine J_iushr O (pc := 3) dX2_isKind_3 ?_
  obtain ⟨z4, h4, hf⟩ := jt_b hf
  refine J_callSi O (pc := 4) (c_X2_isLetter l D cB cI cJ ((a0.toUInt32 >>> ((24 : Int32).toUInt32 &&& Int32.toUInt32 31)).toInt32) h4) rfl gX2_isKind_X2_isLetter hdS_X2_isLetter ⟨(Nat.le_of_ble_eq_true rfl), (Nat.le_of_ble_eq_true rfl)⟩ rfl (st := []) rfl (Nat.le_of_ble_eq_true rfl) [] [] rfl rfl rfl rfl rfl (by decide) [] [] rfl rfl rfl (0) (0) (Nat.le_of_ble_eq_true rfl) (Nat.le_of_ble_eq_true rfl) ⟨(Nat.le_of_ble_eq_true rfl), (Nat.le_of_ble_eq_true rfl)⟩ dX2_isKind_4 ?_
  refine J_zeq O (tgt := 53) (pc := 7) dX2_isKind_7 (by decide) (fun c7 => ?_) (fun c7 => ?_)
  · have hf := jt_f c7 hf
    refine J_iconst O (v := 0) (pc := 53) (by decide) dX2_isKind_53 ?_
    cases hf
    exact J_zret O (pc := 54) rfl dX2_isKind_54
  · have hf := jt_t c7 hf
    refine J_iload_n O (i := 0) (k0 := 0) (pc := 10) 0 rfl rfl dX2_isKind_10 ?_
    refine J_bipush O (v := 16) (pc := 11) (by decide) dX2_isKind_11 ?_
    refine J_iushr O (pc := 13) dX2_isKind_13 ?_
    refine J_sipush O (v := 255) (pc := 14) (by decide) dX2_isKind_14 ?_
    refine J_iand O (pc := 17) dX2_isKind_17 ?_
    obtain ⟨z18, h18, hf⟩ := jt_b hf
    refine J_callSi O (pc := 18) (c_X2_isLetter l D cB cI cJ (((a0.toUInt32 >>> ((16 : Int32).toUInt32 &&& Int32.toUInt32 31)).toInt32) &&& 255) h18) rfl gX2_isKind_X2_isLetter hdS_X2_isLetter ⟨(Nat.le_of_ble_eq_true rfl), (Nat.le_of_ble_eq_true rfl)⟩ rfl (st := []) rfl (Nat.le_of_ble_eq_true rfl) [] [] rfl rfl rfl rfl rfl (by decide) [] [] rfl rfl rfl (0) (0) (Nat.le_of_ble_eq_true rfl) (Nat.le_of_ble_eq_true rfl) ⟨(Nat.le_of_ble_eq_true rfl), (Nat.le_of_ble_eq_true rfl)⟩ dX2_isKind_18 ?_
    refine J_zeq O (tgt := 53) (pc := 21) dX2_isKind_21 (by decide) (fun c21 => ?_) (fun c21 => ?_)
    · have hf := jt_f c21 hf
      refine J_iconst O (v := 0) (pc := 53) (by decide) dX2_isKind_53 ?_
      cases hf
      exact J_zret O (pc := 54) rfl dX2_isKind_54
    · have hf := jt_t c21 hf
      refine J_iload_n O (i := 0) (k0 := 0) (pc := 24) 0 rfl rfl dX2_isKind_24 ?_
      refine J_bipush O (v := 8) (pc := 25) (by decide) dX2_isKind_25 ?_
      refine J_iushr O (pc := 27) dX2_isKind_27 ?_
      refine J_sipush O (v := 255) (pc := 28) (by decide) dX2_isKind_28 ?_
      refine J_iand O (pc := 31) dX2_isKind_31 ?_
      obtain ⟨z32, h32, hf⟩ := jt_b hf
      refine J_callSi O (pc := 32) (c_X2_isLetter l D cB cI cJ (((a0.toUInt32 >>> ((8 : Int32).toUInt32 &&& Int32.toUInt32 31)).toInt32) &&& 255) h32) rfl gX2_isKind_X2_isLetter hdS_X2_isLetter ⟨(Nat.le_of_ble_eq_true rfl), (Nat.le_of_ble_eq_true rfl)⟩ rfl (st := []) rfl (Nat.le_of_ble_eq_true rfl) [] [] rfl rfl rfl rfl rfl (by decide) [] [] rfl rfl rfl (0) (0) (Nat.le_of_ble_eq_true rfl) (Nat.le_of_ble_eq_true rfl) ⟨(Nat.le_of_ble_eq_true rfl), (Nat.le_of_ble_eq_true rfl)⟩ dX2_isKind_32 ?_
      refine J_zeq O (tgt := 53) (pc := 35) dX2_isKind_35 (by decide) (fun c35 => ?_) (fun c35 => ?_)
      · have hf := jt_f c35 hf
        refine J_iconst O (v := 0) (pc := 53) (by decide) dX2_isKind_53 ?_
        cases hf
        exact J_zret O (pc := 54) rfl dX2_isKind_54
      · have hf := jt_t c35 hf
        refine J_iload_n O (i := 0) (k0 := 0) (pc := 38) 0 rfl rfl dX2_isKind_38 ?_
        refine J_sipush O (v := 255) (pc := 39) (by decide) dX2_isKind_39 ?_
        refine J_iand O (pc := 42) dX2_isKind_42 ?_
        obtain ⟨z43, h43, hf⟩ := jt_b hf
        refine J_callSi O (pc := 43) (c_X2_isLetter l D cB cI cJ (a0 &&& 255) h43) rfl gX2_isKind_X2_isLetter hdS_X2_isLetter ⟨(Nat.le_of_ble_eq_true rfl), (Nat.le_of_ble_eq_true rfl)⟩ rfl (st := []) rfl (Nat.le_of_ble_eq_true rfl) [] [] rfl rfl rfl rfl rfl (by decide) [] [] rfl rfl rfl (0) (0) (Nat.le_of_ble_eq_true rfl) (Nat.le_of_ble_eq_true rfl) ⟨(Nat.le_of_ble_eq_true rfl), (Nat.le_of_ble_eq_true rfl)⟩ dX2_isKind_43 ?_
        refine J_zeq O (tgt := 53) (pc := 46) dX2_isKind_46 (by decide) (fun c46 => ?_) (fun c46 => ?_)
        · have hf := jt_f c46 hf
          refine J_iconst O (v := 0) (pc := 53) (by decide) dX2_isKind_53 ?_
          cases hf
          exact J_zret O (pc := 54) rfl dX2_isKind_54
        · have hf := jt_t c46 hf
          refine J_iconst O (v := 1) (pc := 49) (by decide) dX2_isKind_49 ?_
          refine J_goto O (tgt := 54) (pc := 50) dX2_isKind_50 (by decide) ?_
          cases hf
          exact J_zret O (pc := 54) rfl dX2_isKind_54
theorem mb_X2_isUse_0 : Cond.constant RX2 13 1349084020 ∈ wsX2_isUse := by decide +kernel
theorem mb_X2_isUse_1 : Cond.constant RX2 14 1399743520 ∈ wsX2_isUse := by decide +kernel
theorem mb_X2_isUse_2 : Cond.constant RX2 15 1147237473 ∈ wsX2_isUse := by decide +kernel
theorem mb_X2_isUse_3 : Cond.constant RX2 16 1165518179 ∈ wsX2_isUse := by decide +kernel
abbrev rmX2_isUse : Room := { frames := 0, cells := 0, slots := 0, locals := 0 }
set_option maxHeartbeats 4000000 in
set_option maxRecDepth 100000 in
theorem c_X2_isUse (l : Launch) (D : va_G) (cB cI cJ : ClassId)  (a0 : Int32) {z : Bool} (hf : p_X2_isUse a0 = some z) : Ci (l, D, cB, cI, cJ) yX2_isUse wsX2_isUse rmX2_isUse [.int a0] [] [] (bI z) := by
  refine Ci_of (cc := cX2_isUse) (nL := 1) (own := RX2) (ret := (some .boolean)) (by decide) rfl rfl (Nat.le_of_ble_eq_true rfl) (fun X O hnm0 => ?_)
  rw [p_X2_isUse] at hf
  show J X 1 (JQi X [] (bI z) 0 0) [] 0 0 0 [(0, .int a0)] []
  refine J_iload_n O (i := 0) (k0 := 0) (pc := 0) 0 rfl rfl dX2_isUse_0 ?_
  refine J_ldc O (pc := 1) mb_X2_isUse_0 dX2_isUse_1 ?_
  refine J_icmp_eq O (tgt := 24) (pc := 3) dX2_isUse_3 (by decide) (fun c3 => ?_) (fun c3 => ?_)
  · have hf := jt_t c3 hf
    refine J_iconst O (v := 1) (pc := 24) (by decide) dX2_isUse_24 ?_
    refine J_goto O (tgt := 29) (pc := 25) dX2_isUse_25 (by decide) ?_
    cases hf
    exact J_zret O (pc := 29) rfl dX2_isUse_29
  · have hf := jt_f c3 hf
    refine J_iload_n O (i := 0) (k0 := 0) (pc := 6) 0 rfl rfl dX2_isUse_6 ?_
    refine J_ldc O (pc := 7) mb_X2_isUse_1 dX2_isUse_7 ?_
    refine J_icmp_eq O (tgt := 24) (pc := 9) dX2_isUse_9 (by decide) (fun c9 => ?_) (fun c9 => ?_)
    · have hf := jt_t c9 hf
      refine J_iconst O (v := 1) (pc := 24) (by decide) dX2_isUse_24 ?_
      refine J_goto O (tgt := 29) (pc := 25) dX2_isUse_25 (by decide) ?_
      cases hf
      exact J_zret O (pc := 29) rfl dX2_isUse_29
    · have hf := jt_f c9 hf
      refine J_iload_n O (i := 0) (k0 := 0) (pc := 12) 0 rfl rfl dX2_isUse_12 ?_
      refine J_ldc O (pc := 13) mb_X2_isUse_2 dX2_isUse_13 ?_
      refine J_icmp_eq O (tgt := 24) (pc := 15) dX2_isUse_15 (by decide) (fun c15 => ?_) (fun c15 => ?_)
      · have hf := jt_t c15 hf
        refine J_iconst O (v := 1) (pc := 24) (by decide) dX2_isUse_24 ?_
        refine J_goto O (tgt := 29) (pc := 25) dX2_isUse_25 (by decide) ?_
        cases hf
        exact J_zret O (pc := 29) rfl dX2_isUse_29
      · have hf := jt_f c15 hf
        refine J_iload_n O (i := 0) (k0 := 0) (pc := 18) 0 rfl rfl dX2_isUse_18 ?_
        refine J_ldc O (pc := 19) mb_X2_isUse_3 dX2_isUse_19 ?_
        refine J_icmp_ne O (tgt := 28) (pc := 21) dX2_isUse_21 (by decide) (fun c21 => ?_) (fun c21 => ?_)
        · have hf := jt_f c21 hf
          refine J_iconst O (v := 0) (pc := 28) (by decide) dX2_isUse_28 ?_
          cases hf
          exact J_zret O (pc := 29) rfl dX2_isUse_29
        · have hf := jt_t c21 hf
          refine J_iconst O (v := 1) (pc := 24) (by decide) dX2_isUse_24 ?_
          refine J_goto O (tgt := 29) (pc := 25) dX2_isUse_25 (by decide) ?_
          cases hf
          exact J_zret O (pc := 29) rfl dX2_isUse_29
theorem mb_X2_goTogether_0 : Cond.constant RX2 32 1413830740 ∈ wsX2_goTogether := by decide +kernel
theorem mb_X2_goTogether_1 : Cond.constant RX2 33 1112100417 ∈ wsX2_goTogether := by decide +kernel
theorem mb_X2_goTogether_2 : Cond.constant RX2 23 1179603533 ∈ wsX2_goTogether := by decide +kernel
theorem mb_X2_goTogether_3 : Cond.constant RX2 34 1514360644 ∈ wsX2_goTogether := by decide +kernel
theorem mb_X2_goTogether_4 : Cond.constant RX2 35 1196184908 ∈ wsX2_goTogether := by decide +kernel
theorem mb_X2_goTogether_5 : Cond.constant RX2 17 1347307296 ∈ wsX2_goTogether := by decide +kernel
theorem mb_X2_goTogether_6 : Cond.constant RX2 18 1246774599 ∈ wsX2_goTogether := by decide +kernel
theorem mb_X2_goTogether_7 : Cond.constant RX2 19 1382376308 ∈ wsX2_goTogether := by decide +kernel
theorem mb_X2_goTogether_8 : Cond.constant RX2 20 1330071382 ∈ wsX2_goTogether := by decide +kernel
theorem mb_X2_goTogether_9 : Cond.constant RX2 21 1297040416 ∈ wsX2_goTogether := by decide +kernel
theorem mb_X2_goTogether_10 : Cond.constant RX2 22 1397706311 ∈ wsX2_goTogether := by decide +kernel
theorem hdV_X3_u4 : yX3_u4.cls = RX3 ∧ yX3_u4.cls ≠ "java/lang/invoke/MethodHandle" ∧ yX3_u4.cls ≠ "java/lang/invoke/VarHandle" ∧ (parseMethodDescriptor yX3_u4.desc).map (fun d => d.parameters.length) = some 1 := by decide +kernel
theorem mb_X2_goTogether_11 : Cond.constantLong RX2 30 1095321158 ∈ wsX2_goTogether := by decide +kernel
abbrev rmX2_goTogether : Room := { frames := 3, cells := 0, slots := 0, locals := 68 }
set_option maxHeartbeats 4000000 in
set_option maxRecDepth 100000 in
theorem c_X2_goTogether (l : Launch) (D : va_G) (cB cI cJ : ClassId) (q t tb t_n : Nat) (q_o : Int32) (q_l : Int32) (t_l : Int32) (t_f : Nat → Int8) (a0 : Int32) (a1 : Int32) (fu : Nat) {z : Bool} (hf : p_X2_goTogether fu t_n q_o q_l t_f a0 a1 = some z) : Ci (l, D, cB, cI, cJ) yX2_goTogether wsX2_goTogether rmX2_goTogether [.int a0, .int a1, .ref q] [(q, .inr (2, [.ref t, .int q_o, .int q_l])), (t, .inr (4, [.ref tb, .int t_l])), (tb, .inl (cB, t_n, .inl (b8 t_f)))] [(q, .inr (2, [.ref t, .int q_o, .int q_l])), (t, .inr (4, [.ref tb, .int t_l])), (tb, .inl (cB, t_n, .inl (b8 t_f)))] (bI z) := by
  refine Ci_of (cc := cX2_goTogether) (nL := 3) (own := RX2) (ret := (some .boolean)) (by decide) rfl rfl (Nat.le_of_ble_eq_true rfl) (fun X O hnm0 => ?_)
  rw [p_X2_goTogether] at hf
  show J X 3 (JQi X [(q, .inr (2, [.ref t, .int q_o, .int q_l])), (t, .inr (4, [.ref tb, .int t_l])), (tb, .inl (cB, t_n, .inl (b8 t_f)))] (bI z) 0 0) [(q, .inr (2, [.ref t, .int q_o, .int q_l])), (t, .inr (4, [.ref tb, .int t_l])), (tb, .inl (cB, t_n, .inl (b8 t_f)))] 0 0 0 [(0, .int a0), (1, .int a1), (2, .ref q)] []
  refine J_iload_n O (i := 0) (k0 := 0) (pc := 0) 0 rfl rfl dX2_goTogether_0 ?_
  by_cases c1_0 : a0 = 1147237473
  · have hf := jt_t c1_0 hf
    refine J_lookK O (tgt := 110) (off := 109) (pc := 1) 1147237473 c1_0 dX2_goTogether_1 (by decide) (by decide) (by decide) ?_
    refine J_iload_n O (i := 1) (k0 := 1) (pc := 110) 1 rfl rfl dX2_goTogether_110 ?_
    refine J_ldc O (pc := 111) mb_X2_goTogether_0 dX2_goTogether_111 ?_
    refine J_icmp_eq O (tgt := 128) (pc := 113) dX2_goTogether_113 (by decide) (fun c113 => ?_) (fun c113 => ?_)
    · have hf := jt_t c113 hf
      refine J_iconst O (v := 1) (pc := 128) (by decide) dX2_goTogether_128 ?_
      refine J_goto O (tgt := 133) (pc := 129) dX2_goTogether_129 (by decide) ?_
      cases hf
      exact J_zret O (pc := 133) rfl dX2_goTogether_133
    · have hf := jt_f c113 hf
      refine J_iload_n O (i := 1) (k0 := 1) (pc := 116) 1 rfl rfl dX2_goTogether_116 ?_
      refine J_ldc O (pc := 117) mb_X2_goTogether_1 dX2_goTogether_117 ?_
      refine J_icmp_eq O (tgt := 128) (pc := 119) dX2_goTogether_119 (by decide) (fun c119 => ?_) (fun c119 => ?_)
      · have hf := jt_t c119 hf
        refine J_iconst O (v := 1) (pc := 128) (by decide) dX2_goTogether_128 ?_
        refine J_goto O (tgt := 133) (pc := 129) dX2_goTogether_129 (by decide) ?_
        cases hf
        exact J_zret O (pc := 133) rfl dX2_goTogether_133
      · have hf := jt_f c119 hf
        refine J_iload_n O (i := 1) (k0 := 1) (pc := 122) 1 rfl rfl dX2_goTogether_122 ?_
        refine J_ldc O (pc := 123) mb_X2_goTogether_2 dX2_goTogether_123 ?_
        refine J_icmp_ne O (tgt := 132) (pc := 125) dX2_goTogether_125 (by decide) (fun c125 => ?_) (fun c125 => ?_)
        · have hf := jt_f c125 hf
          refine J_iconst O (v := 0) (pc := 132) (by decide) dX2_goTogether_132 ?_
          cases hf
          exact J_zret O (pc := 133) rfl dX2_goTogether_133
        · have hf := jt_t c125 hf
          refine J_iconst O (v := 1) (pc := 128) (by decide) dX2_goTogether_128 ?_
          refine J_goto O (tgt := 133) (pc := 129) dX2_goTogether_129 (by decide) ?_
          cases hf
          exact J_zret O (pc := 133) rfl dX2_goTogether_133
  · have hf := jt_f c1_0 hf
    by_cases c1_1 : a0 = 1165518179
    · have hf := jt_t c1_1 hf
      refine J_lookK O (tgt := 134) (off := 133) (pc := 1) 1165518179 c1_1 dX2_goTogether_1 (by decide) (by decide) (by decide) ?_
      refine J_iload_n O (i := 1) (k0 := 1) (pc := 134) 1 rfl rfl dX2_goTogether_134 ?_
      refine J_ldc O (pc := 135) mb_X2_goTogether_3 dX2_goTogether_135 ?_
      refine J_icmp_eq O (tgt := 146) (pc := 137) dX2_goTogether_137 (by decide) (fun c137 => ?_) (fun c137 => ?_)
      · have hf := jt_t c137 hf
        refine J_iconst O (v := 1) (pc := 146) (by decide) dX2_goTogether_146 ?_
        refine J_goto O (tgt := 151) (pc := 147) dX2_goTogether_147 (by decide) ?_
        cases hf
        exact J_zret O (pc := 151) rfl dX2_goTogether_151
      · have hf := jt_f c137 hf
        refine J_iload_n O (i := 1) (k0 := 1) (pc := 140) 1 rfl rfl dX2_goTogether_140 ?_
        refine J_ldc O (pc := 141) mb_X2_goTogether_4 dX2_goTogether_141 ?_
        refine J_icmp_ne O (tgt := 150) (pc := 143) dX2_goTogether_143 (by decide) (fun c143 => ?_) (fun c143 => ?_)
        · have hf := jt_f c143 hf
          refine J_iconst O (v := 0) (pc := 150) (by decide) dX2_goTogether_150 ?_
          cases hf
          exact J_zret O (pc := 151) rfl dX2_goTogether_151
        · have hf := jt_t c143 hf
          refine J_iconst O (v := 1) (pc := 146) (by decide) dX2_goTogether_146 ?_
          refine J_goto O (tgt := 151) (pc := 147) dX2_goTogether_147 (by decide) ?_
          cases hf
          exact J_zret O (pc := 151) rfl dX2_goTogether_151
    · have hf := jt_f c1_1 hf
      by_cases c1_2 : a0 = 1349084020
      · have hf := jt_t c1_2 hf
        refine J_lookK O (tgt := 44) (off := 43) (pc := 1) 1349084020 c1_2 dX2_goTogether_1 (by decide) (by decide) (by decide) ?_
        refine J_iload_n O (i := 1) (k0 := 1) (pc := 44) 1 rfl rfl dX2_goTogether_44 ?_
        refine J_ldc O (pc := 45) mb_X2_goTogether_5 dX2_goTogether_45 ?_
        refine J_icmp_eq O (tgt := 62) (pc := 47) dX2_goTogether_47 (by decide) (fun c47 => ?_) (fun c47 => ?_)
        · have hf := jt_t c47 hf
          refine J_iconst O (v := 1) (pc := 62) (by decide) dX2_goTogether_62 ?_
          refine J_goto O (tgt := 67) (pc := 63) dX2_goTogether_63 (by decide) ?_
          cases hf
          exact J_zret O (pc := 67) rfl dX2_goTogether_67
        · have hf := jt_f c47 hf
          refine J_iload_n O (i := 1) (k0 := 1) (pc := 50) 1 rfl rfl dX2_goTogether_50 ?_
          refine J_ldc O (pc := 51) mb_X2_goTogether_6 dX2_goTogether_51 ?_
          refine J_icmp_eq O (tgt := 62) (pc := 53) dX2_goTogether_53 (by decide) (fun c53 => ?_) (fun c53 => ?_)
          · have hf := jt_t c53 hf
            refine J_iconst O (v := 1) (pc := 62) (by decide) dX2_goTogether_62 ?_
            refine J_goto O (tgt := 67) (pc := 63) dX2_goTogether_63 (by decide) ?_
            cases hf
            exact J_zret O (pc := 67) rfl dX2_goTogether_67
          · have hf := jt_f c53 hf
            refine J_iload_n O (i := 1) (k0 := 1) (pc := 56) 1 rfl rfl dX2_goTogether_56 ?_
            refine J_ldc O (pc := 57) mb_X2_goTogether_7 dX2_goTogether_57 ?_
            refine J_icmp_ne O (tgt := 66) (pc := 59) dX2_goTogether_59 (by decide) (fun c59 => ?_) (fun c59 => ?_)
            · have hf := jt_f c59 hf
              refine J_iconst O (v := 0) (pc := 66) (by decide) dX2_goTogether_66 ?_
              cases hf
              exact J_zret O (pc := 67) rfl dX2_goTogether_67
            · have hf := jt_t c59 hf
              refine J_iconst O (v := 1) (pc := 62) (by decide) dX2_goTogether_62 ?_
              refine J_goto O (tgt := 67) (pc := 63) dX2_goTogether_63 (by decide) ?_
              cases hf
              exact J_zret O (pc := 67) rfl dX2_goTogether_67
      · have hf := jt_f c1_2 hf
        by_cases c1_3 : a0 = 1399743520
        · have hf := jt_t c1_3 hf
          refine J_lookK O (tgt := 68) (off := 67) (pc := 1) 1399743520 c1_3 dX2_goTogether_1 (by decide) (by decide) (by decide) ?_
          refine J_iload_n O (i := 1) (k0 := 1) (pc := 68) 1 rfl rfl dX2_goTogether_68 ?_
          refine J_ldc O (pc := 69) mb_X2_goTogether_8 dX2_goTogether_69 ?_
          refine J_icmp_eq O (tgt := 104) (pc := 71) dX2_goTogether_71 (by decide) (fun c71 => ?_) (fun c71 => ?_)
          · have hf := jt_t c71 hf
            refine J_iconst O (v := 1) (pc := 104) (by decide) dX2_goTogether_104 ?_
            refine J_goto O (tgt := 109) (pc := 105) dX2_goTogether_105 (by decide) ?_
            cases hf
            exact J_zret O (pc := 109) rfl dX2_goTogether_109
          · have hf := jt_f c71 hf
            refine J_iload_n O (i := 1) (k0 := 1) (pc := 74) 1 rfl rfl dX2_goTogether_74 ?_
            refine J_ldc O (pc := 75) mb_X2_goTogether_9 dX2_goTogether_75 ?_
            refine J_icmp_eq O (tgt := 104) (pc := 77) dX2_goTogether_77 (by decide) (fun c77 => ?_) (fun c77 => ?_)
            · have hf := jt_t c77 hf
              refine J_iconst O (v := 1) (pc := 104) (by decide) dX2_goTogether_104 ?_
              refine J_goto O (tgt := 109) (pc := 105) dX2_goTogether_105 (by decide) ?_
              cases hf
              exact J_zret O (pc := 109) rfl dX2_goTogether_109
            · have hf := jt_f c77 hf
              refine J_iload_n O (i := 1) (k0 := 1) (pc := 80) 1 rfl rfl dX2_goTogether_80 ?_
              refine J_ldc O (pc := 81) mb_X2_goTogether_10 dX2_goTogether_81 ?_
              refine J_icmp_eq O (tgt := 104) (pc := 83) dX2_goTogether_83 (by decide) (fun c83 => ?_) (fun c83 => ?_)
              · have hf := jt_t c83 hf
                refine J_iconst O (v := 1) (pc := 104) (by decide) dX2_goTogether_104 ?_
                refine J_goto O (tgt := 109) (pc := 105) dX2_goTogether_105 (by decide) ?_
                cases hf
                exact J_zret O (pc := 109) rfl dX2_goTogether_109
              · have hf := jt_f c83 hf
                refine J_iload_n O (i := 1) (k0 := 1) (pc := 86) 1 rfl rfl dX2_goTogether_86 ?_
                refine J_ldc O (pc := 87) mb_X2_goTogether_2 dX2_goTogether_87 ?_
                refine J_icmp_ne O (tgt := 108) (pc := 89) dX2_goTogether_89 (by decide) (fun c89 => ?_) (fun c89 => ?_)
                · have hf := jt_f c89 hf
                  refine J_iconst O (v := 0) (pc := 108) (by decide) dX2_goTogether_108 ?_
                  cases hf
                  exact J_zret O (pc := 109) rfl dX2_goTogether_109
                · have hf := jt_t c89 hf
                  refine J_aload_n O (i := 2) (k0 := 2) (pc := 92) 2 rfl rfl dX2_goTogether_92 ?_
                  refine J_iconst O (v := 0) (pc := 93) (by decide) dX2_goTogether_93 ?_
                  obtain ⟨z94, h94, hf⟩ := jt_b hf
                  refine J_callVl O (pc := 94) (c_X3_u4 l D cB cI cJ q t tb t_n q_o q_l t_l t_f 0 fu h94) rfl 0 rfl rfl gX2_goTogether_X3_u4 hdV_X3_u4 ⟨(Nat.le_of_ble_eq_true rfl), (Nat.le_of_ble_eq_true rfl)⟩ rfl (st := []) rfl (Nat.le_of_ble_eq_true rfl) [0, 1, 2] [] rfl rfl rfl rfl rfl (by decide) [(q, .inr (2, [.ref t, .int q_o, .int q_l])), (t, .inr (4, [.ref tb, .int t_l])), (tb, .inl (cB, t_n, .inl (b8 t_f)))] [0, 1, 2] rfl rfl rfl (0) (0) (Nat.le_of_ble_eq_true rfl) (Nat.le_of_ble_eq_true rfl) ⟨(Nat.le_of_ble_eq_true rfl), (Nat.le_of_ble_eq_true rfl)⟩ dX2_goTogether_94 ?_
                  refine J_ldc2 O (pc := 97) mb_X2_goTogether_11 dX2_goTogether_97 ?_
                  refine J_lif_ne O (tgt := 108) (pc := 100) dX2_goTogether_100 dX2_goTogether_101 (by decide) (fun c100 => ?_) (fun c100 => ?_)
                  · have hf := jt_f c100 hf
                    refine J_iconst O (v := 0) (pc := 108) (by decide) dX2_goTogether_108 ?_
                    cases hf
                    exact J_zret O (pc := 109) rfl dX2_goTogether_109
                  · have hf := jt_t c100 hf
                    refine J_iconst O (v := 1) (pc := 104) (by decide) dX2_goTogether_104 ?_
                    refine J_goto O (tgt := 109) (pc := 105) dX2_goTogether_105 (by decide) ?_
                    cases hf
                    exact J_zret O (pc := 109) rfl dX2_goTogether_109
        · have hf := jt_f c1_3 hf
          refine J_lookup O (tgt := 152) (off := 151) (pc := 1) dX2_goTogether_1 (by decide) ((lv_osw c1_0 (by decide)).trans ((lv_osw c1_1 (by decide)).trans ((lv_osw c1_2 (by decide)).trans ((lv_osw c1_3 (by decide)).trans rfl)))) (by decide) ?_
          refine J_iconst O (v := 0) (pc := 152) (by decide) dX2_goTogether_152 ?_
          cases hf
          exact J_zret O (pc := 153) rfl dX2_goTogether_153
abbrev rmX4_standsAlone : Room := { frames := 0, cells := 0, slots := 0, locals := 0 }
set_option maxHeartbeats 4000000 in
set_option maxRecDepth 100000 in
theorem c_X4_standsAlone (l : Launch) (D : va_G) (cB cI cJ : ClassId)  (a0 : Int32) {z : Bool} (hf : p_X4_standsAlone a0 = some z) : Ci (l, D, cB, cI, cJ) yX4_standsAlone wsX4_standsAlone rmX4_standsAlone [.int a0] [] [] (bI z) := by
  refine Ci_of (cc := cX4_standsAlone) (nL := 1) (own := RX4) (ret := (some .boolean)) (by decide) rfl rfl (Nat.le_of_ble_eq_true rfl) (fun X O hnm0 => ?_)
  rw [p_X4_standsAlone] at hf
  show J X 1 (JQi X [] (bI z) 0 0) [] 0 0 0 [(0, .int a0)] []
  refine J_iload_n O (i := 0) (k0 := 0) (pc := 0) 0 rfl rfl dX4_standsAlone_0 ?_
  refine J_iconst O (v := 1) (pc := 1) (by decide) dX4_standsAlone_1 ?_
  refine J_icmp_eq O (tgt := 19) (pc := 2) dX4_standsAlone_2 (by decide) (fun c2 => ?_) (fun c2 => ?_)
  · have hf := jt_t c2 hf
    refine J_iconst O (v := 1) (pc := 19) (by decide) dX4_standsAlone_19 ?_
    refine J_goto O (tgt := 24) (pc := 20) dX4_standsAlone_20 (by decide) ?_
    cases hf
    exact J_zret O (pc := 24) rfl dX4_standsAlone_24
  · have hf := jt_f c2 hf
    refine J_iload_n O (i := 0) (k0 := 0) (pc := 5) 0 rfl rfl dX4_standsAlone_5 ?_
    refine J_sipush O (v := 208) (pc := 6) (by decide) dX4_standsAlone_6 ?_
    refine J_icmp_lt O (tgt := 23) (pc := 9) dX4_standsAlone_9 (by decide) (fun c9 => ?_) (fun c9 => ?_)
    · have hf := jt_t c9 hf
      refine J_iconst O (v := 0) (pc := 23) (by decide) dX4_standsAlone_23 ?_
      cases hf
      exact J_zret O (pc := 24) rfl dX4_standsAlone_24
    · have hf := jt_f c9 hf
      refine J_iload_n O (i := 0) (k0 := 0) (pc := 12) 0 rfl rfl dX4_standsAlone_12 ?_
      refine J_sipush O (v := 215) (pc := 13) (by decide) dX4_standsAlone_13 ?_
      refine J_icmp_gt O (tgt := 23) (pc := 16) dX4_standsAlone_16 (by decide) (fun c16 => ?_) (fun c16 => ?_)
      · have hf := jt_t c16 hf
        refine J_iconst O (v := 0) (pc := 23) (by decide) dX4_standsAlone_23 ?_
        cases hf
        exact J_zret O (pc := 24) rfl dX4_standsAlone_24
      · have hf := jt_f c16 hf
        refine J_iconst O (v := 1) (pc := 19) (by decide) dX4_standsAlone_19 ?_
        refine J_goto O (tgt := 24) (pc := 20) dX4_standsAlone_20 (by decide) ?_
        cases hf
        exact J_zret O (pc := 24) rfl dX4_standsAlone_24
abbrev rmX4_hasNoMeasure : Room := { frames := 0, cells := 0, slots := 0, locals := 0 }
set_option maxHeartbeats 4000000 in
set_option maxRecDepth 100000 in
theorem c_X4_hasNoMeasure (l : Launch) (D : va_G) (cB cI cJ : ClassId)  (a0 : Int32) {z : Bool} (hf : p_X4_hasNoMeasure a0 = some z) : Ci (l, D, cB, cI, cJ) yX4_hasNoMeasure wsX4_hasNoMeasure rmX4_hasNoMeasure [.int a0] [] [] (bI z) := by
  refine Ci_of (cc := cX4_hasNoMeasure) (nL := 1) (own := RX4) (ret := (some .boolean)) (by decide) rfl rfl (Nat.le_of_ble_eq_true rfl) (fun X O hnm0 => ?_)
  rw [p_X4_hasNoMeasure] at hf
  show J X 1 (JQi X [] (bI z) 0 0) [] 0 0 0 [(0, .int a0)] []
  refine J_iload_n O (i := 0) (k0 := 0) (pc := 0) 0 rfl rfl dX4_hasNoMeasure_0 ?_
  refine J_sipush O (v := 216) (pc := 1) (by decide) dX4_hasNoMeasure_1 ?_
  refine J_icmp_eq O (tgt := 23) (pc := 4) dX4_hasNoMeasure_4 (by decide) (fun c4 => ?_) (fun c4 => ?_)
  · have hf := jt_t c4 hf
    refine J_iconst O (v := 1) (pc := 23) (by decide) dX4_hasNoMeasure_23 ?_
    refine J_goto O (tgt := 28) (pc := 24) dX4_hasNoMeasure_24 (by decide) ?_
    cases hf
    exact J_zret O (pc := 28) rfl dX4_hasNoMeasure_28
  · have hf := jt_f c4 hf
    refine J_iload_n O (i := 0) (k0 := 0) (pc := 7) 0 rfl rfl dX4_hasNoMeasure_7 ?_
    refine J_sipush O (v := 217) (pc := 8) (by decide) dX4_hasNoMeasure_8 ?_
    refine J_icmp_eq O (tgt := 23) (pc := 11) dX4_hasNoMeasure_11 (by decide) (fun c11 => ?_) (fun c11 => ?_)
    · have hf := jt_t c11 hf
      refine J_iconst O (v := 1) (pc := 23) (by decide) dX4_hasNoMeasure_23 ?_
      refine J_goto O (tgt := 28) (pc := 24) dX4_hasNoMeasure_24 (by decide) ?_
      cases hf
      exact J_zret O (pc := 28) rfl dX4_hasNoMeasure_28
    · have hf := jt_f c11 hf
      refine J_iload_n O (i := 0) (k0 := 0) (pc := 14) 0 rfl rfl dX4_hasNoMeasure_14 ?_
      refine J_if_eq O (tgt := 23) (pc := 15) dX4_hasNoMeasure_15 (by decide) (fun c15 => ?_) (fun c15 => ?_)
      · have hf := jt_t c15 hf
        refine J_iconst O (v := 1) (pc := 23) (by decide) dX4_hasNoMeasure_23 ?_
        refine J_goto O (tgt := 28) (pc := 24) dX4_hasNoMeasure_24 (by decide) ?_
        cases hf
        exact J_zret O (pc := 28) rfl dX4_hasNoMeasure_28
      · have hf := jt_f c15 hf
        refine J_iload_n O (i := 0) (k0 := 0) (pc := 18) 0 rfl rfl dX4_hasNoMeasure_18 ?_
        refine J_iconst O (v := (-1)) (pc := 19) (by decide) dX4_hasNoMeasure_19 ?_
        refine J_icmp_ne O (tgt := 27) (pc := 20) dX4_hasNoMeasure_20 (by decide) (fun c20 => ?_) (fun c20 => ?_)
        · have hf := jt_f c20 hf
          refine J_iconst O (v := 0) (pc := 27) (by decide) dX4_hasNoMeasure_27 ?_
          cases hf
          exact J_zret O (pc := 28) rfl dX4_hasNoMeasure_28
        · have hf := jt_t c20 hf
          refine J_iconst O (v := 1) (pc := 23) (by decide) dX4_hasNoMeasure_23 ?_
          refine J_goto O (tgt := 28) (pc := 24) dX4_hasNoMeasure_24 (by decide) ?_
          cases hf
          exact J_zret O (pc := 28) rfl dX4_hasNoMeasure_28
abbrev rmX4_isFrame : Room := { frames := 0, cells := 0, slots := 0, locals := 0 }
set_option maxHeartbeats 4000000 in
set_option maxRecDepth 100000 in
theorem c_X4_isFrame (l : Launch) (D : va_G) (cB cI cJ : ClassId)  (a0 : Int32) {z : Bool} (hf : p_X4_isFrame a0 = some z) : Ci (l, D, cB, cI, cJ) yX4_isFrame wsX4_isFrame rmX4_isFrame [.int a0] [] [] (bI z) := by
  refine Ci_of (cc := cX4_isFrame) (nL := 1) (own := RX4) (ret := (some .boolean)) (by decide) rfl rfl (Nat.le_of_ble_eq_true rfl) (fun X O hnm0 => ?_)
  rw [p_X4_isFrame] at hf
  show J X 1 (JQi X [] (bI z) 0 0) [] 0 0 0 [(0, .int a0)] []
  refine J_iload_n O (i := 0) (k0 := 0) (pc := 0) 0 rfl rfl dX4_isFrame_0 ?_
  refine J_sipush O (v := 192) (pc := 1) (by decide) dX4_isFrame_1 ?_
  refine J_icmp_lt O (tgt := 39) (pc := 4) dX4_isFrame_4 (by decide) (fun c4 => ?_) (fun c4 => ?_)
  · have hf := jt_t c4 hf
    refine J_iconst O (v := 0) (pc := 39) (by decide) dX4_isFrame_39 ?_
    cases hf
    exact J_zret O (pc := 40) rfl dX4_isFrame_40
  · have hf := jt_f c4 hf
    refine J_iload_n O (i := 0) (k0 := 0) (pc := 7) 0 rfl rfl dX4_isFrame_7 ?_
    refine J_sipush O (v := 207) (pc := 8) (by decide) dX4_isFrame_8 ?_
    refine J_icmp_gt O (tgt := 39) (pc := 11) dX4_isFrame_11 (by decide) (fun c11 => ?_) (fun c11 => ?_)
    · have hf := jt_t c11 hf
      refine J_iconst O (v := 0) (pc := 39) (by decide) dX4_isFrame_39 ?_
      cases hf
      exact J_zret O (pc := 40) rfl dX4_isFrame_40
    · have hf := jt_f c11 hf
      refine J_iload_n O (i := 0) (k0 := 0) (pc := 14) 0 rfl rfl dX4_isFrame_14 ?_
      refine J_sipush O (v := 196) (pc := 15) (by decide) dX4_isFrame_15 ?_
      refine J_icmp_eq O (tgt := 39) (pc := 18) dX4_isFrame_18 (by decide) (fun c18 => ?_) (fun c18 => ?_)
      · have hf := jt_t c18 hf
        refine J_iconst O (v := 0) (pc := 39) (by decide) dX4_isFrame_39 ?_
        cases hf
        exact J_zret O (pc := 40) rfl dX4_isFrame_40
      · have hf := jt_f c18 hf
        refine J_iload_n O (i := 0) (k0 := 0) (pc := 21) 0 rfl rfl dX4_isFrame_21 ?_
        refine J_sipush O (v := 200) (pc := 22) (by decide) dX4_isFrame_22 ?_
        refine J_icmp_eq O (tgt := 39) (pc := 25) dX4_isFrame_25 (by decide) (fun c25 => ?_) (fun c25 => ?_)
        · have hf := jt_t c25 hf
          refine J_iconst O (v := 0) (pc := 39) (by decide) dX4_isFrame_39 ?_
          cases hf
          exact J_zret O (pc := 40) rfl dX4_isFrame_40
        · have hf := jt_f c25 hf
          refine J_iload_n O (i := 0) (k0 := 0) (pc := 28) 0 rfl rfl dX4_isFrame_28 ?_
          refine J_sipush O (v := 204) (pc := 29) (by decide) dX4_isFrame_29 ?_
          refine J_icmp_eq O (tgt := 39) (pc := 32) dX4_isFrame_32 (by decide) (fun c32 => ?_) (fun c32 => ?_)
          · have hf := jt_t c32 hf
            refine J_iconst O (v := 0) (pc := 39) (by decide) dX4_isFrame_39 ?_
            cases hf
            exact J_zret O (pc := 40) rfl dX4_isFrame_40
          · have hf := jt_f c32 hf
            refine J_iconst O (v := 1) (pc := 35) (by decide) dX4_isFrame_35 ?_
            refine J_goto O (tgt := 40) (pc := 36) dX4_isFrame_36 (by decide) ?_
            cases hf
            exact J_zret O (pc := 40) rfl dX4_isFrame_40
theorem in_X4_behindFill_X3 : ∀ w ∈ u_ws RX3 TX3 3, w ∈ wsX4_behindFill := fun _ h => List.mem_cons_of_mem _ (List.mem_append_left _ (List.mem_append_right _ h))
theorem mb_X4_behindFill_1 : Cond.fieldLink RX4 23 (TX3 2).1 (TX3 2).2.1 (TX3 2).2.2.1 ∈ wsX4_behindFill := by decide +kernel
theorem hdV_X3_at : yX3_at.cls = RX3 ∧ yX3_at.cls ≠ "java/lang/invoke/MethodHandle" ∧ yX3_at.cls ≠ "java/lang/invoke/VarHandle" ∧ (parseMethodDescriptor yX3_at.desc).map (fun d => d.parameters.length) = some 1 := by decide +kernel
abbrev rmX4_behindFill : Room := { frames := 3, cells := 0, slots := 0, locals := 68 }
set_option maxHeartbeats 4000000 in
set_option maxRecDepth 100000 in
theorem wk_X4_behindFill_2 {X : JC} {l : Launch} {D : va_G} {cB cI cJ : ClassId} (O : Jo X (l, D, cB, cI, cJ) cX4_behindFill 3 RX4 wsX4_behindFill rmX4_behindFill (some .int)) (q t tb : Nat) (t_n : Nat) (q_o : Int32) (q_l : Int32) (t_l : Int32) (t_f : Nat → Int8) (a1 : Int32) (fu : Nat) {z : Int32} : ∀ (fn : Nat) (v2 : Int32), p_X4_behindFill_2 fu t_n q_o q_l t_f a1 fn v2 = some z → J X 3 (JQi X [(q, .inr (2, [.ref t, .int q_o, .int q_l])), (t, .inr (4, [.ref tb, .int t_l])), (tb, .inl (cB, t_n, .inl (b8 t_f)))] z 0 0) [(q, .inr (2, [.ref t, .int q_o, .int q_l])), (t, .inr (4, [.ref tb, .int t_l])), (tb, .inl (cB, t_n, .inl (b8 t_f)))] 0 0 2 [(0, .ref q), (2, .int v2)] [] := by
  intro fn
  induction fn with
  | zero =>
    intro v2 hf
    rw [p_X4_behindFill_2] at hf
    exact jt_n hf
  | succ fn ih =>
    intro v2 hf
    rw [p_X4_behindFill_2] at hf
    refine J_iload_n O (i := 2) (k0 := 2) (pc := 2) 1 rfl rfl dX4_behindFill_2 ?_
    refine J_aload_n O (i := 0) (k0 := 0) (pc := 3) 0 rfl rfl dX4_behindFill_3 ?_
    refine J_get O (pc := 4) in_X4_behindFill_X3 0 rfl rfl 2 (by decide) mb_X4_behindFill_1 rfl dX4_behindFill_4 ?_
    refine J_icmp_ge O (tgt := 27) (pc := 7) dX4_behindFill_7 (by decide) (fun c7 => ?_) (fun c7 => ?_)
    · have hf := jt_t c7 hf
      refine J_iload_n O (i := 2) (k0 := 2) (pc := 27) 1 rfl rfl dX4_behindFill_27 ?_
      cases hf
      exact J_iret O (pc := 28) rfl dX4_behindFill_28
    · have hf := jt_f c7 hf
      refine J_aload_n O (i := 0) (k0 := 0) (pc := 10) 0 rfl rfl dX4_behindFill_10 ?_
      refine J_iload_n O (i := 2) (k0 := 2) (pc := 11) 1 rfl rfl dX4_behindFill_11 ?_
      obtain ⟨z12, h12, hf⟩ := jt_b hf
      refine J_callVi O (pc := 12) (c_X3_at l D cB cI cJ q t tb t_n q_o q_l t_l t_f v2 fu h12) rfl 0 rfl rfl gX4_behindFill_X3_at hdV_X3_at ⟨(Nat.le_of_ble_eq_true rfl), (Nat.le_of_ble_eq_true rfl)⟩ rfl (st := []) rfl (Nat.le_of_ble_eq_true rfl) [0, 1, 2] [] rfl rfl rfl rfl rfl (by decide) [(q, .inr (2, [.ref t, .int q_o, .int q_l])), (t, .inr (4, [.ref tb, .int t_l])), (tb, .inl (cB, t_n, .inl (b8 t_f)))] [0, 1, 2] rfl rfl rfl (0) (0) (Nat.le_of_ble_eq_true rfl) (Nat.le_of_ble_eq_true rfl) ⟨(Nat.le_of_ble_eq_true rfl), (Nat.le_of_ble_eq_true rfl)⟩ dX4_behindFill_12 ?_
      refine J_sipush O (v := 255) (pc := 15) (by decide) dX4_behindFill_15 ?_
      refine J_icmp_ne O (tgt := 27) (pc := 18) dX4_behindFill_18 (by decide) (fun c18 => ?_) (fun c18 => ?_)
      · have hf := jt_f c18 hf
        refine J_iload_n O (i := 2) (k0 := 2) (pc := 27) 1 rfl rfl dX4_behindFill_27 ?_
        cases hf
        exact J_iret O (pc := 28) rfl dX4_behindFill_28
      · have hf := jt_t c18 hf
        refine J_iinc O (i := 2) (n := 1) (v := v2 + 1) (pc := 21) 1 rfl [(2, .int (v2 + 1)), (0, .ref q)] (by decide) (congrArg (_ + ·) (by decide)) rfl dX4_behindFill_21 ?_
        refine J_goto O (tgt := 2) (pc := 24) dX4_behindFill_24 (by decide) ?_
        refine J_sub [1, 0] (lv' := [(0, .ref q), (2, .int (v2 + 1))]) rfl ?_
        exact ih (v2 + 1) hf
set_option maxHeartbeats 4000000 in
set_option maxRecDepth 100000 in
theorem c_X4_behindFill (l : Launch) (D : va_G) (cB cI cJ : ClassId) (q t tb t_n : Nat) (q_o : Int32) (q_l : Int32) (t_l : Int32) (t_f : Nat → Int8) (a1 : Int32) (fu : Nat) {z : Int32} (hf : p_X4_behindFill fu t_n q_o q_l t_f a1 = some z) : Ci (l, D, cB, cI, cJ) yX4_behindFill wsX4_behindFill rmX4_behindFill [.ref q, .int a1] [(q, .inr (2, [.ref t, .int q_o, .int q_l])), (t, .inr (4, [.ref tb, .int t_l])), (tb, .inl (cB, t_n, .inl (b8 t_f)))] [(q, .inr (2, [.ref t, .int q_o, .int q_l])), (t, .inr (4, [.ref tb, .int t_l])), (tb, .inl (cB, t_n, .inl (b8 t_f)))] z := by
  refine Ci_of (cc := cX4_behindFill) (nL := 3) (own := RX4) (ret := (some .int)) (by decide) rfl rfl (Nat.le_of_ble_eq_true rfl) (fun X O hnm0 => ?_)
  rw [p_X4_behindFill] at hf
  show J X 3 (JQi X [(q, .inr (2, [.ref t, .int q_o, .int q_l])), (t, .inr (4, [.ref tb, .int t_l])), (tb, .inl (cB, t_n, .inl (b8 t_f)))] z 0 0) [(q, .inr (2, [.ref t, .int q_o, .int q_l])), (t, .inr (4, [.ref tb, .int t_l])), (tb, .inl (cB, t_n, .inl (b8 t_f)))] 0 0 0 [(0, .ref q), (1, .int a1)] []
  refine J_iload_n O (i := 1) (k0 := 1) (pc := 0) 1 rfl rfl dX4_behindFill_0 ?_
  refine J_istore_n O (i := 2) (k0 := 2) (pc := 1) rfl [(2, .int a1), (0, .ref q), (1, .int a1)] (by decide) rfl dX4_behindFill_1 ?_
  refine J_sub [1, 0] (lv' := [(0, .ref q), (2, .int a1)]) rfl ?_
  exact wk_X4_behindFill_2 O q t tb t_n q_o q_l t_l t_f a1 fu fu a1 hf
theorem hdV_X3_u2 : yX3_u2.cls = RX3 ∧ yX3_u2.cls ≠ "java/lang/invoke/MethodHandle" ∧ yX3_u2.cls ≠ "java/lang/invoke/VarHandle" ∧ (parseMethodDescriptor yX3_u2.desc).map (fun d => d.parameters.length) = some 1 := by decide +kernel
theorem mb_X4_ofFrame_0 : Cond.constantLong RX4 21 (-2) ∈ wsX4_ofFrame := by decide +kernel
abbrev rmX4_ofFrame : Room := { frames := 3, cells := 0, slots := 0, locals := 68 }
set_option maxHeartbeats 4000000 in
set_option maxRecDepth 100000 in
theorem c_X4_ofFrame (l : Launch) (D : va_G) (cB cI cJ : ClassId) (q t tb t_n : Nat) (q_o : Int32) (q_l : Int32) (t_l : Int32) (t_f : Nat → Int8) (a1 : Int32) (a2 : Int32) (fu : Nat) {z : Int64} (hf : p_X4_ofFrame fu t_n q_o q_l t_f a1 a2 = some z) : Cl (l, D, cB, cI, cJ) yX4_ofFrame wsX4_ofFrame rmX4_ofFrame [.ref q, .int a1, .int a2] [(q, .inr (2, [.ref t, .int q_o, .int q_l])), (t, .inr (4, [.ref tb, .int t_l])), (tb, .inl (cB, t_n, .inl (b8 t_f)))] [(q, .inr (2, [.ref t, .int q_o, .int q_l])), (t, .inr (4, [.ref tb, .int t_l])), (tb, .inl (cB, t_n, .inl (b8 t_f)))] z := by
  refine Cl_of (cc := cX4_ofFrame) (nL := 3) (own := RX4) (ret := (some .long)) (by decide) rfl rfl (Nat.le_of_ble_eq_true rfl) (fun X O hnm0 => ?_)
  rw [p_X4_ofFrame] at hf
  show J X 3 (JQl X [(q, .inr (2, [.ref t, .int q_o, .int q_l])), (t, .inr (4, [.ref tb, .int t_l])), (tb, .inl (cB, t_n, .inl (b8 t_f)))] z 0 0) [(q, .inr (2, [.ref t, .int q_o, .int q_l])), (t, .inr (4, [.ref tb, .int t_l])), (tb, .inl (cB, t_n, .inl (b8 t_f)))] 0 0 0 [(0, .ref q), (1, .int a1), (2, .int a2)] []
  refine J_aload_n O (i := 0) (k0 := 0) (pc := 0) 0 rfl rfl dX4_ofFrame_0 ?_
  refine J_iload_n O (i := 1) (k0 := 1) (pc := 1) 1 rfl rfl dX4_ofFrame_1 ?_
  obtain ⟨z2, h2, hf⟩ := jt_b hf
  refine J_callVi O (pc := 2) (c_X3_u2 l D cB cI cJ q t tb t_n q_o q_l t_l t_f a1 fu h2) rfl 0 rfl rfl gX4_ofFrame_X3_u2 hdV_X3_u2 ⟨(Nat.le_of_ble_eq_true rfl), (Nat.le_of_ble_eq_true rfl)⟩ rfl (st := []) rfl (Nat.le_of_ble_eq_true rfl) [0, 1, 2] [] rfl rfl rfl rfl rfl (by decide) [(q, .inr (2, [.ref t, .int q_o, .int q_l])), (t, .inr (4, [.ref tb, .int t_l])), (tb, .inl (cB, t_n, .inl (b8 t_f)))] [0, 1, 2] rfl rfl rfl (0) (0) (Nat.le_of_ble_eq_true rfl) (Nat.le_of_ble_eq_true rfl) ⟨(Nat.le_of_ble_eq_true rfl), (Nat.le_of_ble_eq_true rfl)⟩ dX4_ofFrame_2 ?_
  refine J_bipush O (v := 7) (pc := 5) (by decide) dX4_ofFrame_5 ?_
  refine J_icmp_lt O (tgt := 20) (pc := 7) dX4_ofFrame_7 (by decide) (fun c7 => ?_) (fun c7 => ?_)
  · have hf := jt_t c7 hf
    refine J_ldc2 O (pc := 20) mb_X4_ofFrame_0 dX4_ofFrame_20 ?_
    cases hf
    exact J_lret O (pc := 23) rfl dX4_ofFrame_23
  · have hf := jt_f c7 hf
    refine J_aload_n O (i := 0) (k0 := 0) (pc := 10) 0 rfl rfl dX4_ofFrame_10 ?_
    refine J_iload_n O (i := 1) (k0 := 1) (pc := 11) 1 rfl rfl dX4_ofFrame_11 ?_
    refine J_bipush O (v := 7) (pc := 12) (by decide) dX4_ofFrame_12 ?_
    obtain ⟨z14, h14, hf⟩ := jt_b hf
    refine J_callVi O (pc := 14) (c_X3_holds l D cB cI cJ q t tb t_n q_o q_l t_l t_f a1 7 h14) rfl 0 rfl rfl gX4_ofFrame_X3_holds hdV_X3_holds ⟨(Nat.le_of_ble_eq_true rfl), (Nat.le_of_ble_eq_true rfl)⟩ rfl (st := []) rfl (Nat.le_of_ble_eq_true rfl) [0, 1, 2] [] rfl rfl rfl rfl rfl (by decide) [(q, .inr (2, [.ref t, .int q_o, .int q_l])), (t, .inr (4, [.ref tb, .int t_l])), (tb, .inl (cB, t_n, .inl (b8 t_f)))] [0, 1, 2] rfl rfl rfl (0) (0) (Nat.le_of_ble_eq_true rfl) (Nat.le_of_ble_eq_true rfl) ⟨(Nat.le_of_ble_eq_true rfl), (Nat.le_of_ble_eq_true rfl)⟩ dX4_ofFrame_14 ?_
    refine J_zne O (tgt := 24) (pc := 17) dX4_ofFrame_17 (by decide) (fun c17 => ?_) (fun c17 => ?_)
    · have hf := jt_t c17 hf
      refine J_iload_n O (i := 2) (k0 := 2) (pc := 24) 2 rfl rfl dX4_ofFrame_24 ?_
      refine J_if_ne O (tgt := 39) (pc := 25) dX4_ofFrame_25 (by decide) (fun c25 => ?_) (fun c25 => ?_)
      · have hf := jt_f c25 hf
        refine J_aload_n O (i := 0) (k0 := 0) (pc := 39) 0 rfl rfl dX4_ofFrame_39 ?_
        refine J_iload_n O (i := 1) (k0 := 1) (pc := 40) 1 rfl rfl dX4_ofFrame_40 ?_
        refine J_iconst O (v := 3) (pc := 41) (by decide) dX4_ofFrame_41 ?_
        refine J_iadd O (pc := 42) dX4_ofFrame_42 ?_
        obtain ⟨z43, h43, hf⟩ := jt_b hf
        refine J_callVi O (pc := 43) (c_X3_u2 l D cB cI cJ q t tb t_n q_o q_l t_l t_f (a1 + 3) fu h43) rfl 0 rfl rfl gX4_ofFrame_X3_u2 hdV_X3_u2 ⟨(Nat.le_of_ble_eq_true rfl), (Nat.le_of_ble_eq_true rfl)⟩ rfl (st := []) rfl (Nat.le_of_ble_eq_true rfl) [0, 1, 2] [] rfl rfl rfl rfl rfl (by decide) [(q, .inr (2, [.ref t, .int q_o, .int q_l])), (t, .inr (4, [.ref tb, .int t_l])), (tb, .inl (cB, t_n, .inl (b8 t_f)))] [0, 1, 2] rfl rfl rfl (0) (0) (Nat.le_of_ble_eq_true rfl) (Nat.le_of_ble_eq_true rfl) ⟨(Nat.le_of_ble_eq_true rfl), (Nat.le_of_ble_eq_true rfl)⟩ dX4_ofFrame_43 ?_
        refine J_i2l O (pc := 46) dX4_ofFrame_46 ?_
        cases hf
        exact J_lret O (pc := 47) rfl dX4_ofFrame_47
      · have hf := jt_t c25 hf
        refine J_aload_n O (i := 0) (k0 := 0) (pc := 28) 0 rfl rfl dX4_ofFrame_28 ?_
        refine J_iload_n O (i := 1) (k0 := 1) (pc := 29) 1 rfl rfl dX4_ofFrame_29 ?_
        refine J_iconst O (v := 5) (pc := 30) (by decide) dX4_ofFrame_30 ?_
        refine J_iadd O (pc := 31) dX4_ofFrame_31 ?_
        obtain ⟨z32, h32, hf⟩ := jt_b hf
        refine J_callVi O (pc := 32) (c_X3_u2 l D cB cI cJ q t tb t_n q_o q_l t_l t_f (a1 + 5) fu h32) rfl 0 rfl rfl gX4_ofFrame_X3_u2 hdV_X3_u2 ⟨(Nat.le_of_ble_eq_true rfl), (Nat.le_of_ble_eq_true rfl)⟩ rfl (st := []) rfl (Nat.le_of_ble_eq_true rfl) [0, 1, 2] [] rfl rfl rfl rfl rfl (by decide) [(q, .inr (2, [.ref t, .int q_o, .int q_l])), (t, .inr (4, [.ref tb, .int t_l])), (tb, .inl (cB, t_n, .inl (b8 t_f)))] [0, 1, 2] rfl rfl rfl (0) (0) (Nat.le_of_ble_eq_true rfl) (Nat.le_of_ble_eq_true rfl) ⟨(Nat.le_of_ble_eq_true rfl), (Nat.le_of_ble_eq_true rfl)⟩ dX4_ofFrame_32 ?_
        refine J_i2l O (pc := 35) dX4_ofFrame_35 ?_
        refine J_goto O (tgt := 47) (pc := 36) dX4_ofFrame_36 (by decide) ?_
        cases hf
        exact J_lret O (pc := 47) rfl dX4_ofFrame_47
    · have hf := jt_f c17 hf
      refine J_ldc2 O (pc := 20) mb_X4_ofFrame_0 dX4_ofFrame_20 ?_
      cases hf
      exact J_lret O (pc := 23) rfl dX4_ofFrame_23
theorem in_X4_ofRect_X3 : ∀ w ∈ u_ws RX3 TX3 3, w ∈ wsX4_ofRect := fun _ h => List.mem_cons_of_mem _ (List.mem_append_left _ (List.mem_append_right _ h))
theorem mb_X4_ofRect_1 : Cond.fieldLink RX4 23 (TX3 2).1 (TX3 2).2.1 (TX3 2).2.2.1 ∈ wsX4_ofRect := by decide +kernel
theorem mb_X4_ofRect_2 : Cond.constantLong RX4 21 (-2) ∈ wsX4_ofRect := by decide +kernel
abbrev rmX4_ofRect : Room := { frames := 3, cells := 0, slots := 0, locals := 68 }
set_option maxHeartbeats 4000000 in
set_option maxRecDepth 100000 in
theorem c_X4_ofRect (l : Launch) (D : va_G) (cB cI cJ : ClassId) (q t tb t_n : Nat) (q_o : Int32) (q_l : Int32) (t_l : Int32) (t_f : Nat → Int8) (a1 : Int32) (fu : Nat) {z : Int64} (hf : p_X4_ofRect fu t_n q_o q_l t_f a1 = some z) : Cl (l, D, cB, cI, cJ) yX4_ofRect wsX4_ofRect rmX4_ofRect [.ref q, .int a1] [(q, .inr (2, [.ref t, .int q_o, .int q_l])), (t, .inr (4, [.ref tb, .int t_l])), (tb, .inl (cB, t_n, .inl (b8 t_f)))] [(q, .inr (2, [.ref t, .int q_o, .int q_l])), (t, .inr (4, [.ref tb, .int t_l])), (tb, .inl (cB, t_n, .inl (b8 t_f)))] z := by
  refine Cl_of (cc := cX4_ofRect) (nL := 2) (own := RX4) (ret := (some .long)) (by decide) rfl rfl (Nat.le_of_ble_eq_true rfl) (fun X O hnm0 => ?_)
  rw [p_X4_ofRect] at hf
  show J X 2 (JQl X [(q, .inr (2, [.ref t, .int q_o, .int q_l])), (t, .inr (4, [.ref tb, .int t_l])), (tb, .inl (cB, t_n, .inl (b8 t_f)))] z 0 0) [(q, .inr (2, [.ref t, .int q_o, .int q_l])), (t, .inr (4, [.ref tb, .int t_l])), (tb, .inl (cB, t_n, .inl (b8 t_f)))] 0 0 0 [(0, .ref q), (1, .int a1)] []
  refine J_aload_n O (i := 0) (k0 := 0) (pc := 0) 0 rfl rfl dX4_ofRect_0 ?_
  refine J_get O (pc := 1) in_X4_ofRect_X3 0 rfl rfl 2 (by decide) mb_X4_ofRect_1 rfl dX4_ofRect_1 ?_
  refine J_bipush O (v := 8) (pc := 4) (by decide) dX4_ofRect_4 ?_
  refine J_icmp_lt O (tgt := 19) (pc := 6) dX4_ofRect_6 (by decide) (fun c6 => ?_) (fun c6 => ?_)
  · have hf := jt_t c6 hf
    refine J_ldc2 O (pc := 19) mb_X4_ofRect_2 dX4_ofRect_19 ?_
    cases hf
    exact J_lret O (pc := 22) rfl dX4_ofRect_22
  · have hf := jt_f c6 hf
    refine J_aload_n O (i := 0) (k0 := 0) (pc := 9) 0 rfl rfl dX4_ofRect_9 ?_
    refine J_iconst O (v := 4) (pc := 10) (by decide) dX4_ofRect_10 ?_
    refine J_iload_n O (i := 1) (k0 := 1) (pc := 11) 1 rfl rfl dX4_ofRect_11 ?_
    refine J_imul O (pc := 12) dX4_ofRect_12 ?_
    obtain ⟨z13, h13, hf⟩ := jt_b hf
    refine J_callVl O (pc := 13) (c_X3_u4 l D cB cI cJ q t tb t_n q_o q_l t_l t_f (4 * a1) fu h13) rfl 0 rfl rfl gX4_ofRect_X3_u4 hdV_X3_u4 ⟨(Nat.le_of_ble_eq_true rfl), (Nat.le_of_ble_eq_true rfl)⟩ rfl (st := []) rfl (Nat.le_of_ble_eq_true rfl) [0, 1, 2] [] rfl rfl rfl rfl rfl (by decide) [(q, .inr (2, [.ref t, .int q_o, .int q_l])), (t, .inr (4, [.ref tb, .int t_l])), (tb, .inl (cB, t_n, .inl (b8 t_f)))] [0, 1, 2] rfl rfl rfl (0) (0) (Nat.le_of_ble_eq_true rfl) (Nat.le_of_ble_eq_true rfl) ⟨(Nat.le_of_ble_eq_true rfl), (Nat.le_of_ble_eq_true rfl)⟩ dX4_ofRect_13 ?_
    refine J_goto O (tgt := 22) (pc := 16) dX4_ofRect_16 (by decide) ?_
    cases hf
    exact J_lret O (pc := 22) rfl dX4_ofRect_22
theorem in_X4_ofPng_X3 : ∀ w ∈ u_ws RX3 TX3 3, w ∈ wsX4_ofPng := fun _ h => List.mem_cons_of_mem _ (List.mem_append_left _ (List.mem_append_right _ h))
theorem mb_X4_ofPng_1 : Cond.fieldLink RX4 23 (TX3 2).1 (TX3 2).2.1 (TX3 2).2.2.1 ∈ wsX4_ofPng := by decide +kernel
theorem mb_X4_ofPng_2 : Cond.constantLong RX4 21 (-2) ∈ wsX4_ofPng := by decide +kernel
theorem mb_X4_ofPng_3 : Cond.constantLong RX4 33 2303741511 ∈ wsX4_ofPng := by decide +kernel
theorem mb_X4_ofPng_4 : Cond.constantLong RX4 35 218765834 ∈ wsX4_ofPng := by decide +kernel
theorem mb_X4_ofPng_5 : Cond.constantLong RX4 39 1229472850 ∈ wsX4_ofPng := by decide +kernel
abbrev rmX4_ofPng : Room := { frames := 3, cells := 0, slots := 0, locals := 68 }
set_option maxHeartbeats 4000000 in
set_option maxRecDepth 100000 in
theorem wk_X4_ofPng_51 {X : JC} {l : Launch} {D : va_G} {cB cI cJ : ClassId} (O : Jo X (l, D, cB, cI, cJ) cX4_ofPng 3 RX4 wsX4_ofPng rmX4_ofPng (some .long)) (q t tb : Nat) (t_n : Nat) (q_o : Int32) (q_l : Int32) (t_l : Int32) (t_f : Nat → Int8) (a1 : Int32) (fu : Nat) {z : Int64} (s0 : Int32) (hf : p_X4_ofPng_51 fu t_n q_o q_l t_f a1 s0 = some z) : J X 3 (JQl X [(q, .inr (2, [.ref t, .int q_o, .int q_l])), (t, .inr (4, [.ref tb, .int t_l])), (tb, .inl (cB, t_n, .inl (b8 t_f)))] z 0 0) [(q, .inr (2, [.ref t, .int q_o, .int q_l])), (t, .inr (4, [.ref tb, .int t_l])), (tb, .inl (cB, t_n, .inl (b8 t_f)))] 0 0 51 [(0, .ref q), (1, .int a1)] [.int s0] := by
  rw [p_X4_ofPng_51] at hf
  refine J_istore_n O (i := 2) (k0 := 2) (pc := 51) rfl [(2, .int s0), (0, .ref q), (1, .int a1)] (by decide) rfl dX4_ofPng_51 ?_
  refine J_iload_n O (i := 2) (k0 := 2) (pc := 52) 0 rfl rfl dX4_ofPng_52 ?_
  refine J_if_eq O (tgt := 69) (pc := 53) dX4_ofPng_53 (by decide) (fun c53 => ?_) (fun c53 => ?_)
  · have hf := jt_t c53 hf
    refine J_ldc2 O (pc := 69) mb_X4_ofPng_2 dX4_ofPng_69 ?_
    cases hf
    exact J_lret O (pc := 72) rfl dX4_ofPng_72
  · have hf := jt_f c53 hf
    refine J_aload_n O (i := 0) (k0 := 0) (pc := 56) 1 rfl rfl dX4_ofPng_56 ?_
    refine J_bipush O (v := 16) (pc := 57) (by decide) dX4_ofPng_57 ?_
    refine J_iconst O (v := 4) (pc := 59) (by decide) dX4_ofPng_59 ?_
    refine J_iload_n O (i := 1) (k0 := 1) (pc := 60) 2 rfl rfl dX4_ofPng_60 ?_
    refine J_imul O (pc := 61) dX4_ofPng_61 ?_
    refine J_iadd O (pc := 62) dX4_ofPng_62 ?_
    obtain ⟨z63, h63, hf⟩ := jt_b hf
    refine J_callVl O (pc := 63) (c_X3_u4 l D cB cI cJ q t tb t_n q_o q_l t_l t_f (16 + (4 * a1)) fu h63) rfl 0 rfl rfl gX4_ofPng_X3_u4 hdV_X3_u4 ⟨(Nat.le_of_ble_eq_true rfl), (Nat.le_of_ble_eq_true rfl)⟩ rfl (st := []) rfl (Nat.le_of_ble_eq_true rfl) [0, 1, 2] [] rfl rfl rfl rfl rfl (by decide) [(q, .inr (2, [.ref t, .int q_o, .int q_l])), (t, .inr (4, [.ref tb, .int t_l])), (tb, .inl (cB, t_n, .inl (b8 t_f)))] [0, 1, 2] rfl rfl rfl (0) (0) (Nat.le_of_ble_eq_true rfl) (Nat.le_of_ble_eq_true rfl) ⟨(Nat.le_of_ble_eq_true rfl), (Nat.le_of_ble_eq_true rfl)⟩ dX4_ofPng_63 ?_
    refine J_goto O (tgt := 72) (pc := 66) dX4_ofPng_66 (by decide) ?_
    cases hf
    exact J_lret O (pc := 72) rfl dX4_ofPng_72
set_option maxHeartbeats 4000000 in
set_option maxRecDepth 100000 in
theorem c_X4_ofPng (l : Launch) (D : va_G) (cB cI cJ : ClassId) (q t tb t_n : Nat) (q_o : Int32) (q_l : Int32) (t_l : Int32) (t_f : Nat → Int8) (a1 : Int32) (fu : Nat) {z : Int64} (hf : p_X4_ofPng fu t_n q_o q_l t_f a1 = some z) : Cl (l, D, cB, cI, cJ) yX4_ofPng wsX4_ofPng rmX4_ofPng [.ref q, .int a1] [(q, .inr (2, [.ref t, .int q_o, .int q_l])), (t, .inr (4, [.ref tb, .int t_l])), (tb, .inl (cB, t_n, .inl (b8 t_f)))] [(q, .inr (2, [.ref t, .int q_o, .int q_l])), (t, .inr (4, [.ref tb, .int t_l])), (tb, .inl (cB, t_n, .inl (b8 t_f)))] z := by
  refine Cl_of (cc := cX4_ofPng) (nL := 3) (own := RX4) (ret := (some .long)) (by decide) rfl rfl (Nat.le_of_ble_eq_true rfl) (fun X O hnm0 => ?_)
  rw [p_X4_ofPng] at hf
  show J X 3 (JQl X [(q, .inr (2, [.ref t, .int q_o, .int q_l])), (t, .inr (4, [.ref tb, .int t_l])), (tb, .inl (cB, t_n, .inl (b8 t_f)))] z 0 0) [(q, .inr (2, [.ref t, .int q_o, .int q_l])), (t, .inr (4, [.ref tb, .int t_l])), (tb, .inl (cB, t_n, .inl (b8 t_f)))] 0 0 0 [(0, .ref q), (1, .int a1)] []
  refine J_aload_n O (i := 0) (k0 := 0) (pc := 0) 0 rfl rfl dX4_ofPng_0 ?_
  refine J_get O (pc := 1) in_X4_ofPng_X3 0 rfl rfl 2 (by decide) mb_X4_ofPng_1 rfl dX4_ofPng_1 ?_
  refine J_bipush O (v := 24) (pc := 4) (by decide) dX4_ofPng_4 ?_
  refine J_icmp_lt O (tgt := 50) (pc := 6) dX4_ofPng_6 (by decide) (fun c6 => ?_) (fun c6 => ?_)
  · have hf := jt_t c6 hf
    refine J_iconst O (v := 0) (pc := 50) (by decide) dX4_ofPng_50 ?_
    refine J_sub [0, 1] (lv' := [(0, .ref q), (1, .int a1)]) rfl ?_
    exact wk_X4_ofPng_51 O q t tb t_n q_o q_l t_l t_f a1 fu 0 hf
  · have hf := jt_f c6 hf
    refine J_aload_n O (i := 0) (k0 := 0) (pc := 9) 0 rfl rfl dX4_ofPng_9 ?_
    refine J_iconst O (v := 0) (pc := 10) (by decide) dX4_ofPng_10 ?_
    obtain ⟨z11, h11, hf⟩ := jt_b hf
    refine J_callVl O (pc := 11) (c_X3_u4 l D cB cI cJ q t tb t_n q_o q_l t_l t_f 0 fu h11) rfl 0 rfl rfl gX4_ofPng_X3_u4 hdV_X3_u4 ⟨(Nat.le_of_ble_eq_true rfl), (Nat.le_of_ble_eq_true rfl)⟩ rfl (st := []) rfl (Nat.le_of_ble_eq_true rfl) [0, 1, 2] [] rfl rfl rfl rfl rfl (by decide) [(q, .inr (2, [.ref t, .int q_o, .int q_l])), (t, .inr (4, [.ref tb, .int t_l])), (tb, .inl (cB, t_n, .inl (b8 t_f)))] [0, 1, 2] rfl rfl rfl (0) (0) (Nat.le_of_ble_eq_true rfl) (Nat.le_of_ble_eq_true rfl) ⟨(Nat.le_of_ble_eq_true rfl), (Nat.le_of_ble_eq_true rfl)⟩ dX4_ofPng_11 ?_
    refine J_ldc2 O (pc := 14) mb_X4_ofPng_3 dX4_ofPng_14 ?_
    refine J_lif_ne O (tgt := 50) (pc := 17) dX4_ofPng_17 dX4_ofPng_18 (by decide) (fun c17 => ?_) (fun c17 => ?_)
    · have hf := jt_f c17 hf
      refine J_iconst O (v := 0) (pc := 50) (by decide) dX4_ofPng_50 ?_
      refine J_sub [0, 1] (lv' := [(0, .ref q), (1, .int a1)]) rfl ?_
      exact wk_X4_ofPng_51 O q t tb t_n q_o q_l t_l t_f a1 fu 0 hf
    · have hf := jt_t c17 hf
      refine J_aload_n O (i := 0) (k0 := 0) (pc := 21) 0 rfl rfl dX4_ofPng_21 ?_
      refine J_iconst O (v := 4) (pc := 22) (by decide) dX4_ofPng_22 ?_
      obtain ⟨z23, h23, hf⟩ := jt_b hf
      refine J_callVl O (pc := 23) (c_X3_u4 l D cB cI cJ q t tb t_n q_o q_l t_l t_f 4 fu h23) rfl 0 rfl rfl gX4_ofPng_X3_u4 hdV_X3_u4 ⟨(Nat.le_of_ble_eq_true rfl), (Nat.le_of_ble_eq_true rfl)⟩ rfl (st := []) rfl (Nat.le_of_ble_eq_true rfl) [0, 1, 2] [] rfl rfl rfl rfl rfl (by decide) [(q, .inr (2, [.ref t, .int q_o, .int q_l])), (t, .inr (4, [.ref tb, .int t_l])), (tb, .inl (cB, t_n, .inl (b8 t_f)))] [0, 1, 2] rfl rfl rfl (0) (0) (Nat.le_of_ble_eq_true rfl) (Nat.le_of_ble_eq_true rfl) ⟨(Nat.le_of_ble_eq_true rfl), (Nat.le_of_ble_eq_true rfl)⟩ dX4_ofPng_23 ?_
      refine J_ldc2 O (pc := 26) mb_X4_ofPng_4 dX4_ofPng_26 ?_
      refine J_lif_ne O (tgt := 50) (pc := 29) dX4_ofPng_29 dX4_ofPng_30 (by decide) (fun c29 => ?_) (fun c29 => ?_)
      · have hf := jt_f c29 hf
        refine J_iconst O (v := 0) (pc := 50) (by decide) dX4_ofPng_50 ?_
        refine J_sub [0, 1] (lv' := [(0, .ref q), (1, .int a1)]) rfl ?_
        exact wk_X4_ofPng_51 O q t tb t_n q_o q_l t_l t_f a1 fu 0 hf
      · have hf := jt_t c29 hf
        refine J_aload_n O (i := 0) (k0 := 0) (pc := 33) 0 rfl rfl dX4_ofPng_33 ?_
        refine J_bipush O (v := 12) (pc := 34) (by decide) dX4_ofPng_34 ?_
        obtain ⟨z36, h36, hf⟩ := jt_b hf
        refine J_callVl O (pc := 36) (c_X3_u4 l D cB cI cJ q t tb t_n q_o q_l t_l t_f 12 fu h36) rfl 0 rfl rfl gX4_ofPng_X3_u4 hdV_X3_u4 ⟨(Nat.le_of_ble_eq_true rfl), (Nat.le_of_ble_eq_true rfl)⟩ rfl (st := []) rfl (Nat.le_of_ble_eq_true rfl) [0, 1, 2] [] rfl rfl rfl rfl rfl (by decide) [(q, .inr (2, [.ref t, .int q_o, .int q_l])), (t, .inr (4, [.ref tb, .int t_l])), (tb, .inl (cB, t_n, .inl (b8 t_f)))] [0, 1, 2] rfl rfl rfl (0) (0) (Nat.le_of_ble_eq_true rfl) (Nat.le_of_ble_eq_true rfl) ⟨(Nat.le_of_ble_eq_true rfl), (Nat.le_of_ble_eq_true rfl)⟩ dX4_ofPng_36 ?_
        refine J_ldc2 O (pc := 39) mb_X4_ofPng_5 dX4_ofPng_39 ?_
        refine J_lif_ne O (tgt := 50) (pc := 42) dX4_ofPng_42 dX4_ofPng_43 (by decide) (fun c42 => ?_) (fun c42 => ?_)
        · have hf := jt_f c42 hf
          refine J_iconst O (v := 0) (pc := 50) (by decide) dX4_ofPng_50 ?_
          refine J_sub [0, 1] (lv' := [(0, .ref q), (1, .int a1)]) rfl ?_
          exact wk_X4_ofPng_51 O q t tb t_n q_o q_l t_l t_f a1 fu 0 hf
        · have hf := jt_t c42 hf
          refine J_iconst O (v := 1) (pc := 46) (by decide) dX4_ofPng_46 ?_
          refine J_goto O (tgt := 51) (pc := 47) dX4_ofPng_47 (by decide) ?_
          refine J_sub [0, 1] (lv' := [(0, .ref q), (1, .int a1)]) rfl ?_
          exact wk_X4_ofPng_51 O q t tb t_n q_o q_l t_l t_f a1 fu 1 hf
theorem mb_X4_ofJpeg_0 : Cond.constant RX4 45 65496 ∈ wsX4_ofJpeg := by decide +kernel
theorem in_X4_ofJpeg_X3 : ∀ w ∈ u_ws RX3 TX3 3, w ∈ wsX4_ofJpeg := fun _ h => List.mem_cons_of_mem _ (List.mem_append_left _ (List.mem_append_right _ h))
theorem mb_X4_ofJpeg_2 : Cond.fieldLink RX4 23 (TX3 2).1 (TX3 2).2.1 (TX3 2).2.2.1 ∈ wsX4_ofJpeg := by decide +kernel
theorem mb_X4_ofJpeg_3 : Cond.constantLong RX4 21 (-2) ∈ wsX4_ofJpeg := by decide +kernel
theorem hdS_X4_behindFill : yX4_behindFill.cls ≠ "java/lang/invoke/MethodHandle" ∧ yX4_behindFill.cls ≠ "java/lang/invoke/VarHandle" ∧ (parseMethodDescriptor yX4_behindFill.desc).map (fun d => d.parameters.length) = some 2 := by decide +kernel
theorem hdS_X4_standsAlone : yX4_standsAlone.cls ≠ "java/lang/invoke/MethodHandle" ∧ yX4_standsAlone.cls ≠ "java/lang/invoke/VarHandle" ∧ (parseMethodDescriptor yX4_standsAlone.desc).map (fun d => d.parameters.length) = some 1 := by decide +kernel
theorem hdS_X4_hasNoMeasure : yX4_hasNoMeasure.cls ≠ "java/lang/invoke/MethodHandle" ∧ yX4_hasNoMeasure.cls ≠ "java/lang/invoke/VarHandle" ∧ (parseMethodDescriptor yX4_hasNoMeasure.desc).map (fun d => d.parameters.length) = some 1 := by decide +kernel
theorem hdS_X4_isFrame : yX4_isFrame.cls ≠ "java/lang/invoke/MethodHandle" ∧ yX4_isFrame.cls ≠ "java/lang/invoke/VarHandle" ∧ (parseMethodDescriptor yX4_isFrame.desc).map (fun d => d.parameters.length) = some 1 := by decide +kernel
theorem hdS_X4_ofFrame : yX4_ofFrame.cls ≠ "java/lang/invoke/MethodHandle" ∧ yX4_ofFrame.cls ≠ "java/lang/invoke/VarHandle" ∧ (parseMethodDescriptor yX4_ofFrame.desc).map (fun d => d.parameters.length) = some 3 := by decide +kernel
abbrev rmX4_ofJpeg : Room := { frames := 4, cells := 0, slots := 0, locals := 90 }
set_option maxHeartbeats 4000000 in
set_option maxRecDepth 100000 in
theorem wk_X4_ofJpeg_21 {X : JC} {l : Launch} {D : va_G} {cB cI cJ : ClassId} (O : Jo X (l, D, cB, cI, cJ) cX4_ofJpeg 6 RX4 wsX4_ofJpeg rmX4_ofJpeg (some .long)) (q t tb : Nat) (t_n : Nat) (q_o : Int32) (q_l : Int32) (t_l : Int32) (t_f : Nat → Int8) (a1 : Int32) (fu : Nat) {z : Int64} : ∀ (fn : Nat) (v2 : Int32) (v3 : Int32), p_X4_ofJpeg_21 fu t_n q_o q_l t_f a1 fn v2 v3 = some z → J X 6 (JQl X [(q, .inr (2, [.ref t, .int q_o, .int q_l])), (t, .inr (4, [.ref tb, .int t_l])), (tb, .inl (cB, t_n, .inl (b8 t_f)))] z 0 0) [(q, .inr (2, [.ref t, .int q_o, .int q_l])), (t, .inr (4, [.ref tb, .int t_l])), (tb, .inl (cB, t_n, .inl (b8 t_f)))] 0 0 21 [(0, .ref q), (1, .int a1), (2, .int v2), (3, .int v3)] [] := by
  intro fn
  induction fn with
  | zero =>
    intro v2 v3 hf
    rw [p_X4_ofJpeg_21] at hf
    exact jt_n hf
  | succ fn ih =>
    intro v2 v3 hf
    rw [p_X4_ofJpeg_21] at hf
    refine J_iload_n O (i := 3) (k0 := 3) (pc := 21) 3 rfl rfl dX4_ofJpeg_21 ?_
    refine J_if_le O (tgt := 118) (pc := 22) dX4_ofJpeg_22 (by decide) (fun c22 => ?_) (fun c22 => ?_)
    · have hf := jt_t c22 hf
      refine J_ldc2 O (pc := 118) mb_X4_ofJpeg_3 dX4_ofJpeg_118 ?_
      cases hf
      exact J_lret O (pc := 121) rfl dX4_ofJpeg_121
    · have hf := jt_f c22 hf
      refine J_aload_n O (i := 0) (k0 := 0) (pc := 25) 0 rfl rfl dX4_ofJpeg_25 ?_
      refine J_iload_n O (i := 2) (k0 := 2) (pc := 26) 2 rfl rfl dX4_ofJpeg_26 ?_
      obtain ⟨z27, h27, hf⟩ := jt_b hf
      refine J_callVi O (pc := 27) (c_X3_at l D cB cI cJ q t tb t_n q_o q_l t_l t_f v2 fu h27) rfl 0 rfl rfl gX4_ofJpeg_X3_at hdV_X3_at ⟨(Nat.le_of_ble_eq_true rfl), (Nat.le_of_ble_eq_true rfl)⟩ rfl (st := []) rfl (Nat.le_of_ble_eq_true rfl) [0, 1, 2] [] rfl rfl rfl rfl rfl (by decide) [(q, .inr (2, [.ref t, .int q_o, .int q_l])), (t, .inr (4, [.ref tb, .int t_l])), (tb, .inl (cB, t_n, .inl (b8 t_f)))] [0, 1, 2] rfl rfl rfl (0) (0) (Nat.le_of_ble_eq_true rfl) (Nat.le_of_ble_eq_true rfl) ⟨(Nat.le_of_ble_eq_true rfl), (Nat.le_of_ble_eq_true rfl)⟩ dX4_ofJpeg_27 ?_
      refine J_sipush O (v := 255) (pc := 30) (by decide) dX4_ofJpeg_30 ?_
      refine J_icmp_eq O (tgt := 40) (pc := 33) dX4_ofJpeg_33 (by decide) (fun c33 => ?_) (fun c33 => ?_)
      · have hf := jt_t c33 hf
        refine J_aload_n O (i := 0) (k0 := 0) (pc := 40) 0 rfl rfl dX4_ofJpeg_40 ?_
        refine J_iload_n O (i := 2) (k0 := 2) (pc := 41) 2 rfl rfl dX4_ofJpeg_41 ?_
        obtain ⟨z42, h42, hf⟩ := jt_b hf
        refine J_callSi O (pc := 42) (c_X4_behindFill l D cB cI cJ q t tb t_n q_o q_l t_l t_f v2 fu h42) rfl gX4_ofJpeg_X4_behindFill hdS_X4_behindFill ⟨(Nat.le_of_ble_eq_true rfl), (Nat.le_of_ble_eq_true rfl)⟩ rfl (st := []) rfl (Nat.le_of_ble_eq_true rfl) [0, 1, 2] [] rfl rfl rfl rfl rfl (by decide) [(q, .inr (2, [.ref t, .int q_o, .int q_l])), (t, .inr (4, [.ref tb, .int t_l])), (tb, .inl (cB, t_n, .inl (b8 t_f)))] [0, 1, 2] rfl rfl rfl (0) (0) (Nat.le_of_ble_eq_true rfl) (Nat.le_of_ble_eq_true rfl) ⟨(Nat.le_of_ble_eq_true rfl), (Nat.le_of_ble_eq_true rfl)⟩ dX4_ofJpeg_42 ?_
        refine J_istore_n O (i := 2) (k0 := 2) (pc := 45) rfl [(2, .int z42), (0, .ref q), (1, .int a1), (3, .int v3)] (by decide) rfl dX4_ofJpeg_45 ?_
        refine J_aload_n O (i := 0) (k0 := 0) (pc := 46) 1 rfl rfl dX4_ofJpeg_46 ?_
        refine J_iload_n O (i := 2) (k0 := 2) (pc := 47) 0 rfl rfl dX4_ofJpeg_47 ?_
        obtain ⟨z48, h48, hf⟩ := jt_b hf
        refine J_callVi O (pc := 48) (c_X3_at l D cB cI cJ q t tb t_n q_o q_l t_l t_f z42 fu h48) rfl 0 rfl rfl gX4_ofJpeg_X3_at hdV_X3_at ⟨(Nat.le_of_ble_eq_true rfl), (Nat.le_of_ble_eq_true rfl)⟩ rfl (st := []) rfl (Nat.le_of_ble_eq_true rfl) [0, 1, 2] [] rfl rfl rfl rfl rfl (by decide) [(q, .inr (2, [.ref t, .int q_o, .int q_l])), (t, .inr (4, [.ref tb, .int t_l])), (tb, .inl (cB, t_n, .inl (b8 t_f)))] [0, 1, 2] rfl rfl rfl (0) (0) (Nat.le_of_ble_eq_true rfl) (Nat.le_of_ble_eq_true rfl) ⟨(Nat.le_of_ble_eq_true rfl), (Nat.le_of_ble_eq_true rfl)⟩ dX4_ofJpeg_48 ?_
        refine J_istore O (i := 4) (pc := 51) [(4, .int z48), (2, .int z42), (0, .ref q), (1, .int a1), (3, .int v3)] (by decide) rfl dX4_ofJpeg_51 ?_
        refine J_iinc O (i := 2) (n := 1) (v := z42 + 1) (pc := 53) 1 rfl [(2, .int (z42 + 1)), (4, .int z48), (0, .ref q), (1, .int a1), (3, .int v3)] (by decide) (congrArg (_ + ·) (by decide)) rfl dX4_ofJpeg_53 ?_
        refine J_iload O (i := 4) (pc := 56) 1 rfl dX4_ofJpeg_56 ?_
        obtain ⟨z58, h58, hf⟩ := jt_b hf
        refine J_callSi O (pc := 58) (c_X4_standsAlone l D cB cI cJ z48 h58) rfl gX4_ofJpeg_X4_standsAlone hdS_X4_standsAlone ⟨(Nat.le_of_ble_eq_true rfl), (Nat.le_of_ble_eq_true rfl)⟩ rfl (st := []) rfl (Nat.le_of_ble_eq_true rfl) [] [0, 1, 2] rfl rfl rfl rfl rfl (by decide) [(q, .inr (2, [.ref t, .int q_o, .int q_l])), (t, .inr (4, [.ref tb, .int t_l])), (tb, .inl (cB, t_n, .inl (b8 t_f)))] [0, 1, 2] rfl rfl rfl (0) (0) (Nat.le_of_ble_eq_true rfl) (Nat.le_of_ble_eq_true rfl) ⟨(Nat.le_of_ble_eq_true rfl), (Nat.le_of_ble_eq_true rfl)⟩ dX4_ofJpeg_58 ?_
        refine J_zeq O (tgt := 67) (pc := 61) dX4_ofJpeg_61 (by decide) (fun c61 => ?_) (fun c61 => ?_)
        · have hf := jt_f c61 hf
          refine J_aload_n O (i := 0) (k0 := 0) (pc := 67) 2 rfl rfl dX4_ofJpeg_67 ?_
          refine J_iload_n O (i := 2) (k0 := 2) (pc := 68) 0 rfl rfl dX4_ofJpeg_68 ?_
          obtain ⟨z69, h69, hf⟩ := jt_b hf
          refine J_callVi O (pc := 69) (c_X3_u2 l D cB cI cJ q t tb t_n q_o q_l t_l t_f (z42 + 1) fu h69) rfl 0 rfl rfl gX4_ofJpeg_X3_u2 hdV_X3_u2 ⟨(Nat.le_of_ble_eq_true rfl), (Nat.le_of_ble_eq_true rfl)⟩ rfl (st := []) rfl (Nat.le_of_ble_eq_true rfl) [0, 1, 2] [] rfl rfl rfl rfl rfl (by decide) [(q, .inr (2, [.ref t, .int q_o, .int q_l])), (t, .inr (4, [.ref tb, .int t_l])), (tb, .inl (cB, t_n, .inl (b8 t_f)))] [0, 1, 2] rfl rfl rfl (0) (0) (Nat.le_of_ble_eq_true rfl) (Nat.le_of_ble_eq_true rfl) ⟨(Nat.le_of_ble_eq_true rfl), (Nat.le_of_ble_eq_true rfl)⟩ dX4_ofJpeg_69 ?_
          refine J_istore O (i := 5) (pc := 72) [(5, .int z69), (2, .int (z42 + 1)), (4, .int z48), (0, .ref q), (1, .int a1), (3, .int v3)] (by decide) rfl dX4_ofJpeg_72 ?_
          refine J_iload O (i := 4) (pc := 74) 2 rfl dX4_ofJpeg_74 ?_
          obtain ⟨z76, h76, hf⟩ := jt_b hf
          refine J_callSi O (pc := 76) (c_X4_hasNoMeasure l D cB cI cJ z48 h76) rfl gX4_ofJpeg_X4_hasNoMeasure hdS_X4_hasNoMeasure ⟨(Nat.le_of_ble_eq_true rfl), (Nat.le_of_ble_eq_true rfl)⟩ rfl (st := []) rfl (Nat.le_of_ble_eq_true rfl) [] [0, 1, 2] rfl rfl rfl rfl rfl (by decide) [(q, .inr (2, [.ref t, .int q_o, .int q_l])), (t, .inr (4, [.ref tb, .int t_l])), (tb, .inl (cB, t_n, .inl (b8 t_f)))] [0, 1, 2] rfl rfl rfl (0) (0) (Nat.le_of_ble_eq_true rfl) (Nat.le_of_ble_eq_true rfl) ⟨(Nat.le_of_ble_eq_true rfl), (Nat.le_of_ble_eq_true rfl)⟩ dX4_ofJpeg_76 ?_
          refine J_zne O (tgt := 88) (pc := 79) dX4_ofJpeg_79 (by decide) (fun c79 => ?_) (fun c79 => ?_)
          · have hf := jt_t c79 hf
            refine J_ldc2 O (pc := 88) mb_X4_ofJpeg_3 dX4_ofJpeg_88 ?_
            cases hf
            exact J_lret O (pc := 91) rfl dX4_ofJpeg_91
          · have hf := jt_f c79 hf
            refine J_iload O (i := 5) (pc := 82) 0 rfl dX4_ofJpeg_82 ?_
            refine J_iconst O (v := 2) (pc := 84) (by decide) dX4_ofJpeg_84 ?_
            refine J_icmp_ge O (tgt := 92) (pc := 85) dX4_ofJpeg_85 (by decide) (fun c85 => ?_) (fun c85 => ?_)
            · have hf := jt_t c85 hf
              refine J_iload O (i := 4) (pc := 92) 2 rfl dX4_ofJpeg_92 ?_
              obtain ⟨z94, h94, hf⟩ := jt_b hf
              refine J_callSi O (pc := 94) (c_X4_isFrame l D cB cI cJ z48 h94) rfl gX4_ofJpeg_X4_isFrame hdS_X4_isFrame ⟨(Nat.le_of_ble_eq_true rfl), (Nat.le_of_ble_eq_true rfl)⟩ rfl (st := []) rfl (Nat.le_of_ble_eq_true rfl) [] [0, 1, 2] rfl rfl rfl rfl rfl (by decide) [(q, .inr (2, [.ref t, .int q_o, .int q_l])), (t, .inr (4, [.ref tb, .int t_l])), (tb, .inl (cB, t_n, .inl (b8 t_f)))] [0, 1, 2] rfl rfl rfl (0) (0) (Nat.le_of_ble_eq_true rfl) (Nat.le_of_ble_eq_true rfl) ⟨(Nat.le_of_ble_eq_true rfl), (Nat.le_of_ble_eq_true rfl)⟩ dX4_ofJpeg_94 ?_
              refine J_zeq O (tgt := 107) (pc := 97) dX4_ofJpeg_97 (by decide) (fun c97 => ?_) (fun c97 => ?_)
              · have hf := jt_f c97 hf
                refine J_iload_n O (i := 2) (k0 := 2) (pc := 107) 1 rfl rfl dX4_ofJpeg_107 ?_
                refine J_iload O (i := 5) (pc := 108) 0 rfl dX4_ofJpeg_108 ?_
                refine J_iadd O (pc := 110) dX4_ofJpeg_110 ?_
                refine J_istore_n O (i := 2) (k0 := 2) (pc := 111) rfl [(2, .int ((z42 + 1) + z69)), (5, .int z69), (4, .int z48), (0, .ref q), (1, .int a1), (3, .int v3)] (by decide) rfl dX4_ofJpeg_111 ?_
                refine J_iinc O (i := 3) (n := (-1)) (v := v3 + (-1)) (pc := 112) 5 rfl [(3, .int (v3 + (-1))), (2, .int ((z42 + 1) + z69)), (5, .int z69), (4, .int z48), (0, .ref q), (1, .int a1)] (by decide) (congrArg (_ + ·) (by decide)) rfl dX4_ofJpeg_112 ?_
                refine J_goto O (tgt := 21) (pc := 115) dX4_ofJpeg_115 (by decide) ?_
                refine J_sub [4, 5, 1, 0] (lv' := [(0, .ref q), (1, .int a1), (2, .int ((z42 + 1) + z69)), (3, .int (v3 + (-1)))]) rfl ?_
                exact ih ((z42 + 1) + z69) (v3 + (-1)) hf
              · have hf := jt_t c97 hf
                refine J_aload_n O (i := 0) (k0 := 0) (pc := 100) 3 rfl rfl dX4_ofJpeg_100 ?_
                refine J_iload_n O (i := 2) (k0 := 2) (pc := 101) 1 rfl rfl dX4_ofJpeg_101 ?_
                refine J_iload_n O (i := 1) (k0 := 1) (pc := 102) 4 rfl rfl dX4_ofJpeg_102 ?_
                obtain ⟨z103, h103, hf⟩ := jt_b hf
                refine J_callSl O (pc := 103) (c_X4_ofFrame l D cB cI cJ q t tb t_n q_o q_l t_l t_f (z42 + 1) a1 fu h103) rfl gX4_ofJpeg_X4_ofFrame hdS_X4_ofFrame ⟨(Nat.le_of_ble_eq_true rfl), (Nat.le_of_ble_eq_true rfl)⟩ rfl (st := []) rfl (Nat.le_of_ble_eq_true rfl) [0, 1, 2] [] rfl rfl rfl rfl rfl (by decide) [(q, .inr (2, [.ref t, .int q_o, .int q_l])), (t, .inr (4, [.ref tb, .int t_l])), (tb, .inl (cB, t_n, .inl (b8 t_f)))] [0, 1, 2] rfl rfl rfl (0) (0) (Nat.le_of_ble_eq_true rfl) (Nat.le_of_ble_eq_true rfl) ⟨(Nat.le_of_ble_eq_true rfl), (Nat.le_of_ble_eq_true rfl)⟩ dX4_ofJpeg_103 ?_
                cases hf
                exact J_lret O (pc := 106) rfl dX4_ofJpeg_106
            · have hf := jt_f c85 hf
              refine J_ldc2 O (pc := 88) mb_X4_ofJpeg_3 dX4_ofJpeg_88 ?_
              cases hf
              exact J_lret O (pc := 91) rfl dX4_ofJpeg_91
        · have hf := jt_t c61 hf
          refine J_goto O (tgt := 112) (pc := 64) dX4_ofJpeg_64 (by decide) ?_
          refine J_iinc O (i := 3) (n := (-1)) (v := v3 + (-1)) (pc := 112) 4 rfl [(3, .int (v3 + (-1))), (2, .int (z42 + 1)), (4, .int z48), (0, .ref q), (1, .int a1)] (by decide) (congrArg (_ + ·) (by decide)) rfl dX4_ofJpeg_112 ?_
          refine J_goto O (tgt := 21) (pc := 115) dX4_ofJpeg_115 (by decide) ?_
          refine J_sub [3, 4, 1, 0] (lv' := [(0, .ref q), (1, .int a1), (2, .int (z42 + 1)), (3, .int (v3 + (-1)))]) rfl ?_
          exact ih (z42 + 1) (v3 + (-1)) hf
      · have hf := jt_f c33 hf
        refine J_ldc2 O (pc := 36) mb_X4_ofJpeg_3 dX4_ofJpeg_36 ?_
        cases hf
        exact J_lret O (pc := 39) rfl dX4_ofJpeg_39
set_option maxHeartbeats 4000000 in
set_option maxRecDepth 100000 in
theorem c_X4_ofJpeg (l : Launch) (D : va_G) (cB cI cJ : ClassId) (q t tb t_n : Nat) (q_o : Int32) (q_l : Int32) (t_l : Int32) (t_f : Nat → Int8) (a1 : Int32) (fu : Nat) {z : Int64} (hf : p_X4_ofJpeg fu t_n q_o q_l t_f a1 = some z) : Cl (l, D, cB, cI, cJ) yX4_ofJpeg wsX4_ofJpeg rmX4_ofJpeg [.ref q, .int a1] [(q, .inr (2, [.ref t, .int q_o, .int q_l])), (t, .inr (4, [.ref tb, .int t_l])), (tb, .inl (cB, t_n, .inl (b8 t_f)))] [(q, .inr (2, [.ref t, .int q_o, .int q_l])), (t, .inr (4, [.ref tb, .int t_l])), (tb, .inl (cB, t_n, .inl (b8 t_f)))] z := by
  refine Cl_of (cc := cX4_ofJpeg) (nL := 6) (own := RX4) (ret := (some .long)) (by decide) rfl rfl (Nat.le_of_ble_eq_true rfl) (fun X O hnm0 => ?_)
  rw [p_X4_ofJpeg] at hf
  show J X 6 (JQl X [(q, .inr (2, [.ref t, .int q_o, .int q_l])), (t, .inr (4, [.ref tb, .int t_l])), (tb, .inl (cB, t_n, .inl (b8 t_f)))] z 0 0) [(q, .inr (2, [.ref t, .int q_o, .int q_l])), (t, .inr (4, [.ref tb, .int t_l])), (tb, .inl (cB, t_n, .inl (b8 t_f)))] 0 0 0 [(0, .ref q), (1, .int a1)] []
  refine J_aload_n O (i := 0) (k0 := 0) (pc := 0) 0 rfl rfl dX4_ofJpeg_0 ?_
  refine J_iconst O (v := 0) (pc := 1) (by decide) dX4_ofJpeg_1 ?_
  obtain ⟨z2, h2, hf⟩ := jt_b hf
  refine J_callVi O (pc := 2) (c_X3_u2 l D cB cI cJ q t tb t_n q_o q_l t_l t_f 0 fu h2) rfl 0 rfl rfl gX4_ofJpeg_X3_u2 hdV_X3_u2 ⟨(Nat.le_of_ble_eq_true rfl), (Nat.le_of_ble_eq_true rfl)⟩ rfl (st := []) rfl (Nat.le_of_ble_eq_true rfl) [0, 1, 2] [] rfl rfl rfl rfl rfl (by decide) [(q, .inr (2, [.ref t, .int q_o, .int q_l])), (t, .inr (4, [.ref tb, .int t_l])), (tb, .inl (cB, t_n, .inl (b8 t_f)))] [0, 1, 2] rfl rfl rfl (0) (0) (Nat.le_of_ble_eq_true rfl) (Nat.le_of_ble_eq_true rfl) ⟨(Nat.le_of_ble_eq_true rfl), (Nat.le_of_ble_eq_true rfl)⟩ dX4_ofJpeg_2 ?_
  refine J_ldc O (pc := 5) mb_X4_ofJpeg_0 dX4_ofJpeg_5 ?_
  refine J_icmp_eq O (tgt := 14) (pc := 7) dX4_ofJpeg_7 (by decide) (fun c7 => ?_) (fun c7 => ?_)
  · have hf := jt_t c7 hf
    refine J_iconst O (v := 2) (pc := 14) (by decide) dX4_ofJpeg_14 ?_
    refine J_istore_n O (i := 2) (k0 := 2) (pc := 15) rfl [(2, .int 2), (0, .ref q), (1, .int a1)] (by decide) rfl dX4_ofJpeg_15 ?_
    refine J_aload_n O (i := 0) (k0 := 0) (pc := 16) 1 rfl rfl dX4_ofJpeg_16 ?_
    refine J_get O (pc := 17) in_X4_ofJpeg_X3 0 rfl rfl 2 (by decide) mb_X4_ofJpeg_2 rfl dX4_ofJpeg_17 ?_
    refine J_istore_n O (i := 3) (k0 := 3) (pc := 20) rfl [(3, .int q_l), (2, .int 2), (0, .ref q), (1, .int a1)] (by decide) rfl dX4_ofJpeg_20 ?_
    refine J_sub [2, 3, 1, 0] (lv' := [(0, .ref q), (1, .int a1), (2, .int 2), (3, .int q_l)]) rfl ?_
    exact wk_X4_ofJpeg_21 O q t tb t_n q_o q_l t_l t_f a1 fu fu 2 q_l hf
  · have hf := jt_f c7 hf
    refine J_ldc2 O (pc := 10) mb_X4_ofJpeg_3 dX4_ofJpeg_10 ?_
    cases hf
    exact J_lret O (pc := 13) rfl dX4_ofJpeg_13
theorem hdS_X4_ofJpeg : yX4_ofJpeg.cls ≠ "java/lang/invoke/MethodHandle" ∧ yX4_ofJpeg.cls ≠ "java/lang/invoke/VarHandle" ∧ (parseMethodDescriptor yX4_ofJpeg.desc).map (fun d => d.parameters.length) = some 2 := by decide +kernel
theorem hdS_X4_ofPng : yX4_ofPng.cls ≠ "java/lang/invoke/MethodHandle" ∧ yX4_ofPng.cls ≠ "java/lang/invoke/VarHandle" ∧ (parseMethodDescriptor yX4_ofPng.desc).map (fun d => d.parameters.length) = some 2 := by decide +kernel
theorem hdS_X4_ofRect : yX4_ofRect.cls ≠ "java/lang/invoke/MethodHandle" ∧ yX4_ofRect.cls ≠ "java/lang/invoke/VarHandle" ∧ (parseMethodDescriptor yX4_ofRect.desc).map (fun d => d.parameters.length) = some 2 := by decide +kernel
theorem mb_X4_measure_0 : Cond.constantLong RX4 21 (-2) ∈ wsX4_measure := by decide +kernel
abbrev rmX4_measure : Room := { frames := 5, cells := 0, slots := 0, locals := 115 }
set_option maxHeartbeats 4000000 in
set_option maxRecDepth 100000 in
theorem c_X4_measure (l : Launch) (D : va_G) (cB cI cJ : ClassId) (q t tb t_n : Nat) (q_o : Int32) (q_l : Int32) (t_l : Int32) (t_f : Nat → Int8) (a0 : Int32) (a2 : Int32) (fu : Nat) {z : Int64} (hf : p_X4_measure fu t_n q_o q_l t_f a0 a2 = some z) : Cl (l, D, cB, cI, cJ) yX4_measure wsX4_measure rmX4_measure [.int a0, .ref q, .int a2] [(q, .inr (2, [.ref t, .int q_o, .int q_l])), (t, .inr (4, [.ref tb, .int t_l])), (tb, .inl (cB, t_n, .inl (b8 t_f)))] [(q, .inr (2, [.ref t, .int q_o, .int q_l])), (t, .inr (4, [.ref tb, .int t_l])), (tb, .inl (cB, t_n, .inl (b8 t_f)))] z := by
  refine Cl_of (cc := cX4_measure) (nL := 3) (own := RX4) (ret := (some .long)) (by decide) rfl rfl (Nat.le_of_ble_eq_true rfl) (fun X O hnm0 => ?_)
  rw [p_X4_measure] at hf
  show J X 3 (JQl X [(q, .inr (2, [.ref t, .int q_o, .int q_l])), (t, .inr (4, [.ref tb, .int t_l])), (tb, .inl (cB, t_n, .inl (b8 t_f)))] z 0 0) [(q, .inr (2, [.ref t, .int q_o, .int q_l])), (t, .inr (4, [.ref tb, .int t_l])), (tb, .inl (cB, t_n, .inl (b8 t_f)))] 0 0 0 [(0, .int a0), (1, .ref q), (2, .int a2)] []
  refine J_iload_n O (i := 0) (k0 := 0) (pc := 0) 0 rfl rfl dX4_measure_0 ?_
  by_cases c1_0 : a0 = 1246774599
  · have hf := jt_t c1_0 hf
    refine J_lookK O (tgt := 48) (off := 47) (pc := 1) 1246774599 c1_0 dX4_measure_1 (by decide) (by decide) (by decide) ?_
    refine J_aload_n O (i := 1) (k0 := 1) (pc := 48) 1 rfl rfl dX4_measure_48 ?_
    refine J_iload_n O (i := 2) (k0 := 2) (pc := 49) 2 rfl rfl dX4_measure_49 ?_
    obtain ⟨z50, h50, hf⟩ := jt_b hf
    refine J_callSl O (pc := 50) (c_X4_ofJpeg l D cB cI cJ q t tb t_n q_o q_l t_l t_f a2 fu h50) rfl gX4_measure_X4_ofJpeg hdS_X4_ofJpeg ⟨(Nat.le_of_ble_eq_true rfl), (Nat.le_of_ble_eq_true rfl)⟩ rfl (st := []) rfl (Nat.le_of_ble_eq_true rfl) [0, 1, 2] [] rfl rfl rfl rfl rfl (by decide) [(q, .inr (2, [.ref t, .int q_o, .int q_l])), (t, .inr (4, [.ref tb, .int t_l])), (tb, .inl (cB, t_n, .inl (b8 t_f)))] [0, 1, 2] rfl rfl rfl (0) (0) (Nat.le_of_ble_eq_true rfl) (Nat.le_of_ble_eq_true rfl) ⟨(Nat.le_of_ble_eq_true rfl), (Nat.le_of_ble_eq_true rfl)⟩ dX4_measure_50 ?_
    cases hf
    exact J_lret O (pc := 53) rfl dX4_measure_53
  · have hf := jt_f c1_0 hf
    by_cases c1_1 : a0 = 1347307296
    · have hf := jt_t c1_1 hf
      refine J_lookK O (tgt := 42) (off := 41) (pc := 1) 1347307296 c1_1 dX4_measure_1 (by decide) (by decide) (by decide) ?_
      refine J_aload_n O (i := 1) (k0 := 1) (pc := 42) 1 rfl rfl dX4_measure_42 ?_
      refine J_iload_n O (i := 2) (k0 := 2) (pc := 43) 2 rfl rfl dX4_measure_43 ?_
      obtain ⟨z44, h44, hf⟩ := jt_b hf
      refine J_callSl O (pc := 44) (c_X4_ofPng l D cB cI cJ q t tb t_n q_o q_l t_l t_f a2 fu h44) rfl gX4_measure_X4_ofPng hdS_X4_ofPng ⟨(Nat.le_of_ble_eq_true rfl), (Nat.le_of_ble_eq_true rfl)⟩ rfl (st := []) rfl (Nat.le_of_ble_eq_true rfl) [0, 1, 2] [] rfl rfl rfl rfl rfl (by decide) [(q, .inr (2, [.ref t, .int q_o, .int q_l])), (t, .inr (4, [.ref tb, .int t_l])), (tb, .inl (cB, t_n, .inl (b8 t_f)))] [0, 1, 2] rfl rfl rfl (0) (0) (Nat.le_of_ble_eq_true rfl) (Nat.le_of_ble_eq_true rfl) ⟨(Nat.le_of_ble_eq_true rfl), (Nat.le_of_ble_eq_true rfl)⟩ dX4_measure_44 ?_
      cases hf
      exact J_lret O (pc := 47) rfl dX4_measure_47
    · have hf := jt_f c1_1 hf
      by_cases c1_2 : a0 = 1382376308
      · have hf := jt_t c1_2 hf
        refine J_lookK O (tgt := 36) (off := 35) (pc := 1) 1382376308 c1_2 dX4_measure_1 (by decide) (by decide) (by decide) ?_
        refine J_aload_n O (i := 1) (k0 := 1) (pc := 36) 1 rfl rfl dX4_measure_36 ?_
        refine J_iload_n O (i := 2) (k0 := 2) (pc := 37) 2 rfl rfl dX4_measure_37 ?_
        obtain ⟨z38, h38, hf⟩ := jt_b hf
        refine J_callSl O (pc := 38) (c_X4_ofRect l D cB cI cJ q t tb t_n q_o q_l t_l t_f a2 fu h38) rfl gX4_measure_X4_ofRect hdS_X4_ofRect ⟨(Nat.le_of_ble_eq_true rfl), (Nat.le_of_ble_eq_true rfl)⟩ rfl (st := []) rfl (Nat.le_of_ble_eq_true rfl) [0, 1, 2] [] rfl rfl rfl rfl rfl (by decide) [(q, .inr (2, [.ref t, .int q_o, .int q_l])), (t, .inr (4, [.ref tb, .int t_l])), (tb, .inl (cB, t_n, .inl (b8 t_f)))] [0, 1, 2] rfl rfl rfl (0) (0) (Nat.le_of_ble_eq_true rfl) (Nat.le_of_ble_eq_true rfl) ⟨(Nat.le_of_ble_eq_true rfl), (Nat.le_of_ble_eq_true rfl)⟩ dX4_measure_38 ?_
        cases hf
        exact J_lret O (pc := 41) rfl dX4_measure_41
      · have hf := jt_f c1_2 hf
        refine J_lookup O (tgt := 54) (off := 53) (pc := 1) dX4_measure_1 (by decide) ((lv_osw c1_0 (by decide)).trans ((lv_osw c1_1 (by decide)).trans ((lv_osw c1_2 (by decide)).trans rfl))) (by decide) ?_
        refine J_ldc2 O (pc := 54) mb_X4_measure_0 dX4_measure_54 ?_
        cases hf
        exact J_lret O (pc := 57) rfl dX4_measure_57
theorem mb_X7_rate_0 : Cond.constantLong RX7 19 (-2) ∈ wsX7_rate := by decide +kernel
abbrev rmX7_rate : Room := { frames := 3, cells := 0, slots := 0, locals := 68 }
set_option maxHeartbeats 4000000 in
set_option maxRecDepth 100000 in
theorem c_X7_rate (l : Launch) (D : va_G) (cB cI cJ : ClassId) (q t tb t_n : Nat) (q_o : Int32) (q_l : Int32) (t_l : Int32) (t_f : Nat → Int8) (a1 : Int32) (fu : Nat) {z : Int64} (hf : p_X7_rate fu t_n q_o q_l t_f a1 = some z) : Cl (l, D, cB, cI, cJ) yX7_rate wsX7_rate rmX7_rate [.ref q, .int a1] [(q, .inr (2, [.ref t, .int q_o, .int q_l])), (t, .inr (4, [.ref tb, .int t_l])), (tb, .inl (cB, t_n, .inl (b8 t_f)))] [(q, .inr (2, [.ref t, .int q_o, .int q_l])), (t, .inr (4, [.ref tb, .int t_l])), (tb, .inl (cB, t_n, .inl (b8 t_f)))] z := by
  refine Cl_of (cc := cX7_rate) (nL := 6) (own := RX7) (ret := (some .long)) (by decide) rfl rfl (Nat.le_of_ble_eq_true rfl) (fun X O hnm0 => ?_)
  rw [p_X7_rate] at hf
  show J X 6 (JQl X [(q, .inr (2, [.ref t, .int q_o, .int q_l])), (t, .inr (4, [.ref tb, .int t_l])), (tb, .inl (cB, t_n, .inl (b8 t_f)))] z 0 0) [(q, .inr (2, [.ref t, .int q_o, .int q_l])), (t, .inr (4, [.ref tb, .int t_l])), (tb, .inl (cB, t_n, .inl (b8 t_f)))] 0 0 0 [(0, .ref q), (1, .int a1)] []
  refine J_aload_n O (i := 0) (k0 := 0) (pc := 0) 0 rfl rfl dX7_rate_0 ?_
  refine J_iload_n O (i := 1) (k0 := 1) (pc := 1) 1 rfl rfl dX7_rate_1 ?_
  obtain ⟨z2, h2, hf⟩ := jt_b hf
  refine J_callVi O (pc := 2) (c_X3_u2 l D cB cI cJ q t tb t_n q_o q_l t_l t_f a1 fu h2) rfl 0 rfl rfl gX7_rate_X3_u2 hdV_X3_u2 ⟨(Nat.le_of_ble_eq_true rfl), (Nat.le_of_ble_eq_true rfl)⟩ rfl (st := []) rfl (Nat.le_of_ble_eq_true rfl) [0, 1, 2] [] rfl rfl rfl rfl rfl (by decide) [(q, .inr (2, [.ref t, .int q_o, .int q_l])), (t, .inr (4, [.ref tb, .int t_l])), (tb, .inl (cB, t_n, .inl (b8 t_f)))] [0, 1, 2] rfl rfl rfl (0) (0) (Nat.le_of_ble_eq_true rfl) (Nat.le_of_ble_eq_true rfl) ⟨(Nat.le_of_ble_eq_true rfl), (Nat.le_of_ble_eq_true rfl)⟩ dX7_rate_2 ?_
  refine J_istore_n O (i := 2) (k0 := 2) (pc := 5) rfl [(2, .int z2), (0, .ref q), (1, .int a1)] (by decide) rfl dX7_rate_5 ?_
  refine J_iload_n O (i := 2) (k0 := 2) (pc := 6) 0 rfl rfl dX7_rate_6 ?_
  refine J_sipush O (v := 16445) (pc := 7) (by decide) dX7_rate_7 ?_
  refine J_icmp_le O (tgt := 17) (pc := 10) dX7_rate_10 (by decide) (fun c10 => ?_) (fun c10 => ?_)
  · have hf := jt_t c10 hf
    refine J_sipush O (v := 16446) (pc := 17) (by decide) dX7_rate_17 ?_
    refine J_iload_n O (i := 2) (k0 := 2) (pc := 20) 0 rfl rfl dX7_rate_20 ?_
    refine J_isub O (pc := 21) dX7_rate_21 ?_
    refine J_istore_n O (i := 3) (k0 := 3) (pc := 22) rfl [(3, .int (16446 - z2)), (2, .int z2), (0, .ref q), (1, .int a1)] (by decide) rfl dX7_rate_22 ?_
    refine J_aload_n O (i := 0) (k0 := 0) (pc := 23) 2 rfl rfl dX7_rate_23 ?_
    refine J_iload_n O (i := 1) (k0 := 1) (pc := 24) 3 rfl rfl dX7_rate_24 ?_
    refine J_iconst O (v := 2) (pc := 25) (by decide) dX7_rate_25 ?_
    refine J_iadd O (pc := 26) dX7_rate_26 ?_
    obtain ⟨z27, h27, hf⟩ := jt_b hf
    refine J_callVl O (pc := 27) (c_X3_u4 l D cB cI cJ q t tb t_n q_o q_l t_l t_f (a1 + 2) fu h27) rfl 0 rfl rfl gX7_rate_X3_u4 hdV_X3_u4 ⟨(Nat.le_of_ble_eq_true rfl), (Nat.le_of_ble_eq_true rfl)⟩ rfl (st := []) rfl (Nat.le_of_ble_eq_true rfl) [0, 1, 2] [] rfl rfl rfl rfl rfl (by decide) [(q, .inr (2, [.ref t, .int q_o, .int q_l])), (t, .inr (4, [.ref tb, .int t_l])), (tb, .inl (cB, t_n, .inl (b8 t_f)))] [0, 1, 2] rfl rfl rfl (0) (0) (Nat.le_of_ble_eq_true rfl) (Nat.le_of_ble_eq_true rfl) ⟨(Nat.le_of_ble_eq_true rfl), (Nat.le_of_ble_eq_true rfl)⟩ dX7_rate_27 ?_
    refine J_bipush O (v := 32) (pc := 30) (by decide) dX7_rate_30 ?_
    refine J_lshl O (pc := 32) dX7_rate_32 ?_
    refine J_aload_n O (i := 0) (k0 := 0) (pc := 33) 2 rfl rfl dX7_rate_33 ?_
    refine J_iload_n O (i := 1) (k0 := 1) (pc := 34) 3 rfl rfl dX7_rate_34 ?_
    refine J_bipush O (v := 6) (pc := 35) (by decide) dX7_rate_35 ?_
    refine J_iadd O (pc := 37) dX7_rate_37 ?_
    obtain ⟨z38, h38, hf⟩ := jt_b hf
    refine J_callVl O (pc := 38) (c_X3_u4 l D cB cI cJ q t tb t_n q_o q_l t_l t_f (a1 + 6) fu h38) rfl 0 rfl rfl gX7_rate_X3_u4 hdV_X3_u4 ⟨(Nat.le_of_ble_eq_true rfl), (Nat.le_of_ble_eq_true rfl)⟩ rfl (st := [.long (z27 <<< ((32 : Int32).toInt64 &&& 63))]) rfl (Nat.le_of_ble_eq_true rfl) [0, 1, 2] [] rfl rfl rfl rfl rfl (by decide) [(q, .inr (2, [.ref t, .int q_o, .int q_l])), (t, .inr (4, [.ref tb, .int t_l])), (tb, .inl (cB, t_n, .inl (b8 t_f)))] [0, 1, 2] rfl rfl rfl (0) (0) (Nat.le_of_ble_eq_true rfl) (Nat.le_of_ble_eq_true rfl) ⟨(Nat.le_of_ble_eq_true rfl), (Nat.le_of_ble_eq_true rfl)⟩ dX7_rate_38 ?_
    refine J_lor O (pc := 41) dX7_rate_41 ?_
    refine J_lstore O (i := 4) (pc := 42) [(4, .long ((z27 <<< ((32 : Int32).toInt64 &&& 63)) ||| z38)), (3, .int (16446 - z2)), (2, .int z2), (0, .ref q), (1, .int a1)] (by decide) rfl dX7_rate_42 ?_
    refine J_iload_n O (i := 3) (k0 := 3) (pc := 44) 1 rfl rfl dX7_rate_44 ?_
    refine J_bipush O (v := 63) (pc := 45) (by decide) dX7_rate_45 ?_
    refine J_icmp_le O (tgt := 54) (pc := 47) dX7_rate_47 (by decide) (fun c47 => ?_) (fun c47 => ?_)
    · have hf := jt_t c47 hf
      refine J_lload O (i := 4) (pc := 54) 0 rfl dX7_rate_54 ?_
      refine J_iload_n O (i := 3) (k0 := 3) (pc := 56) 1 rfl rfl dX7_rate_56 ?_
      refine J_lushr O (pc := 57) dX7_rate_57 ?_
      cases hf
      exact J_lret O (pc := 58) rfl dX7_rate_58
    · have hf := jt_f c47 hf
      refine J_lconst O (v := 0) (pc := 50) (by decide) dX7_rate_50 ?_
      refine J_goto O (tgt := 58) (pc := 51) dX7_rate_51 (by decide) ?_
      cases hf
      exact J_lret O (pc := 58) rfl dX7_rate_58
  · have hf := jt_f c10 hf
    refine J_ldc2 O (pc := 13) mb_X7_rate_0 dX7_rate_13 ?_
    cases hf
    exact J_lret O (pc := 16) rfl dX7_rate_16
theorem hdS_X7_rate : yX7_rate.cls ≠ "java/lang/invoke/MethodHandle" ∧ yX7_rate.cls ≠ "java/lang/invoke/VarHandle" ∧ (parseMethodDescriptor yX7_rate.desc).map (fun d => d.parameters.length) = some 2 := by decide +kernel
theorem mb_X7_ofComm_0 : Cond.constantLong RX7 19 (-2) ∈ wsX7_ofComm := by decide +kernel
abbrev rmX7_ofComm : Room := { frames := 4, cells := 0, slots := 0, locals := 93 }
set_option maxHeartbeats 4000000 in
set_option maxRecDepth 100000 in
theorem c_X7_ofComm (l : Launch) (D : va_G) (cB cI cJ : ClassId) (q t tb t_n : Nat) (q_o : Int32) (q_l : Int32) (t_l : Int32) (t_f : Nat → Int8) (a1 : Int32) (a2 : Int32) (fu : Nat) {z : Int64} (hf : p_X7_ofComm fu t_n q_o q_l t_f a1 a2 = some z) : Cl (l, D, cB, cI, cJ) yX7_ofComm wsX7_ofComm rmX7_ofComm [.ref q, .int a1, .int a2] [(q, .inr (2, [.ref t, .int q_o, .int q_l])), (t, .inr (4, [.ref tb, .int t_l])), (tb, .inl (cB, t_n, .inl (b8 t_f)))] [(q, .inr (2, [.ref t, .int q_o, .int q_l])), (t, .inr (4, [.ref tb, .int t_l])), (tb, .inl (cB, t_n, .inl (b8 t_f)))] z := by
  refine Cl_of (cc := cX7_ofComm) (nL := 3) (own := RX7) (ret := (some .long)) (by decide) rfl rfl (Nat.le_of_ble_eq_true rfl) (fun X O hnm0 => ?_)
  rw [p_X7_ofComm] at hf
  show J X 3 (JQl X [(q, .inr (2, [.ref t, .int q_o, .int q_l])), (t, .inr (4, [.ref tb, .int t_l])), (tb, .inl (cB, t_n, .inl (b8 t_f)))] z 0 0) [(q, .inr (2, [.ref t, .int q_o, .int q_l])), (t, .inr (4, [.ref tb, .int t_l])), (tb, .inl (cB, t_n, .inl (b8 t_f)))] 0 0 0 [(0, .ref q), (1, .int a1), (2, .int a2)] []
  refine J_iload_n O (i := 2) (k0 := 2) (pc := 0) 2 rfl rfl dX7_ofComm_0 ?_
  by_cases c1_0 : a2 = 0
  · have hf := jt_t c1_0 hf
    refine J_tabK O (tgt := 32) (off := 31) (pc := 1) 0 c1_0 (by decide) (by decide) (by decide) dX7_ofComm_1 (by decide) ?_
    refine J_aload_n O (i := 0) (k0 := 0) (pc := 32) 0 rfl rfl dX7_ofComm_32 ?_
    refine J_iload_n O (i := 1) (k0 := 1) (pc := 33) 1 rfl rfl dX7_ofComm_33 ?_
    obtain ⟨z34, h34, hf⟩ := jt_b hf
    refine J_callVi O (pc := 34) (c_X3_u2 l D cB cI cJ q t tb t_n q_o q_l t_l t_f a1 fu h34) rfl 0 rfl rfl gX7_ofComm_X3_u2 hdV_X3_u2 ⟨(Nat.le_of_ble_eq_true rfl), (Nat.le_of_ble_eq_true rfl)⟩ rfl (st := []) rfl (Nat.le_of_ble_eq_true rfl) [0, 1, 2] [] rfl rfl rfl rfl rfl (by decide) [(q, .inr (2, [.ref t, .int q_o, .int q_l])), (t, .inr (4, [.ref tb, .int t_l])), (tb, .inl (cB, t_n, .inl (b8 t_f)))] [0, 1, 2] rfl rfl rfl (0) (0) (Nat.le_of_ble_eq_true rfl) (Nat.le_of_ble_eq_true rfl) ⟨(Nat.le_of_ble_eq_true rfl), (Nat.le_of_ble_eq_true rfl)⟩ dX7_ofComm_34 ?_
    refine J_i2l O (pc := 37) dX7_ofComm_37 ?_
    cases hf
    exact J_lret O (pc := 38) rfl dX7_ofComm_38
  · have hf := jt_f c1_0 hf
    by_cases c1_1 : a2 = 1
    · have hf := jt_t c1_1 hf
      refine J_tabK O (tgt := 39) (off := 38) (pc := 1) 1 c1_1 (by decide) (by decide) (by decide) dX7_ofComm_1 (by decide) ?_
      refine J_aload_n O (i := 0) (k0 := 0) (pc := 39) 0 rfl rfl dX7_ofComm_39 ?_
      refine J_iload_n O (i := 1) (k0 := 1) (pc := 40) 1 rfl rfl dX7_ofComm_40 ?_
      refine J_iconst O (v := 2) (pc := 41) (by decide) dX7_ofComm_41 ?_
      refine J_iadd O (pc := 42) dX7_ofComm_42 ?_
      obtain ⟨z43, h43, hf⟩ := jt_b hf
      refine J_callVl O (pc := 43) (c_X3_u4 l D cB cI cJ q t tb t_n q_o q_l t_l t_f (a1 + 2) fu h43) rfl 0 rfl rfl gX7_ofComm_X3_u4 hdV_X3_u4 ⟨(Nat.le_of_ble_eq_true rfl), (Nat.le_of_ble_eq_true rfl)⟩ rfl (st := []) rfl (Nat.le_of_ble_eq_true rfl) [0, 1, 2] [] rfl rfl rfl rfl rfl (by decide) [(q, .inr (2, [.ref t, .int q_o, .int q_l])), (t, .inr (4, [.ref tb, .int t_l])), (tb, .inl (cB, t_n, .inl (b8 t_f)))] [0, 1, 2] rfl rfl rfl (0) (0) (Nat.le_of_ble_eq_true rfl) (Nat.le_of_ble_eq_true rfl) ⟨(Nat.le_of_ble_eq_true rfl), (Nat.le_of_ble_eq_true rfl)⟩ dX7_ofComm_43 ?_
      cases hf
      exact J_lret O (pc := 46) rfl dX7_ofComm_46
    · have hf := jt_f c1_1 hf
      by_cases c1_2 : a2 = 2
      · have hf := jt_t c1_2 hf
        refine J_tabK O (tgt := 47) (off := 46) (pc := 1) 2 c1_2 (by decide) (by decide) (by decide) dX7_ofComm_1 (by decide) ?_
        refine J_aload_n O (i := 0) (k0 := 0) (pc := 47) 0 rfl rfl dX7_ofComm_47 ?_
        refine J_iload_n O (i := 1) (k0 := 1) (pc := 48) 1 rfl rfl dX7_ofComm_48 ?_
        refine J_bipush O (v := 6) (pc := 49) (by decide) dX7_ofComm_49 ?_
        refine J_iadd O (pc := 51) dX7_ofComm_51 ?_
        obtain ⟨z52, h52, hf⟩ := jt_b hf
        refine J_callVi O (pc := 52) (c_X3_u2 l D cB cI cJ q t tb t_n q_o q_l t_l t_f (a1 + 6) fu h52) rfl 0 rfl rfl gX7_ofComm_X3_u2 hdV_X3_u2 ⟨(Nat.le_of_ble_eq_true rfl), (Nat.le_of_ble_eq_true rfl)⟩ rfl (st := []) rfl (Nat.le_of_ble_eq_true rfl) [0, 1, 2] [] rfl rfl rfl rfl rfl (by decide) [(q, .inr (2, [.ref t, .int q_o, .int q_l])), (t, .inr (4, [.ref tb, .int t_l])), (tb, .inl (cB, t_n, .inl (b8 t_f)))] [0, 1, 2] rfl rfl rfl (0) (0) (Nat.le_of_ble_eq_true rfl) (Nat.le_of_ble_eq_true rfl) ⟨(Nat.le_of_ble_eq_true rfl), (Nat.le_of_ble_eq_true rfl)⟩ dX7_ofComm_52 ?_
        refine J_i2l O (pc := 55) dX7_ofComm_55 ?_
        cases hf
        exact J_lret O (pc := 56) rfl dX7_ofComm_56
      · have hf := jt_f c1_2 hf
        by_cases c1_3 : a2 = 3
        · have hf := jt_t c1_3 hf
          refine J_tabK O (tgt := 57) (off := 56) (pc := 1) 3 c1_3 (by decide) (by decide) (by decide) dX7_ofComm_1 (by decide) ?_
          refine J_aload_n O (i := 0) (k0 := 0) (pc := 57) 0 rfl rfl dX7_ofComm_57 ?_
          refine J_iload_n O (i := 1) (k0 := 1) (pc := 58) 1 rfl rfl dX7_ofComm_58 ?_
          refine J_bipush O (v := 8) (pc := 59) (by decide) dX7_ofComm_59 ?_
          refine J_iadd O (pc := 61) dX7_ofComm_61 ?_
          obtain ⟨z62, h62, hf⟩ := jt_b hf
          refine J_callSl O (pc := 62) (c_X7_rate l D cB cI cJ q t tb t_n q_o q_l t_l t_f (a1 + 8) fu h62) rfl gX7_ofComm_X7_rate hdS_X7_rate ⟨(Nat.le_of_ble_eq_true rfl), (Nat.le_of_ble_eq_true rfl)⟩ rfl (st := []) rfl (Nat.le_of_ble_eq_true rfl) [0, 1, 2] [] rfl rfl rfl rfl rfl (by decide) [(q, .inr (2, [.ref t, .int q_o, .int q_l])), (t, .inr (4, [.ref tb, .int t_l])), (tb, .inl (cB, t_n, .inl (b8 t_f)))] [0, 1, 2] rfl rfl rfl (0) (0) (Nat.le_of_ble_eq_true rfl) (Nat.le_of_ble_eq_true rfl) ⟨(Nat.le_of_ble_eq_true rfl), (Nat.le_of_ble_eq_true rfl)⟩ dX7_ofComm_62 ?_
          cases hf
          exact J_lret O (pc := 65) rfl dX7_ofComm_65
        · have hf := jt_f c1_3 hf
          refine J_tabOut O (tgt := 66) (pc := 1) 4 (fun j hj => match j, hj with | 0, _ => c1_0 | 1, _ => c1_1 | 2, _ => c1_2 | 3, _ => c1_3 | (j + 4), hj => absurd hj (by omega)) (by decide) (by decide) dX7_ofComm_1 (by decide) ?_
          refine J_ldc2 O (pc := 66) mb_X7_ofComm_0 dX7_ofComm_66 ?_
          cases hf
          exact J_lret O (pc := 69) rfl dX7_ofComm_69
