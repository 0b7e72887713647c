theorem mb_X0_writeTo_0 : Cond.constantLong RX0 95 1179603533 ∈ wsX0_writeTo := by decide +kernel
theorem hdV_X6_append : yX6_append.cls = RX6 ∧ yX6_append.cls ≠ "java/lang/invoke/MethodHandle" ∧ yX6_append.cls ≠ "java/lang/invoke/VarHandle" ∧ (parseMethodDescriptor yX6_append.desc).map (fun d => d.parameters.length) = some 2 := by decide +kernel
theorem in_X0_writeTo_X0 : ∀ w ∈ u_ws RX0 TX0 8, w ∈ wsX0_writeTo := fun _ h => List.mem_cons_of_mem _ (List.mem_append_left _ (List.mem_append_left _ (List.mem_append_right _ h)))
theorem mb_X0_writeTo_2 : Cond.fieldLink RX0 27 (TX0 3).1 (TX0 3).2.1 (TX0 3).2.2.1 ∈ wsX0_writeTo := by decide +kernel
theorem hdV_X0_placeOf : yX0_placeOf.cls = RX0 ∧ yX0_placeOf.cls ≠ "java/lang/invoke/MethodHandle" ∧ yX0_placeOf.cls ≠ "java/lang/invoke/VarHandle" ∧ (parseMethodDescriptor yX0_placeOf.desc).map (fun d => d.parameters.length) = some 1 := by decide +kernel
theorem mb_X0_writeTo_3 : Cond.constantLong RX0 104 1229345363 ∈ wsX0_writeTo := by decide +kernel
theorem mb_X0_writeTo_4 : Cond.constantLong RX0 106 1380541560 ∈ wsX0_writeTo := by decide +kernel
theorem mb_X0_writeTo_5 : Cond.fieldLink RX0 41 (TX0 7).1 (TX0 7).2.1 (TX0 7).2.2.1 ∈ wsX0_writeTo := by decide +kernel
theorem mb_X0_writeTo_6 : Cond.fieldLink RX0 20 (TX0 1).1 (TX0 1).2.1 (TX0 1).2.2.1 ∈ wsX0_writeTo := by decide +kernel
theorem in_X0_writeTo_X6 : ∀ w ∈ u_ws RX6 TX6 2, w ∈ wsX0_writeTo := fun _ h => List.mem_cons_of_mem _ (List.mem_append_left _ (List.mem_append_right _ h))
theorem mb_X0_writeTo_8 : Cond.fieldLink RX0 86 (TX6 1).1 (TX6 1).2.1 (TX6 1).2.2.1 ∈ wsX0_writeTo := by decide +kernel
theorem mb_X0_writeTo_9 : Cond.fieldLink RX0 31 (TX0 4).1 (TX0 4).2.1 (TX0 4).2.2.1 ∈ wsX0_writeTo := by decide +kernel
theorem mb_X0_writeTo_10 : Cond.fieldLink RX0 34 (TX0 5).1 (TX0 5).2.1 (TX0 5).2.2.1 ∈ wsX0_writeTo := by decide +kernel
theorem mb_X0_writeTo_11 : Cond.fieldLink RX0 38 (TX0 6).1 (TX0 6).2.1 (TX0 6).2.2.1 ∈ wsX0_writeTo := by decide +kernel
abbrev rmX0_writeTo : Room := { frames := 3, cells := 65, slots := 195, locals := 65 }
set_option maxHeartbeats 4000000 in
set_option maxRecDepth 100000 in
theorem wk_X0_writeTo_123 {X : JC} {l : Launch} {D : va_G} {cB cI cJ : ClassId} (O : Jo X (l, D, cB, cI, cJ) cX0_writeTo 3 RX0 wsX0_writeTo rmX0_writeTo none) (h d db hk hs hu hn hg o ob : Nat) (o_n : Nat) (h_c : Int32) (h_e : Int32) (d_l : Int32) (d_f : Nat → Int8) (h_k : Nat → Int32) (h_s : Nat → Int32) (h_u : Nat → Int32) (h_n : Nat → Int64) (h_g : Nat → Int32) (fu : Nat) {z : Int32 × (Nat → Int8)} : ∀ (fn : Nat) (v2 : Int32) (o_l : Int32) (o_f : Nat → Int8), fn ≤ 64 → p_X0_writeTo_123 fu o_n h_c h_e d_l d_f h_k h_s h_u h_n h_g fn v2 o_l o_f = some z → J X 3 (JQv X [(h, .inr (0, [.ref d, .ref hk, .ref hs, .int h_c, .ref hu, .ref hn, .ref hg, .int h_e])), (d, .inr (4, [.ref db, .int d_l])), (db, .inl (cB, 12000, .inl (b8 d_f))), (hk, .inl (cI, 60, .inl h_k)), (hs, .inl (cI, 61, .inl h_s)), (hu, .inl (cI, 40, .inl h_u)), (hn, .inl (cJ, 40, .inr (.inl h_n))), (hg, .inl (cI, 40, .inl h_g)), (o, .inr (4, [.ref ob, .int z.1])), (ob, .inl (cB, o_n, .inl (b8 z.2)))] 65 195) [(h, .inr (0, [.ref d, .ref hk, .ref hs, .int h_c, .ref hu, .ref hn, .ref hg, .int h_e])), (d, .inr (4, [.ref db, .int d_l])), (db, .inl (cB, 12000, .inl (b8 d_f))), (hk, .inl (cI, 60, .inl h_k)), (hs, .inl (cI, 61, .inl h_s)), (hu, .inl (cI, 40, .inl h_u)), (hn, .inl (cJ, 40, .inr (.inl h_n))), (hg, .inl (cI, 40, .inl h_g)), (o, .inr (4, [.ref ob, .int o_l])), (ob, .inl (cB, o_n, .inl (b8 o_f)))] (0 + 1 * (64 - fn)) (0 + 3 * (64 - fn)) 123 [(0, .ref h), (1, .ref o), (2, .int v2)] [] := by
  intro fn
  induction fn with
  | zero =>
    intro v2 o_l o_f hfn hf
    rw [p_X0_writeTo_123] at hf
    exact jt_n hf
  | succ fn ih =>
    intro v2 o_l o_f hfn hf
    rw [p_X0_writeTo_123] at hf
    refine J_iload_n O (i := 2) (k0 := 2) (pc := 123) 2 rfl rfl dX0_writeTo_123 ?_
    refine J_aload_n O (i := 0) (k0 := 0) (pc := 124) 0 rfl rfl dX0_writeTo_124 ?_
    refine J_get O (pc := 125) in_X0_writeTo_X0 0 rfl rfl 3 (by decide) mb_X0_writeTo_2 rfl dX0_writeTo_125 ?_
    refine J_icmp_ge O (tgt := 186) (pc := 128) dX0_writeTo_128 (by decide) (fun c128 => ?_) (fun c128 => ?_)
    · have hf := jt_t c128 hf
      refine J_widen 64 192 (by omega) (by omega) ?_
      cases hf
      refine J_widen 65 195 (Nat.le_of_ble_eq_true rfl) (Nat.le_of_ble_eq_true rfl) ?_
      exact J_vret O (pc := 186) dX0_writeTo_186
    · have hf := jt_f c128 hf
      refine J_aload_n O (i := 1) (k0 := 1) (pc := 131) 1 rfl rfl dX0_writeTo_131 ?_
      refine J_iconst O (v := 4) (pc := 132) (by decide) dX0_writeTo_132 ?_
      refine J_aload_n O (i := 0) (k0 := 0) (pc := 133) 0 rfl rfl dX0_writeTo_133 ?_
      refine J_get O (pc := 134) in_X0_writeTo_X0 0 rfl rfl 1 (by decide) mb_X0_writeTo_6 rfl dX0_writeTo_134 ?_
      refine J_iload_n O (i := 2) (k0 := 2) (pc := 137) 2 rfl rfl dX0_writeTo_137 ?_
      obtain ⟨h138, hf⟩ := jt_g hf
      refine J_iald O (pc := 138) 3 1 rfl rfl h138 dX0_writeTo_138 ?_
      refine J_i2l O (pc := 139) dX0_writeTo_139 ?_
      obtain ⟨z140, h140, hf⟩ := jt_b hf
      refine J_callVv O (pc := 140) (c_X6_append l D cB cI cJ o ob o_n o_l o_f 4 (Int32.toInt64 (h_k (Int32.toNatClampNeg v2))) fu h140) rfl 0 rfl rfl gX0_writeTo_X6_append hdV_X6_append ⟨(Nat.le_of_ble_eq_true rfl), (Nat.le_of_ble_eq_true rfl)⟩ rfl (st := []) rfl (Nat.le_of_ble_eq_true rfl) [8, 9] [0, 1, 2, 3, 4, 5, 6, 7] rfl rfl rfl rfl rfl (by decide) [(h, .inr (0, [.ref d, .ref hk, .ref hs, .int h_c, .ref hu, .ref hn, .ref hg, .int h_e])), (d, .inr (4, [.ref db, .int d_l])), (db, .inl (cB, 12000, .inl (b8 d_f))), (hk, .inl (cI, 60, .inl h_k)), (hs, .inl (cI, 61, .inl h_s)), (hu, .inl (cI, 40, .inl h_u)), (hn, .inl (cJ, 40, .inr (.inl h_n))), (hg, .inl (cI, 40, .inl h_g)), (o, .inr (4, [.ref ob, .int z140.1])), (ob, .inl (cB, o_n, .inl (b8 z140.2)))] [0, 1, 2, 3, 4, 5, 6, 7, 8, 9] rfl rfl rfl (0 + 1 * (64 - (fn + 1))) (0 + 3 * (64 - (fn + 1))) (by simp only [rmX6_append]; omega) (by simp only [rmX6_append]; omega) ⟨by simp only [rmX0_writeTo]; omega, by simp only [rmX0_writeTo]; omega⟩ dX0_writeTo_140 ?_
      refine J_aload_n O (i := 1) (k0 := 1) (pc := 143) 1 rfl rfl dX0_writeTo_143 ?_
      refine J_iconst O (v := 4) (pc := 144) (by decide) dX0_writeTo_144 ?_
      refine J_aload_n O (i := 0) (k0 := 0) (pc := 145) 0 rfl rfl dX0_writeTo_145 ?_
      refine J_iload_n O (i := 2) (k0 := 2) (pc := 146) 2 rfl rfl dX0_writeTo_146 ?_
      obtain ⟨z147, h147, hf⟩ := jt_b hf
      refine J_callVi O (pc := 147) (c_X0_lengthOf l D cB cI cJ h d db hk hs hu hn hg h_c h_e d_l d_f h_k h_s h_u h_n h_g v2 h147) rfl 0 rfl rfl gX0_writeTo_X0_lengthOf hdV_X0_lengthOf ⟨(Nat.le_of_ble_eq_true rfl), (Nat.le_of_ble_eq_true rfl)⟩ rfl (st := [.int 4, .ref o]) rfl (Nat.le_of_ble_eq_true rfl) [0, 1, 2, 3, 4, 5, 6, 7] [8, 9] rfl rfl rfl rfl rfl (by decide) [(h, .inr (0, [.ref d, .ref hk, .ref hs, .int h_c, .ref hu, .ref hn, .ref hg, .int h_e])), (d, .inr (4, [.ref db, .int d_l])), (db, .inl (cB, 12000, .inl (b8 d_f))), (hk, .inl (cI, 60, .inl h_k)), (hs, .inl (cI, 61, .inl h_s)), (hu, .inl (cI, 40, .inl h_u)), (hn, .inl (cJ, 40, .inr (.inl h_n))), (hg, .inl (cI, 40, .inl h_g)), (o, .inr (4, [.ref ob, .int z140.1])), (ob, .inl (cB, o_n, .inl (b8 z140.2)))] [2, 3, 4, 5, 6, 7, 8, 9, 0, 1] rfl rfl rfl (0 + 1 * (64 - (fn + 1))) (0 + 3 * (64 - (fn + 1))) (by simp only [rmX0_lengthOf]; omega) (by simp only [rmX0_lengthOf]; omega) ⟨by simp only [rmX0_writeTo]; omega, by simp only [rmX0_writeTo]; omega⟩ dX0_writeTo_147 ?_
      refine J_i2l O (pc := 150) dX0_writeTo_150 ?_
      obtain ⟨z151, h151, hf⟩ := jt_b hf
      refine J_callVv O (pc := 151) (c_X6_append l D cB cI cJ o ob o_n z140.1 z140.2 4 (Int32.toInt64 z147) fu h151) rfl 0 rfl rfl gX0_writeTo_X6_append hdV_X6_append ⟨(Nat.le_of_ble_eq_true rfl), (Nat.le_of_ble_eq_true rfl)⟩ rfl (st := []) rfl (Nat.le_of_ble_eq_true rfl) [8, 9] [0, 1, 2, 3, 4, 5, 6, 7] rfl rfl rfl rfl rfl (by decide) [(h, .inr (0, [.ref d, .ref hk, .ref hs, .int h_c, .ref hu, .ref hn, .ref hg, .int h_e])), (d, .inr (4, [.ref db, .int d_l])), (db, .inl (cB, 12000, .inl (b8 d_f))), (hk, .inl (cI, 60, .inl h_k)), (hs, .inl (cI, 61, .inl h_s)), (hu, .inl (cI, 40, .inl h_u)), (hn, .inl (cJ, 40, .inr (.inl h_n))), (hg, .inl (cI, 40, .inl h_g)), (o, .inr (4, [.ref ob, .int z151.1])), (ob, .inl (cB, o_n, .inl (b8 z151.2)))] [0, 1, 2, 3, 4, 5, 6, 7, 8, 9] rfl rfl rfl (0 + 1 * (64 - (fn + 1))) (0 + 3 * (64 - (fn + 1))) (by simp only [rmX6_append]; omega) (by simp only [rmX6_append]; omega) ⟨by simp only [rmX0_writeTo]; omega, by simp only [rmX0_writeTo]; omega⟩ dX0_writeTo_151 ?_
      refine J_aload_n O (i := 1) (k0 := 1) (pc := 154) 1 rfl rfl dX0_writeTo_154 ?_
      refine J_aload_n O (i := 1) (k0 := 1) (pc := 155) 1 rfl rfl dX0_writeTo_155 ?_
      refine J_get O (pc := 156) in_X0_writeTo_X6 8 rfl rfl 1 (by decide) mb_X0_writeTo_8 rfl dX0_writeTo_156 ?_
      refine J_iconst O (v := 0) (pc := 159) (by decide) dX0_writeTo_159 ?_
      refine J_aload_n O (i := 0) (k0 := 0) (pc := 160) 0 rfl rfl dX0_writeTo_160 ?_
      refine J_iload_n O (i := 2) (k0 := 2) (pc := 161) 2 rfl rfl dX0_writeTo_161 ?_
      obtain ⟨z162, h162, hf⟩ := jt_b hf
      refine J_callVr O (pc := 162) (c_X0_dataOf l D cB cI cJ h d db hk hs hu hn hg h_c h_e d_l d_f h_k h_s h_u h_n h_g v2 h162) rfl 0 rfl rfl gX0_writeTo_X0_dataOf hdV_X0_dataOf ⟨(Nat.le_of_ble_eq_true rfl), (Nat.le_of_ble_eq_true rfl)⟩ rfl (st := [.int 0, .int z151.1, .ref o]) rfl (Nat.le_of_ble_eq_true rfl) [0, 1, 2, 3, 4, 5, 6, 7] [8, 9] rfl rfl rfl rfl rfl (by decide) (fun q162 => [(h, .inr (0, [.ref d, .ref hk, .ref hs, .int h_c, .ref hu, .ref hn, .ref hg, .int h_e])), (d, .inr (4, [.ref db, .int d_l])), (db, .inl (cB, 12000, .inl (b8 d_f))), (hk, .inl (cI, 60, .inl h_k)), (hs, .inl (cI, 61, .inl h_s)), (hu, .inl (cI, 40, .inl h_u)), (hn, .inl (cJ, 40, .inr (.inl h_n))), (hg, .inl (cI, 40, .inl h_g)), (o, .inr (4, [.ref ob, .int z151.1])), (ob, .inl (cB, o_n, .inl (b8 z151.2))), (q162, .inr (2, [.ref d, .int z162.1, .int z162.2]))]) [2, 3, 4, 5, 6, 7, 8, 9, 0, 1, 10] rfl (fun _ => rfl) (fun _ => rfl) (1 + 1 * (64 - (fn + 1))) (3 + 3 * (64 - (fn + 1))) (by simp only [rmX0_dataOf]; omega) (by simp only [rmX0_dataOf]; omega) ⟨by simp only [rmX0_writeTo]; omega, by simp only [rmX0_writeTo]; omega⟩ dX0_writeTo_162 (fun q162 => ?_)
      obtain ⟨z165, h165, hf⟩ := jt_b hf
      refine J_callVv O (pc := 165) (c_X6_spliceA l D cB cI cJ o ob q162 d db o_n 12000 z151.1 z151.2 z162.1 z162.2 d_l d_f z151.1 0 h165) rfl 0 rfl rfl gX0_writeTo_X6_splice hdV_X6_splice ⟨(Nat.le_of_ble_eq_true rfl), (Nat.le_of_ble_eq_true rfl)⟩ rfl (st := []) rfl (Nat.le_of_ble_eq_true rfl) [8, 9, 10, 1, 2] [0, 3, 4, 5, 6, 7] rfl rfl rfl rfl rfl (by decide) [(h, .inr (0, [.ref d, .ref hk, .ref hs, .int h_c, .ref hu, .ref hn, .ref hg, .int h_e])), (d, .inr (4, [.ref db, .int d_l])), (db, .inl (cB, 12000, .inl (b8 d_f))), (hk, .inl (cI, 60, .inl h_k)), (hs, .inl (cI, 61, .inl h_s)), (hu, .inl (cI, 40, .inl h_u)), (hn, .inl (cJ, 40, .inr (.inl h_n))), (hg, .inl (cI, 40, .inl h_g)), (o, .inr (4, [.ref ob, .int z165.1])), (ob, .inl (cB, o_n, .inl (b8 z165.2))), (q162, .inr (2, [.ref d, .int z162.1, .int z162.2]))] [0, 9, 10, 1, 2, 3, 4, 5, 6, 7, 8] rfl rfl rfl (1 + 1 * (64 - (fn + 1))) (3 + 3 * (64 - (fn + 1))) (by simp only [rmX6_spliceA]; omega) (by simp only [rmX6_spliceA]; omega) ⟨by simp only [rmX0_writeTo]; omega, by simp only [rmX0_writeTo]; omega⟩ dX0_writeTo_165 ?_
      refine J_aload_n O (i := 1) (k0 := 1) (pc := 168) 1 rfl rfl dX0_writeTo_168 ?_
      refine J_aload_n O (i := 0) (k0 := 0) (pc := 169) 0 rfl rfl dX0_writeTo_169 ?_
      refine J_iload_n O (i := 2) (k0 := 2) (pc := 170) 2 rfl rfl dX0_writeTo_170 ?_
      obtain ⟨z171, h171, hf⟩ := jt_b hf
      refine J_callVi O (pc := 171) (c_X0_lengthOf l D cB cI cJ h d db hk hs hu hn hg h_c h_e d_l d_f h_k h_s h_u h_n h_g v2 h171) rfl 0 rfl rfl gX0_writeTo_X0_lengthOf hdV_X0_lengthOf ⟨(Nat.le_of_ble_eq_true rfl), (Nat.le_of_ble_eq_true rfl)⟩ rfl (st := [.ref o]) rfl (Nat.le_of_ble_eq_true rfl) [0, 1, 2, 3, 4, 5, 6, 7] [8, 9, 10] rfl rfl rfl rfl rfl (by decide) [(h, .inr (0, [.ref d, .ref hk, .ref hs, .int h_c, .ref hu, .ref hn, .ref hg, .int h_e])), (d, .inr (4, [.ref db, .int d_l])), (db, .inl (cB, 12000, .inl (b8 d_f))), (hk, .inl (cI, 60, .inl h_k)), (hs, .inl (cI, 61, .inl h_s)), (hu, .inl (cI, 40, .inl h_u)), (hn, .inl (cJ, 40, .inr (.inl h_n))), (hg, .inl (cI, 40, .inl h_g)), (o, .inr (4, [.ref ob, .int z165.1])), (ob, .inl (cB, o_n, .inl (b8 z165.2))), (q162, .inr (2, [.ref d, .int z162.1, .int z162.2]))] [3, 4, 5, 6, 7, 8, 9, 10, 0, 1, 2] rfl rfl rfl (1 + 1 * (64 - (fn + 1))) (3 + 3 * (64 - (fn + 1))) (by simp only [rmX0_lengthOf]; omega) (by simp only [rmX0_lengthOf]; omega) ⟨by simp only [rmX0_writeTo]; omega, by simp only [rmX0_writeTo]; omega⟩ dX0_writeTo_171 ?_
      refine J_iconst O (v := 1) (pc := 174) (by decide) dX0_writeTo_174 ?_
      refine J_iand O (pc := 175) dX0_writeTo_175 ?_
      refine J_lconst O (v := 0) (pc := 176) (by decide) dX0_writeTo_176 ?_
      obtain ⟨z177, h177, hf⟩ := jt_b hf
      refine J_callVv O (pc := 177) (c_X6_append l D cB cI cJ o ob o_n z165.1 z165.2 (z171 &&& 1) 0 fu h177) rfl 0 rfl rfl gX0_writeTo_X6_append hdV_X6_append ⟨(Nat.le_of_ble_eq_true rfl), (Nat.le_of_ble_eq_true rfl)⟩ rfl (st := []) rfl (Nat.le_of_ble_eq_true rfl) [8, 9] [0, 1, 2, 3, 4, 5, 6, 7, 10] rfl rfl rfl rfl rfl (by decide) [(h, .inr (0, [.ref d, .ref hk, .ref hs, .int h_c, .ref hu, .ref hn, .ref hg, .int h_e])), (d, .inr (4, [.ref db, .int d_l])), (db, .inl (cB, 12000, .inl (b8 d_f))), (hk, .inl (cI, 60, .inl h_k)), (hs, .inl (cI, 61, .inl h_s)), (hu, .inl (cI, 40, .inl h_u)), (hn, .inl (cJ, 40, .inr (.inl h_n))), (hg, .inl (cI, 40, .inl h_g)), (o, .inr (4, [.ref ob, .int z177.1])), (ob, .inl (cB, o_n, .inl (b8 z177.2))), (q162, .inr (2, [.ref d, .int z162.1, .int z162.2]))] [0, 1, 2, 3, 4, 5, 6, 7, 9, 10, 8] rfl rfl rfl (1 + 1 * (64 - (fn + 1))) (3 + 3 * (64 - (fn + 1))) (by simp only [rmX6_append]; omega) (by simp only [rmX6_append]; omega) ⟨by simp only [rmX0_writeTo]; omega, by simp only [rmX0_writeTo]; omega⟩ dX0_writeTo_177 ?_
      refine J_iinc O (i := 2) (n := 1) (v := v2 + 1) (pc := 180) 2 rfl [(2, .int (v2 + 1)), (0, .ref h), (1, .ref o)] (by decide) (congrArg (_ + ·) (by decide)) rfl dX0_writeTo_180 ?_
      refine J_goto O (tgt := 123) (pc := 183) dX0_writeTo_183 (by decide) ?_
      refine J_wsub [0, 1, 2, 3, 4, 5, 6, 7, 8, 9] [(h, .inr (0, [.ref d, .ref hk, .ref hs, .int h_c, .ref hu, .ref hn, .ref hg, .int h_e])), (d, .inr (4, [.ref db, .int d_l])), (db, .inl (cB, 12000, .inl (b8 d_f))), (hk, .inl (cI, 60, .inl h_k)), (hs, .inl (cI, 61, .inl h_s)), (hu, .inl (cI, 40, .inl h_u)), (hn, .inl (cJ, 40, .inr (.inl h_n))), (hg, .inl (cI, 40, .inl h_g)), (o, .inr (4, [.ref ob, .int z177.1])), (ob, .inl (cB, o_n, .inl (b8 z177.2)))] rfl rfl rfl ?_
      refine J_sub [1, 2, 0] (lv' := [(0, .ref h), (1, .ref o), (2, .int (v2 + 1))]) rfl ?_
      refine J_widen (0 + 1 * (64 - fn)) (0 + 3 * (64 - fn)) (by omega) (by omega) ?_
      exact ih (v2 + 1) z177.1 z177.2 (by omega) hf
set_option maxHeartbeats 4000000 in
set_option maxRecDepth 100000 in
theorem wk_X0_writeTo_68 {X : JC} {l : Launch} {D : va_G} {cB cI cJ : ClassId} (O : Jo X (l, D, cB, cI, cJ) cX0_writeTo 3 RX0 wsX0_writeTo rmX0_writeTo none) (h d db hk hs hu hn hg o ob : Nat) (o_n : Nat) (h_c : Int32) (h_e : Int32) (d_l : Int32) (d_f : Nat → Int8) (h_k : Nat → Int32) (h_s : Nat → Int32) (h_u : Nat → Int32) (h_n : Nat → Int64) (h_g : Nat → Int32) (fu : Nat) {z : Int32 × (Nat → Int8)} : ∀ (fn : Nat) (v2 : Int32) (o_l : Int32) (o_f : Nat → Int8), p_X0_writeTo_68 fu o_n h_c h_e d_l d_f h_k h_s h_u h_n h_g fn v2 o_l o_f = some z → J X 3 (JQv X [(h, .inr (0, [.ref d, .ref hk, .ref hs, .int h_c, .ref hu, .ref hn, .ref hg, .int h_e])), (d, .inr (4, [.ref db, .int d_l])), (db, .inl (cB, 12000, .inl (b8 d_f))), (hk, .inl (cI, 60, .inl h_k)), (hs, .inl (cI, 61, .inl h_s)), (hu, .inl (cI, 40, .inl h_u)), (hn, .inl (cJ, 40, .inr (.inl h_n))), (hg, .inl (cI, 40, .inl h_g)), (o, .inr (4, [.ref ob, .int z.1])), (ob, .inl (cB, o_n, .inl (b8 z.2)))] 65 195) [(h, .inr (0, [.ref d, .ref hk, .ref hs, .int h_c, .ref hu, .ref hn, .ref hg, .int h_e])), (d, .inr (4, [.ref db, .int d_l])), (db, .inl (cB, 12000, .inl (b8 d_f))), (hk, .inl (cI, 60, .inl h_k)), (hs, .inl (cI, 61, .inl h_s)), (hu, .inl (cI, 40, .inl h_u)), (hn, .inl (cJ, 40, .inr (.inl h_n))), (hg, .inl (cI, 40, .inl h_g)), (o, .inr (4, [.ref ob, .int o_l])), (ob, .inl (cB, o_n, .inl (b8 o_f)))] 0 0 68 [(0, .ref h), (1, .ref o), (2, .int v2)] [] := by
  intro fn
  induction fn with
  | zero =>
    intro v2 o_l o_f hf
    rw [p_X0_writeTo_68] at hf
    exact jt_n hf
  | succ fn ih =>
    intro v2 o_l o_f hf
    rw [p_X0_writeTo_68] at hf
    refine J_iload_n O (i := 2) (k0 := 2) (pc := 68) 2 rfl rfl dX0_writeTo_68 ?_
    refine J_aload_n O (i := 0) (k0 := 0) (pc := 69) 0 rfl rfl dX0_writeTo_69 ?_
    refine J_get O (pc := 70) in_X0_writeTo_X0 0 rfl rfl 7 (by decide) mb_X0_writeTo_5 rfl dX0_writeTo_70 ?_
    refine J_icmp_ge O (tgt := 121) (pc := 73) dX0_writeTo_73 (by decide) (fun c73 => ?_) (fun c73 => ?_)
    · have hf := jt_t c73 hf
      refine J_iconst O (v := 0) (pc := 121) (by decide) dX0_writeTo_121 ?_
      refine J_istore_n O (i := 2) (k0 := 2) (pc := 122) rfl [(2, .int 0), (0, .ref h), (1, .ref o)] (by decide) rfl dX0_writeTo_122 ?_
      refine J_sub [1, 2, 0] (lv' := [(0, .ref h), (1, .ref o), (2, .int 0)]) rfl ?_
      refine J_widen (0 + 1 * (64 - 64)) (0 + 3 * (64 - 64)) (Nat.le_of_ble_eq_true rfl) (Nat.le_of_ble_eq_true rfl) ?_
      exact wk_X0_writeTo_123 O h d db hk hs hu hn hg o ob o_n h_c h_e d_l d_f h_k h_s h_u h_n h_g fu 64 0 o_l o_f (by decide) hf
    · have hf := jt_f c73 hf
      refine J_aload_n O (i := 1) (k0 := 1) (pc := 76) 1 rfl rfl dX0_writeTo_76 ?_
      refine J_iconst O (v := 4) (pc := 77) (by decide) dX0_writeTo_77 ?_
      refine J_aload_n O (i := 0) (k0 := 0) (pc := 78) 0 rfl rfl dX0_writeTo_78 ?_
      refine J_get O (pc := 79) in_X0_writeTo_X0 0 rfl rfl 4 (by decide) mb_X0_writeTo_9 rfl dX0_writeTo_79 ?_
      refine J_iload_n O (i := 2) (k0 := 2) (pc := 82) 2 rfl rfl dX0_writeTo_82 ?_
      obtain ⟨h83, hf⟩ := jt_g hf
      refine J_iald O (pc := 83) 5 1 rfl rfl h83 dX0_writeTo_83 ?_
      refine J_i2l O (pc := 84) dX0_writeTo_84 ?_
      obtain ⟨z85, h85, hf⟩ := jt_b hf
      refine J_callVv O (pc := 85) (c_X6_append l D cB cI cJ o ob o_n o_l o_f 4 (Int32.toInt64 (h_u (Int32.toNatClampNeg v2))) fu h85) rfl 0 rfl rfl gX0_writeTo_X6_append hdV_X6_append ⟨(Nat.le_of_ble_eq_true rfl), (Nat.le_of_ble_eq_true rfl)⟩ rfl (st := []) rfl (Nat.le_of_ble_eq_true rfl) [8, 9] [0, 1, 2, 3, 4, 5, 6, 7] rfl rfl rfl rfl rfl (by decide) [(h, .inr (0, [.ref d, .ref hk, .ref hs, .int h_c, .ref hu, .ref hn, .ref hg, .int h_e])), (d, .inr (4, [.ref db, .int d_l])), (db, .inl (cB, 12000, .inl (b8 d_f))), (hk, .inl (cI, 60, .inl h_k)), (hs, .inl (cI, 61, .inl h_s)), (hu, .inl (cI, 40, .inl h_u)), (hn, .inl (cJ, 40, .inr (.inl h_n))), (hg, .inl (cI, 40, .inl h_g)), (o, .inr (4, [.ref ob, .int z85.1])), (ob, .inl (cB, o_n, .inl (b8 z85.2)))] [0, 1, 2, 3, 4, 5, 6, 7, 8, 9] rfl rfl rfl (0) (0) (Nat.le_of_ble_eq_true rfl) (Nat.le_of_ble_eq_true rfl) ⟨(Nat.le_of_ble_eq_true rfl), (Nat.le_of_ble_eq_true rfl)⟩ dX0_writeTo_85 ?_
      refine J_aload_n O (i := 1) (k0 := 1) (pc := 88) 1 rfl rfl dX0_writeTo_88 ?_
      refine J_iconst O (v := 4) (pc := 89) (by decide) dX0_writeTo_89 ?_
      refine J_aload_n O (i := 0) (k0 := 0) (pc := 90) 0 rfl rfl dX0_writeTo_90 ?_
      refine J_get O (pc := 91) in_X0_writeTo_X0 0 rfl rfl 5 (by decide) mb_X0_writeTo_10 rfl dX0_writeTo_91 ?_
      refine J_iload_n O (i := 2) (k0 := 2) (pc := 94) 2 rfl rfl dX0_writeTo_94 ?_
      obtain ⟨h95, hf⟩ := jt_g hf
      refine J_lald O (pc := 95) 6 2 rfl rfl h95 dX0_writeTo_95 ?_
      obtain ⟨z96, h96, hf⟩ := jt_b hf
      refine J_callVv O (pc := 96) (c_X6_append l D cB cI cJ o ob o_n z85.1 z85.2 4 (h_n (Int32.toNatClampNeg v2)) fu h96) rfl 0 rfl rfl gX0_writeTo_X6_append hdV_X6_append ⟨(Nat.le_of_ble_eq_true rfl), (Nat.le_of_ble_eq_true rfl)⟩ rfl (st := []) rfl (Nat.le_of_ble_eq_true rfl) [8, 9] [0, 1, 2, 3, 4, 5, 6, 7] rfl rfl rfl rfl rfl (by decide) [(h, .inr (0, [.ref d, .ref hk, .ref hs, .int h_c, .ref hu, .ref hn, .ref hg, .int h_e])), (d, .inr (4, [.ref db, .int d_l])), (db, .inl (cB, 12000, .inl (b8 d_f))), (hk, .inl (cI, 60, .inl h_k)), (hs, .inl (cI, 61, .inl h_s)), (hu, .inl (cI, 40, .inl h_u)), (hn, .inl (cJ, 40, .inr (.inl h_n))), (hg, .inl (cI, 40, .inl h_g)), (o, .inr (4, [.ref ob, .int z96.1])), (ob, .inl (cB, o_n, .inl (b8 z96.2)))] [0, 1, 2, 3, 4, 5, 6, 7, 8, 9] rfl rfl rfl (0) (0) (Nat.le_of_ble_eq_true rfl) (Nat.le_of_ble_eq_true rfl) ⟨(Nat.le_of_ble_eq_true rfl), (Nat.le_of_ble_eq_true rfl)⟩ dX0_writeTo_96 ?_
      refine J_aload_n O (i := 1) (k0 := 1) (pc := 99) 1 rfl rfl dX0_writeTo_99 ?_
      refine J_iconst O (v := 4) (pc := 100) (by decide) dX0_writeTo_100 ?_
      refine J_aload_n O (i := 0) (k0 := 0) (pc := 101) 0 rfl rfl dX0_writeTo_101 ?_
      refine J_aload_n O (i := 0) (k0 := 0) (pc := 102) 0 rfl rfl dX0_writeTo_102 ?_
      refine J_get O (pc := 103) in_X0_writeTo_X0 0 rfl rfl 6 (by decide) mb_X0_writeTo_11 rfl dX0_writeTo_103 ?_
      refine J_iload_n O (i := 2) (k0 := 2) (pc := 106) 2 rfl rfl dX0_writeTo_106 ?_
      obtain ⟨h107, hf⟩ := jt_g hf
      refine J_iald O (pc := 107) 7 1 rfl rfl h107 dX0_writeTo_107 ?_
      obtain ⟨z108, h108, hf⟩ := jt_b hf
      refine J_callVi O (pc := 108) (c_X0_placeOf l D cB cI cJ h d db hk hs hu hn hg h_c h_e d_l d_f h_k h_s h_u h_n h_g (h_g (Int32.toNatClampNeg v2)) fu h108) rfl 0 rfl rfl gX0_writeTo_X0_placeOf hdV_X0_placeOf ⟨(Nat.le_of_ble_eq_true rfl), (Nat.le_of_ble_eq_true rfl)⟩ rfl (st := [.int 4, .ref o]) rfl (Nat.le_of_ble_eq_true rfl) [0, 1, 2, 3, 4, 5, 6, 7] [8, 9] rfl rfl rfl rfl rfl (by decide) [(h, .inr (0, [.ref d, .ref hk, .ref hs, .int h_c, .ref hu, .ref hn, .ref hg, .int h_e])), (d, .inr (4, [.ref db, .int d_l])), (db, .inl (cB, 12000, .inl (b8 d_f))), (hk, .inl (cI, 60, .inl h_k)), (hs, .inl (cI, 61, .inl h_s)), (hu, .inl (cI, 40, .inl h_u)), (hn, .inl (cJ, 40, .inr (.inl h_n))), (hg, .inl (cI, 40, .inl h_g)), (o, .inr (4, [.ref ob, .int z96.1])), (ob, .inl (cB, o_n, .inl (b8 z96.2)))] [2, 3, 4, 5, 6, 7, 8, 9, 0, 1] rfl rfl rfl (0) (0) (Nat.le_of_ble_eq_true rfl) (Nat.le_of_ble_eq_true rfl) ⟨(Nat.le_of_ble_eq_true rfl), (Nat.le_of_ble_eq_true rfl)⟩ dX0_writeTo_108 ?_
      refine J_i2l O (pc := 111) dX0_writeTo_111 ?_
      obtain ⟨z112, h112, hf⟩ := jt_b hf
      refine J_callVv O (pc := 112) (c_X6_append l D cB cI cJ o ob o_n z96.1 z96.2 4 (Int32.toInt64 z108) fu h112) rfl 0 rfl rfl gX0_writeTo_X6_append hdV_X6_append ⟨(Nat.le_of_ble_eq_true rfl), (Nat.le_of_ble_eq_true rfl)⟩ rfl (st := []) rfl (Nat.le_of_ble_eq_true rfl) [8, 9] [0, 1, 2, 3, 4, 5, 6, 7] rfl rfl rfl rfl rfl (by decide) [(h, .inr (0, [.ref d, .ref hk, .ref hs, .int h_c, .ref hu, .ref hn, .ref hg, .int h_e])), (d, .inr (4, [.ref db, .int d_l])), (db, .inl (cB, 12000, .inl (b8 d_f))), (hk, .inl (cI, 60, .inl h_k)), (hs, .inl (cI, 61, .inl h_s)), (hu, .inl (cI, 40, .inl h_u)), (hn, .inl (cJ, 40, .inr (.inl h_n))), (hg, .inl (cI, 40, .inl h_g)), (o, .inr (4, [.ref ob, .int z112.1])), (ob, .inl (cB, o_n, .inl (b8 z112.2)))] [0, 1, 2, 3, 4, 5, 6, 7, 8, 9] rfl rfl rfl (0) (0) (Nat.le_of_ble_eq_true rfl) (Nat.le_of_ble_eq_true rfl) ⟨(Nat.le_of_ble_eq_true rfl), (Nat.le_of_ble_eq_true rfl)⟩ dX0_writeTo_112 ?_
      refine J_iinc O (i := 2) (n := 1) (v := v2 + 1) (pc := 115) 2 rfl [(2, .int (v2 + 1)), (0, .ref h), (1, .ref o)] (by decide) (congrArg (_ + ·) (by decide)) rfl dX0_writeTo_115 ?_
      refine J_goto O (tgt := 68) (pc := 118) dX0_writeTo_118 (by decide) ?_
      refine J_sub [1, 2, 0] (lv' := [(0, .ref h), (1, .ref o), (2, .int (v2 + 1))]) rfl ?_
      exact ih (v2 + 1) z112.1 z112.2 hf
set_option maxHeartbeats 4000000 in
set_option maxRecDepth 100000 in
theorem c_X0_writeTo (l : Launch) (D : va_G) (cB cI cJ : ClassId) (h d db hk hs hu hn hg o ob o_n : Nat) (h_c : Int32) (h_e : Int32) (d_l : Int32) (d_f : Nat → Int8) (h_k : Nat → Int32) (h_s : Nat → Int32) (h_u : Nat → Int32) (h_n : Nat → Int64) (h_g : Nat → Int32) (o_l : Int32) (o_f : Nat → Int8) (fu : Nat) {z : Int32 × (Nat → Int8)} (hf : p_X0_writeTo fu o_n h_c h_e d_l d_f h_k h_s h_u h_n h_g o_l o_f = some z) : Cv (l, D, cB, cI, cJ) yX0_writeTo wsX0_writeTo rmX0_writeTo [.ref h, .ref o] [(h, .inr (0, [.ref d, .ref hk, .ref hs, .int h_c, .ref hu, .ref hn, .ref hg, .int h_e])), (d, .inr (4, [.ref db, .int d_l])), (db, .inl (cB, 12000, .inl (b8 d_f))), (hk, .inl (cI, 60, .inl h_k)), (hs, .inl (cI, 61, .inl h_s)), (hu, .inl (cI, 40, .inl h_u)), (hn, .inl (cJ, 40, .inr (.inl h_n))), (hg, .inl (cI, 40, .inl h_g)), (o, .inr (4, [.ref ob, .int o_l])), (ob, .inl (cB, o_n, .inl (b8 o_f)))] [(h, .inr (0, [.ref d, .ref hk, .ref hs, .int h_c, .ref hu, .ref hn, .ref hg, .int h_e])), (d, .inr (4, [.ref db, .int d_l])), (db, .inl (cB, 12000, .inl (b8 d_f))), (hk, .inl (cI, 60, .inl h_k)), (hs, .inl (cI, 61, .inl h_s)), (hu, .inl (cI, 40, .inl h_u)), (hn, .inl (cJ, 40, .inr (.inl h_n))), (hg, .inl (cI, 40, .inl h_g)), (o, .inr (4, [.ref ob, .int z.1])), (ob, .inl (cB, o_n, .inl (b8 z.2)))] := by
  refine Cv_of (cc := cX0_writeTo) (nL := 3) (own := RX0) (ret := none) (by decide) rfl rfl (Nat.le_of_ble_eq_true rfl) (fun X O hnm0 => ?_)
  rw [p_X0_writeTo] at hf
  show J X 3 (JQv X [(h, .inr (0, [.ref d, .ref hk, .ref hs, .int h_c, .ref hu, .ref hn, .ref hg, .int h_e])), (d, .inr (4, [.ref db, .int d_l])), (db, .inl (cB, 12000, .inl (b8 d_f))), (hk, .inl (cI, 60, .inl h_k)), (hs, .inl (cI, 61, .inl h_s)), (hu, .inl (cI, 40, .inl h_u)), (hn, .inl (cJ, 40, .inr (.inl h_n))), (hg, .inl (cI, 40, .inl h_g)), (o, .inr (4, [.ref ob, .int z.1])), (ob, .inl (cB, o_n, .inl (b8 z.2)))] 65 195) [(h, .inr (0, [.ref d, .ref hk, .ref hs, .int h_c, .ref hu, .ref hn, .ref hg, .int h_e])), (d, .inr (4, [.ref db, .int d_l])), (db, .inl (cB, 12000, .inl (b8 d_f))), (hk, .inl (cI, 60, .inl h_k)), (hs, .inl (cI, 61, .inl h_s)), (hu, .inl (cI, 40, .inl h_u)), (hn, .inl (cJ, 40, .inr (.inl h_n))), (hg, .inl (cI, 40, .inl h_g)), (o, .inr (4, [.ref ob, .int o_l])), (ob, .inl (cB, o_n, .inl (b8 o_f)))] 0 0 0 [(0, .ref h), (1, .ref o)] []
  refine J_aload_n O (i := 1) (k0 := 1) (pc := 0) 1 rfl rfl dX0_writeTo_0 ?_
  refine J_iconst O (v := 4) (pc := 1) (by decide) dX0_writeTo_1 ?_
  refine J_ldc2 O (pc := 2) mb_X0_writeTo_0 dX0_writeTo_2 ?_
  obtain ⟨z5, h5, hf⟩ := jt_b hf
  refine J_callVv O (pc := 5) (c_X6_append l D cB cI cJ o ob o_n o_l o_f 4 1179603533 fu h5) rfl 0 rfl rfl gX0_writeTo_X6_append hdV_X6_append ⟨(Nat.le_of_ble_eq_true rfl), (Nat.le_of_ble_eq_true rfl)⟩ rfl (st := []) rfl (Nat.le_of_ble_eq_true rfl) [8, 9] [0, 1, 2, 3, 4, 5, 6, 7] rfl rfl rfl rfl rfl (by decide) [(h, .inr (0, [.ref d, .ref hk, .ref hs, .int h_c, .ref hu, .ref hn, .ref hg, .int h_e])), (d, .inr (4, [.ref db, .int d_l])), (db, .inl (cB, 12000, .inl (b8 d_f))), (hk, .inl (cI, 60, .inl h_k)), (hs, .inl (cI, 61, .inl h_s)), (hu, .inl (cI, 40, .inl h_u)), (hn, .inl (cJ, 40, .inr (.inl h_n))), (hg, .inl (cI, 40, .inl h_g)), (o, .inr (4, [.ref ob, .int z5.1])), (ob, .inl (cB, o_n, .inl (b8 z5.2)))] [0, 1, 2, 3, 4, 5, 6, 7, 8, 9] rfl rfl rfl (0) (0) (Nat.le_of_ble_eq_true rfl) (Nat.le_of_ble_eq_true rfl) ⟨(Nat.le_of_ble_eq_true rfl), (Nat.le_of_ble_eq_true rfl)⟩ dX0_writeTo_5 ?_
  refine J_aload_n O (i := 1) (k0 := 1) (pc := 8) 1 rfl rfl dX0_writeTo_8 ?_
  refine J_iconst O (v := 4) (pc := 9) (by decide) dX0_writeTo_9 ?_
  refine J_aload_n O (i := 0) (k0 := 0) (pc := 10) 0 rfl rfl dX0_writeTo_10 ?_
  refine J_aload_n O (i := 0) (k0 := 0) (pc := 11) 0 rfl rfl dX0_writeTo_11 ?_
  refine J_get O (pc := 12) in_X0_writeTo_X0 0 rfl rfl 3 (by decide) mb_X0_writeTo_2 rfl dX0_writeTo_12 ?_
  obtain ⟨z15, h15, hf⟩ := jt_b hf
  refine J_callVi O (pc := 15) (c_X0_placeOf l D cB cI cJ h d db hk hs hu hn hg h_c h_e d_l d_f h_k h_s h_u h_n h_g h_c fu h15) rfl 0 rfl rfl gX0_writeTo_X0_placeOf hdV_X0_placeOf ⟨(Nat.le_of_ble_eq_true rfl), (Nat.le_of_ble_eq_true rfl)⟩ rfl (st := [.int 4, .ref o]) rfl (Nat.le_of_ble_eq_true rfl) [0, 1, 2, 3, 4, 5, 6, 7] [8, 9] rfl rfl rfl rfl rfl (by decide) [(h, .inr (0, [.ref d, .ref hk, .ref hs, .int h_c, .ref hu, .ref hn, .ref hg, .int h_e])), (d, .inr (4, [.ref db, .int d_l])), (db, .inl (cB, 12000, .inl (b8 d_f))), (hk, .inl (cI, 60, .inl h_k)), (hs, .inl (cI, 61, .inl h_s)), (hu, .inl (cI, 40, .inl h_u)), (hn, .inl (cJ, 40, .inr (.inl h_n))), (hg, .inl (cI, 40, .inl h_g)), (o, .inr (4, [.ref ob, .int z5.1])), (ob, .inl (cB, o_n, .inl (b8 z5.2)))] [2, 3, 4, 5, 6, 7, 8, 9, 0, 1] rfl rfl rfl (0) (0) (Nat.le_of_ble_eq_true rfl) (Nat.le_of_ble_eq_true rfl) ⟨(Nat.le_of_ble_eq_true rfl), (Nat.le_of_ble_eq_true rfl)⟩ dX0_writeTo_15 ?_
  refine J_bipush O (v := 8) (pc := 18) (by decide) dX0_writeTo_18 ?_
  refine J_isub O (pc := 20) dX0_writeTo_20 ?_
  refine J_i2l O (pc := 21) dX0_writeTo_21 ?_
  obtain ⟨z22, h22, hf⟩ := jt_b hf
  refine J_callVv O (pc := 22) (c_X6_append l D cB cI cJ o ob o_n z5.1 z5.2 4 (Int32.toInt64 (z15 - 8)) fu h22) rfl 0 rfl rfl gX0_writeTo_X6_append hdV_X6_append ⟨(Nat.le_of_ble_eq_true rfl), (Nat.le_of_ble_eq_true rfl)⟩ rfl (st := []) rfl (Nat.le_of_ble_eq_true rfl) [8, 9] [0, 1, 2, 3, 4, 5, 6, 7] rfl rfl rfl rfl rfl (by decide) [(h, .inr (0, [.ref d, .ref hk, .ref hs, .int h_c, .ref hu, .ref hn, .ref hg, .int h_e])), (d, .inr (4, [.ref db, .int d_l])), (db, .inl (cB, 12000, .inl (b8 d_f))), (hk, .inl (cI, 60, .inl h_k)), (hs, .inl (cI, 61, .inl h_s)), (hu, .inl (cI, 40, .inl h_u)), (hn, .inl (cJ, 40, .inr (.inl h_n))), (hg, .inl (cI, 40, .inl h_g)), (o, .inr (4, [.ref ob, .int z22.1])), (ob, .inl (cB, o_n, .inl (b8 z22.2)))] [0, 1, 2, 3, 4, 5, 6, 7, 8, 9] rfl rfl rfl (0) (0) (Nat.le_of_ble_eq_true rfl) (Nat.le_of_ble_eq_true rfl) ⟨(Nat.le_of_ble_eq_true rfl), (Nat.le_of_ble_eq_true rfl)⟩ dX0_writeTo_22 ?_
  refine J_aload_n O (i := 1) (k0 := 1) (pc := 25) 1 rfl rfl dX0_writeTo_25 ?_
  refine J_iconst O (v := 4) (pc := 26) (by decide) dX0_writeTo_26 ?_
  refine J_ldc2 O (pc := 27) mb_X0_writeTo_3 dX0_writeTo_27 ?_
  obtain ⟨z30, h30, hf⟩ := jt_b hf
  refine J_callVv O (pc := 30) (c_X6_append l D cB cI cJ o ob o_n z22.1 z22.2 4 1229345363 fu h30) rfl 0 rfl rfl gX0_writeTo_X6_append hdV_X6_append ⟨(Nat.le_of_ble_eq_true rfl), (Nat.le_of_ble_eq_true rfl)⟩ rfl (st := []) rfl (Nat.le_of_ble_eq_true rfl) [8, 9] [0, 1, 2, 3, 4, 5, 6, 7] rfl rfl rfl rfl rfl (by decide) [(h, .inr (0, [.ref d, .ref hk, .ref hs, .int h_c, .ref hu, .ref hn, .ref hg, .int h_e])), (d, .inr (4, [.ref db, .int d_l])), (db, .inl (cB, 12000, .inl (b8 d_f))), (hk, .inl (cI, 60, .inl h_k)), (hs, .inl (cI, 61, .inl h_s)), (hu, .inl (cI, 40, .inl h_u)), (hn, .inl (cJ, 40, .inr (.inl h_n))), (hg, .inl (cI, 40, .inl h_g)), (o, .inr (4, [.ref ob, .int z30.1])), (ob, .inl (cB, o_n, .inl (b8 z30.2)))] [0, 1, 2, 3, 4, 5, 6, 7, 8, 9] rfl rfl rfl (0) (0) (Nat.le_of_ble_eq_true rfl) (Nat.le_of_ble_eq_true rfl) ⟨(Nat.le_of_ble_eq_true rfl), (Nat.le_of_ble_eq_true rfl)⟩ dX0_writeTo_30 ?_
  refine J_aload_n O (i := 1) (k0 := 1) (pc := 33) 1 rfl rfl dX0_writeTo_33 ?_
  refine J_iconst O (v := 4) (pc := 34) (by decide) dX0_writeTo_34 ?_
  refine J_ldc2 O (pc := 35) mb_X0_writeTo_4 dX0_writeTo_35 ?_
  obtain ⟨z38, h38, hf⟩ := jt_b hf
  refine J_callVv O (pc := 38) (c_X6_append l D cB cI cJ o ob o_n z30.1 z30.2 4 1380541560 fu h38) rfl 0 rfl rfl gX0_writeTo_X6_append hdV_X6_append ⟨(Nat.le_of_ble_eq_true rfl), (Nat.le_of_ble_eq_true rfl)⟩ rfl (st := []) rfl (Nat.le_of_ble_eq_true rfl) [8, 9] [0, 1, 2, 3, 4, 5, 6, 7] rfl rfl rfl rfl rfl (by decide) [(h, .inr (0, [.ref d, .ref hk, .ref hs, .int h_c, .ref hu, .ref hn, .ref hg, .int h_e])), (d, .inr (4, [.ref db, .int d_l])), (db, .inl (cB, 12000, .inl (b8 d_f))), (hk, .inl (cI, 60, .inl h_k)), (hs, .inl (cI, 61, .inl h_s)), (hu, .inl (cI, 40, .inl h_u)), (hn, .inl (cJ, 40, .inr (.inl h_n))), (hg, .inl (cI, 40, .inl h_g)), (o, .inr (4, [.ref ob, .int z38.1])), (ob, .inl (cB, o_n, .inl (b8 z38.2)))] [0, 1, 2, 3, 4, 5, 6, 7, 8, 9] rfl rfl rfl (0) (0) (Nat.le_of_ble_eq_true rfl) (Nat.le_of_ble_eq_true rfl) ⟨(Nat.le_of_ble_eq_true rfl), (Nat.le_of_ble_eq_true rfl)⟩ dX0_writeTo_38 ?_
  refine J_aload_n O (i := 1) (k0 := 1) (pc := 41) 1 rfl rfl dX0_writeTo_41 ?_
  refine J_iconst O (v := 4) (pc := 42) (by decide) dX0_writeTo_42 ?_
  refine J_iconst O (v := 4) (pc := 43) (by decide) dX0_writeTo_43 ?_
  refine J_bipush O (v := 12) (pc := 44) (by decide) dX0_writeTo_44 ?_
  refine J_aload_n O (i := 0) (k0 := 0) (pc := 46) 0 rfl rfl dX0_writeTo_46 ?_
  refine J_get O (pc := 47) in_X0_writeTo_X0 0 rfl rfl 7 (by decide) mb_X0_writeTo_5 rfl dX0_writeTo_47 ?_
  refine J_imul O (pc := 50) dX0_writeTo_50 ?_
  refine J_iadd O (pc := 51) dX0_writeTo_51 ?_
  refine J_i2l O (pc := 52) dX0_writeTo_52 ?_
  obtain ⟨z53, h53, hf⟩ := jt_b hf
  refine J_callVv O (pc := 53) (c_X6_append l D cB cI cJ o ob o_n z38.1 z38.2 4 (Int32.toInt64 (4 + (12 * h_e))) fu h53) rfl 0 rfl rfl gX0_writeTo_X6_append hdV_X6_append ⟨(Nat.le_of_ble_eq_true rfl), (Nat.le_of_ble_eq_true rfl)⟩ rfl (st := []) rfl (Nat.le_of_ble_eq_true rfl) [8, 9] [0, 1, 2, 3, 4, 5, 6, 7] rfl rfl rfl rfl rfl (by decide) [(h, .inr (0, [.ref d, .ref hk, .ref hs, .int h_c, .ref hu, .ref hn, .ref hg, .int h_e])), (d, .inr (4, [.ref db, .int d_l])), (db, .inl (cB, 12000, .inl (b8 d_f))), (hk, .inl (cI, 60, .inl h_k)), (hs, .inl (cI, 61, .inl h_s)), (hu, .inl (cI, 40, .inl h_u)), (hn, .inl (cJ, 40, .inr (.inl h_n))), (hg, .inl (cI, 40, .inl h_g)), (o, .inr (4, [.ref ob, .int z53.1])), (ob, .inl (cB, o_n, .inl (b8 z53.2)))] [0, 1, 2, 3, 4, 5, 6, 7, 8, 9] rfl rfl rfl (0) (0) (Nat.le_of_ble_eq_true rfl) (Nat.le_of_ble_eq_true rfl) ⟨(Nat.le_of_ble_eq_true rfl), (Nat.le_of_ble_eq_true rfl)⟩ dX0_writeTo_53 ?_
  refine J_aload_n O (i := 1) (k0 := 1) (pc := 56) 1 rfl rfl dX0_writeTo_56 ?_
  refine J_iconst O (v := 4) (pc := 57) (by decide) dX0_writeTo_57 ?_
  refine J_aload_n O (i := 0) (k0 := 0) (pc := 58) 0 rfl rfl dX0_writeTo_58 ?_
  refine J_get O (pc := 59) in_X0_writeTo_X0 0 rfl rfl 7 (by decide) mb_X0_writeTo_5 rfl dX0_writeTo_59 ?_
  refine J_i2l O (pc := 62) dX0_writeTo_62 ?_
  obtain ⟨z63, h63, hf⟩ := jt_b hf
  refine J_callVv O (pc := 63) (c_X6_append l D cB cI cJ o ob o_n z53.1 z53.2 4 (Int32.toInt64 h_e) fu h63) rfl 0 rfl rfl gX0_writeTo_X6_append hdV_X6_append ⟨(Nat.le_of_ble_eq_true rfl), (Nat.le_of_ble_eq_true rfl)⟩ rfl (st := []) rfl (Nat.le_of_ble_eq_true rfl) [8, 9] [0, 1, 2, 3, 4, 5, 6, 7] rfl rfl rfl rfl rfl (by decide) [(h, .inr (0, [.ref d, .ref hk, .ref hs, .int h_c, .ref hu, .ref hn, .ref hg, .int h_e])), (d, .inr (4, [.ref db, .int d_l])), (db, .inl (cB, 12000, .inl (b8 d_f))), (hk, .inl (cI, 60, .inl h_k)), (hs, .inl (cI, 61, .inl h_s)), (hu, .inl (cI, 40, .inl h_u)), (hn, .inl (cJ, 40, .inr (.inl h_n))), (hg, .inl (cI, 40, .inl h_g)), (o, .inr (4, [.ref ob, .int z63.1])), (ob, .inl (cB, o_n, .inl (b8 z63.2)))] [0, 1, 2, 3, 4, 5, 6, 7, 8, 9] rfl rfl rfl (0) (0) (Nat.le_of_ble_eq_true rfl) (Nat.le_of_ble_eq_true rfl) ⟨(Nat.le_of_ble_eq_true rfl), (Nat.le_of_ble_eq_true rfl)⟩ dX0_writeTo_63 ?_
  refine J_iconst O (v := 0) (pc := 66) (by decide) dX0_writeTo_66 ?_
  refine J_istore_n O (i := 2) (k0 := 2) (pc := 67) rfl [(2, .int 0), (0, .ref h), (1, .ref o)] (by decide) rfl dX0_writeTo_67 ?_
  refine J_sub [1, 2, 0] (lv' := [(0, .ref h), (1, .ref o), (2, .int 0)]) rfl ?_
  exact wk_X0_writeTo_68 O h d db hk hs hu hn hg o ob o_n h_c h_e d_l d_f h_k h_s h_u h_n h_g fu fu 0 z63.1 z63.2 hf
theorem in_X1_fail_X1 : ∀ w ∈ u_ws RX1 TX1 3, w ∈ wsX1_fail := fun _ h => List.mem_cons_of_mem _ (List.mem_append_right _ h)
theorem mb_X1_fail_1 : Cond.fieldLink RX1 19 (TX1 2).1 (TX1 2).2.1 (TX1 2).2.2.1 ∈ wsX1_fail := by decide +kernel
abbrev rmX1_fail : Room := { frames := 0, cells := 0, slots := 0, locals := 0 }
set_option maxHeartbeats 4000000 in
set_option maxRecDepth 100000 in
theorem c_X1_fail (l : Launch) (D : va_G) (cB cI cJ : ClassId) (j jp : Nat) (j_c : Int32) (j_a : Int32) (j_p : Nat → Int32) (a1 : Int32) (a2 : Int32) {z : Int32 × Int32} (hf : p_X1_fail j_a a1 a2 = some z) : Ci (l, D, cB, cI, cJ) yX1_fail wsX1_fail rmX1_fail [.ref j, .int a1, .int a2] [(j, .inr (1, [.ref jp, .int j_c, .int j_a])), (jp, .inl (cI, 60, .inl j_p))] [(j, .inr (1, [.ref jp, .int j_c, .int z.2])), (jp, .inl (cI, 60, .inl j_p))] z.1 := by
  refine Ci_of (cc := cX1_fail) (nL := 3) (own := RX1) (ret := (some .int)) (by decide) rfl rfl (Nat.le_of_ble_eq_true rfl) (fun X O hnm0 => ?_)
  rw [p_X1_fail] at hf
  show J X 3 (JQi X [(j, .inr (1, [.ref jp, .int j_c, .int z.2])), (jp, .inl (cI, 60, .inl j_p))] z.1 0 0) [(j, .inr (1, [.ref jp, .int j_c, .int j_a])), (jp, .inl (cI, 60, .inl j_p))] 0 0 0 [(0, .ref j), (1, .int a1), (2, .int a2)] []
  refine J_aload_n O (i := 0) (k0 := 0) (pc := 0) 0 rfl rfl dX1_fail_0 ?_
  refine J_iload_n O (i := 2) (k0 := 2) (pc := 1) 2 rfl rfl dX1_fail_1 ?_
  refine J_put O (pc := 2) in_X1_fail_X1 tyX1 tyX1_ok nmX1 0 rfl rfl 2 (by decide) mb_X1_fail_1 rfl rfl rfl (Nat.le_of_ble_eq_true rfl) [(j, .inr (1, [.ref jp, .int j_c, .int a2])), (jp, .inl (cI, 60, .inl j_p))] rfl dX1_fail_2 ?_
  refine J_iload_n O (i := 1) (k0 := 1) (pc := 5) 1 rfl rfl dX1_fail_5 ?_
  cases hf
  exact J_iret O (pc := 6) rfl dX1_fail_6
theorem in_X1_pieceAt_X1 : ∀ w ∈ u_ws RX1 TX1 3, w ∈ wsX1_pieceAt := fun _ h => List.mem_cons_of_mem _ (List.mem_append_right _ h)
theorem mb_X1_pieceAt_1 : Cond.fieldLink RX1 15 (TX1 1).1 (TX1 1).2.1 (TX1 1).2.2.1 ∈ wsX1_pieceAt := by decide +kernel
theorem mb_X1_pieceAt_2 : Cond.fieldLink RX1 9 (TX1 0).1 (TX1 0).2.1 (TX1 0).2.2.1 ∈ wsX1_pieceAt := by decide +kernel
abbrev rmX1_pieceAt : Room := { frames := 0, cells := 0, slots := 0, locals := 0 }
set_option maxHeartbeats 4000000 in
set_option maxRecDepth 100000 in
theorem wk_X1_pieceAt_2 {X : JC} {l : Launch} {D : va_G} {cB cI cJ : ClassId} (O : Jo X (l, D, cB, cI, cJ) cX1_pieceAt 4 RX1 wsX1_pieceAt rmX1_pieceAt (some .int)) (j jp : Nat) (j_c : Int32) (j_a : Int32) (j_p : Nat → Int32) (a1 : Int64) (fu : Nat) {z : Int32} : ∀ (fn : Nat) (v3 : Int32), p_X1_pieceAt_2 fu j_c j_p a1 fn v3 = some z → J X 4 (JQi X [(j, .inr (1, [.ref jp, .int j_c, .int j_a])), (jp, .inl (cI, 60, .inl j_p))] z 0 0) [(j, .inr (1, [.ref jp, .int j_c, .int j_a])), (jp, .inl (cI, 60, .inl j_p))] 0 0 2 [(0, .ref j), (1, .long a1), (3, .int v3)] [] := by
  intro fn
  induction fn with
  | zero =>
    intro v3 hf
    rw [p_X1_pieceAt_2] at hf
    exact jt_n hf
  | succ fn ih =>
    intro v3 hf
    rw [p_X1_pieceAt_2] at hf
    refine J_iload_n O (i := 3) (k0 := 3) (pc := 2) 2 rfl rfl dX1_pieceAt_2 ?_
    refine J_aload_n O (i := 0) (k0 := 0) (pc := 3) 0 rfl rfl dX1_pieceAt_3 ?_
    refine J_get O (pc := 4) in_X1_pieceAt_X1 0 rfl rfl 1 (by decide) mb_X1_pieceAt_1 rfl dX1_pieceAt_4 ?_
    refine J_icmp_ge O (tgt := 30) (pc := 7) dX1_pieceAt_7 (by decide) (fun c7 => ?_) (fun c7 => ?_)
    · have hf := jt_t c7 hf
      refine J_bipush O (v := (-2)) (pc := 30) (by decide) dX1_pieceAt_30 ?_
      cases hf
      exact J_iret O (pc := 32) rfl dX1_pieceAt_32
    · have hf := jt_f c7 hf
      refine J_aload_n O (i := 0) (k0 := 0) (pc := 10) 0 rfl rfl dX1_pieceAt_10 ?_
      refine J_get O (pc := 11) in_X1_pieceAt_X1 0 rfl rfl 0 (by decide) mb_X1_pieceAt_2 rfl dX1_pieceAt_11 ?_
      refine J_iload_n O (i := 3) (k0 := 3) (pc := 14) 2 rfl rfl dX1_pieceAt_14 ?_
      obtain ⟨h15, hf⟩ := jt_g hf
      refine J_iald O (pc := 15) 1 1 rfl rfl h15 dX1_pieceAt_15 ?_
      refine J_i2l O (pc := 16) dX1_pieceAt_16 ?_
      refine J_lload_n O (i := 1) (k0 := 1) (pc := 17) 1 rfl rfl dX1_pieceAt_17 ?_
      refine J_lif_ne O (tgt := 24) (pc := 18) dX1_pieceAt_18 dX1_pieceAt_19 (by decide) (fun c18 => ?_) (fun c18 => ?_)
      · have hf := jt_f c18 hf
        refine J_iinc O (i := 3) (n := 1) (v := v3 + 1) (pc := 24) 2 rfl [(3, .int (v3 + 1)), (0, .ref j), (1, .long a1)] (by decide) (congrArg (_ + ·) (by decide)) rfl dX1_pieceAt_24 ?_
        refine J_goto O (tgt := 2) (pc := 27) dX1_pieceAt_27 (by decide) ?_
        refine J_sub [1, 2, 0] (lv' := [(0, .ref j), (1, .long a1), (3, .int (v3 + 1))]) rfl ?_
        exact ih (v3 + 1) hf
      · have hf := jt_t c18 hf
        refine J_iload_n O (i := 3) (k0 := 3) (pc := 22) 2 rfl rfl dX1_pieceAt_22 ?_
        cases hf
        exact J_iret O (pc := 23) rfl dX1_pieceAt_23
set_option maxHeartbeats 4000000 in
set_option maxRecDepth 100000 in
theorem c_X1_pieceAt (l : Launch) (D : va_G) (cB cI cJ : ClassId) (j jp : Nat) (j_c : Int32) (j_a : Int32) (j_p : Nat → Int32) (a1 : Int64) (fu : Nat) {z : Int32} (hf : p_X1_pieceAt fu j_c j_p a1 = some z) : Ci (l, D, cB, cI, cJ) yX1_pieceAt wsX1_pieceAt rmX1_pieceAt [.ref j, .long a1] [(j, .inr (1, [.ref jp, .int j_c, .int j_a])), (jp, .inl (cI, 60, .inl j_p))] [(j, .inr (1, [.ref jp, .int j_c, .int j_a])), (jp, .inl (cI, 60, .inl j_p))] z := by
  refine Ci_of (cc := cX1_pieceAt) (nL := 4) (own := RX1) (ret := (some .int)) (by decide) rfl rfl (Nat.le_of_ble_eq_true rfl) (fun X O hnm0 => ?_)
  rw [p_X1_pieceAt] at hf
  show J X 4 (JQi X [(j, .inr (1, [.ref jp, .int j_c, .int j_a])), (jp, .inl (cI, 60, .inl j_p))] z 0 0) [(j, .inr (1, [.ref jp, .int j_c, .int j_a])), (jp, .inl (cI, 60, .inl j_p))] 0 0 0 [(0, .ref j), (1, .long a1)] []
  refine J_iconst O (v := 0) (pc := 0) (by decide) dX1_pieceAt_0 ?_
  refine J_istore_n O (i := 3) (k0 := 3) (pc := 1) rfl [(3, .int 0), (0, .ref j), (1, .long a1)] (by decide) rfl dX1_pieceAt_1 ?_
  refine J_sub [1, 2, 0] (lv' := [(0, .ref j), (1, .long a1), (3, .int 0)]) rfl ?_
  exact wk_X1_pieceAt_2 O j jp j_c j_a j_p a1 fu fu 0 hf
theorem in_X1_faultOfHead_X3 : ∀ w ∈ u_ws RX3 TX3 3, w ∈ wsX1_faultOfHead := fun _ h => List.mem_cons_of_mem _ (List.mem_append_left _ (List.mem_append_left _ (List.mem_append_right _ h)))
theorem mb_X1_faultOfHead_1 : Cond.fieldLink RX1 32 (TX3 2).1 (TX3 2).2.1 (TX3 2).2.2.1 ∈ wsX1_faultOfHead := by decide +kernel
theorem mb_X1_faultOfHead_2 : Cond.constantLong RX1 47 1179603533 ∈ wsX1_faultOfHead := by decide +kernel
theorem mb_X1_faultOfHead_3 : Cond.constantLong RX1 49 1229345363 ∈ wsX1_faultOfHead := by decide +kernel
theorem hdV_X1_fail : yX1_fail.cls = RX1 ∧ yX1_fail.cls ≠ "java/lang/invoke/MethodHandle" ∧ yX1_fail.cls ≠ "java/lang/invoke/VarHandle" ∧ (parseMethodDescriptor yX1_fail.desc).map (fun d => d.parameters.length) = some 2 := by decide +kernel
abbrev rmX1_faultOfHead : Room := { frames := 3, cells := 0, slots := 0, locals := 68 }
set_option maxHeartbeats 4000000 in
set_option maxRecDepth 100000 in
theorem c_X1_faultOfHead (l : Launch) (D : va_G) (cB cI cJ : ClassId) (j jp q t tb t_n : Nat) (j_c : Int32) (j_a : Int32) (j_p : Nat → Int32) (q_o : Int32) (q_l : Int32) (t_l : Int32) (t_f : Nat → Int8) (fu : Nat) {z : Int32 × Int32} (hf : p_X1_faultOfHead fu t_n j_a q_o q_l t_f = some z) : Ci (l, D, cB, cI, cJ) yX1_faultOfHead wsX1_faultOfHead rmX1_faultOfHead [.ref j, .ref q] [(j, .inr (1, [.ref jp, .int j_c, .int j_a])), (jp, .inl (cI, 60, .inl j_p)), (q, .inr (2, [.ref t, .int q_o, .int q_l])), (t, .inr (4, [.ref tb, .int t_l])), (tb, .inl (cB, t_n, .inl (b8 t_f)))] [(j, .inr (1, [.ref jp, .int j_c, .int z.2])), (jp, .inl (cI, 60, .inl j_p)), (q, .inr (2, [.ref t, .int q_o, .int q_l])), (t, .inr (4, [.ref tb, .int t_l])), (tb, .inl (cB, t_n, .inl (b8 t_f)))] z.1 := by
  refine Ci_of (cc := cX1_faultOfHead) (nL := 2) (own := RX1) (ret := (some .int)) (by decide) rfl rfl (Nat.le_of_ble_eq_true rfl) (fun X O hnm0 => ?_)
  rw [p_X1_faultOfHead] at hf
  show J X 2 (JQi X [(j, .inr (1, [.ref jp, .int j_c, .int z.2])), (jp, .inl (cI, 60, .inl j_p)), (q, .inr (2, [.ref t, .int q_o, .int q_l])), (t, .inr (4, [.ref tb, .int t_l])), (tb, .inl (cB, t_n, .inl (b8 t_f)))] z.1 0 0) [(j, .inr (1, [.ref jp, .int j_c, .int j_a])), (jp, .inl (cI, 60, .inl j_p)), (q, .inr (2, [.ref t, .int q_o, .int q_l])), (t, .inr (4, [.ref tb, .int t_l])), (tb, .inl (cB, t_n, .inl (b8 t_f)))] 0 0 0 [(0, .ref j), (1, .ref q)] []
  refine J_aload_n O (i := 1) (k0 := 1) (pc := 0) 1 rfl rfl dX1_faultOfHead_0 ?_
  refine J_get O (pc := 1) in_X1_faultOfHead_X3 2 rfl rfl 2 (by decide) mb_X1_faultOfHead_1 rfl dX1_faultOfHead_1 ?_
  refine J_bipush O (v := 12) (pc := 4) (by decide) dX1_faultOfHead_4 ?_
  refine J_icmp_ge O (tgt := 19) (pc := 6) dX1_faultOfHead_6 (by decide) (fun c6 => ?_) (fun c6 => ?_)
  · have hf := jt_t c6 hf
    refine J_aload_n O (i := 1) (k0 := 1) (pc := 19) 1 rfl rfl dX1_faultOfHead_19 ?_
    refine J_iconst O (v := 0) (pc := 20) (by decide) dX1_faultOfHead_20 ?_
    obtain ⟨z21, h21, hf⟩ := jt_b hf
    refine J_callVl O (pc := 21) (c_X3_u4 l D cB cI cJ q t tb t_n q_o q_l t_l t_f 0 fu h21) rfl 0 rfl rfl gX1_faultOfHead_X3_u4 hdV_X3_u4 ⟨(Nat.le_of_ble_eq_true rfl), (Nat.le_of_ble_eq_true rfl)⟩ rfl (st := []) rfl (Nat.le_of_ble_eq_true rfl) [2, 3, 4] [0, 1] rfl rfl rfl rfl rfl (by decide) [(j, .inr (1, [.ref jp, .int j_c, .int j_a])), (jp, .inl (cI, 60, .inl j_p)), (q, .inr (2, [.ref t, .int q_o, .int q_l])), (t, .inr (4, [.ref tb, .int t_l])), (tb, .inl (cB, t_n, .inl (b8 t_f)))] [0, 1, 2, 3, 4] rfl rfl rfl (0) (0) (Nat.le_of_ble_eq_true rfl) (Nat.le_of_ble_eq_true rfl) ⟨(Nat.le_of_ble_eq_true rfl), (Nat.le_of_ble_eq_true rfl)⟩ dX1_faultOfHead_21 ?_
    refine J_ldc2 O (pc := 24) mb_X1_faultOfHead_2 dX1_faultOfHead_24 ?_
    refine J_lif_eq O (tgt := 38) (pc := 27) dX1_faultOfHead_27 dX1_faultOfHead_28 (by decide) (fun c27 => ?_) (fun c27 => ?_)
    · have hf := jt_t c27 hf
      refine J_aload_n O (i := 1) (k0 := 1) (pc := 38) 1 rfl rfl dX1_faultOfHead_38 ?_
      refine J_iconst O (v := 4) (pc := 39) (by decide) dX1_faultOfHead_39 ?_
      obtain ⟨z40, h40, hf⟩ := jt_b hf
      refine J_callVl O (pc := 40) (c_X3_u4 l D cB cI cJ q t tb t_n q_o q_l t_l t_f 4 fu h40) rfl 0 rfl rfl gX1_faultOfHead_X3_u4 hdV_X3_u4 ⟨(Nat.le_of_ble_eq_true rfl), (Nat.le_of_ble_eq_true rfl)⟩ rfl (st := []) rfl (Nat.le_of_ble_eq_true rfl) [2, 3, 4] [0, 1] rfl rfl rfl rfl rfl (by decide) [(j, .inr (1, [.ref jp, .int j_c, .int j_a])), (jp, .inl (cI, 60, .inl j_p)), (q, .inr (2, [.ref t, .int q_o, .int q_l])), (t, .inr (4, [.ref tb, .int t_l])), (tb, .inl (cB, t_n, .inl (b8 t_f)))] [0, 1, 2, 3, 4] rfl rfl rfl (0) (0) (Nat.le_of_ble_eq_true rfl) (Nat.le_of_ble_eq_true rfl) ⟨(Nat.le_of_ble_eq_true rfl), (Nat.le_of_ble_eq_true rfl)⟩ dX1_faultOfHead_40 ?_
      refine J_aload_n O (i := 1) (k0 := 1) (pc := 43) 1 rfl rfl dX1_faultOfHead_43 ?_
      refine J_get O (pc := 44) in_X1_faultOfHead_X3 2 rfl rfl 2 (by decide) mb_X1_faultOfHead_1 rfl dX1_faultOfHead_44 ?_
      refine J_bipush O (v := 8) (pc := 47) (by decide) dX1_faultOfHead_47 ?_
      refine J_isub O (pc := 49) dX1_faultOfHead_49 ?_
      refine J_i2l O (pc := 50) dX1_faultOfHead_50 ?_
      refine J_lif_eq O (tgt := 62) (pc := 51) dX1_faultOfHead_51 dX1_faultOfHead_52 (by decide) (fun c51 => ?_) (fun c51 => ?_)
      · have hf := jt_t c51 hf
        refine J_aload_n O (i := 1) (k0 := 1) (pc := 62) 1 rfl rfl dX1_faultOfHead_62 ?_
        refine J_bipush O (v := 8) (pc := 63) (by decide) dX1_faultOfHead_63 ?_
        obtain ⟨z65, h65, hf⟩ := jt_b hf
        refine J_callVl O (pc := 65) (c_X3_u4 l D cB cI cJ q t tb t_n q_o q_l t_l t_f 8 fu h65) rfl 0 rfl rfl gX1_faultOfHead_X3_u4 hdV_X3_u4 ⟨(Nat.le_of_ble_eq_true rfl), (Nat.le_of_ble_eq_true rfl)⟩ rfl (st := []) rfl (Nat.le_of_ble_eq_true rfl) [2, 3, 4] [0, 1] rfl rfl rfl rfl rfl (by decide) [(j, .inr (1, [.ref jp, .int j_c, .int j_a])), (jp, .inl (cI, 60, .inl j_p)), (q, .inr (2, [.ref t, .int q_o, .int q_l])), (t, .inr (4, [.ref tb, .int t_l])), (tb, .inl (cB, t_n, .inl (b8 t_f)))] [0, 1, 2, 3, 4] rfl rfl rfl (0) (0) (Nat.le_of_ble_eq_true rfl) (Nat.le_of_ble_eq_true rfl) ⟨(Nat.le_of_ble_eq_true rfl), (Nat.le_of_ble_eq_true rfl)⟩ dX1_faultOfHead_65 ?_
        refine J_ldc2 O (pc := 68) mb_X1_faultOfHead_3 dX1_faultOfHead_68 ?_
        refine J_lif_eq O (tgt := 83) (pc := 71) dX1_faultOfHead_71 dX1_faultOfHead_72 (by decide) (fun c71 => ?_) (fun c71 => ?_)
        · have hf := jt_t c71 hf
          refine J_iconst O (v := 0) (pc := 83) (by decide) dX1_faultOfHead_83 ?_
          cases hf
          exact J_iret O (pc := 84) rfl dX1_faultOfHead_84
        · have hf := jt_f c71 hf
          refine J_aload_n O (i := 0) (k0 := 0) (pc := 75) 0 rfl rfl dX1_faultOfHead_75 ?_
          refine J_iconst O (v := 2) (pc := 76) (by decide) dX1_faultOfHead_76 ?_
          refine J_bipush O (v := 8) (pc := 77) (by decide) dX1_faultOfHead_77 ?_
          obtain ⟨z79, h79, hf⟩ := jt_b hf
          refine J_callVi O (pc := 79) (c_X1_fail l D cB cI cJ j jp j_c j_a j_p 2 8 h79) rfl 0 rfl rfl gX1_faultOfHead_X1_fail hdV_X1_fail ⟨(Nat.le_of_ble_eq_true rfl), (Nat.le_of_ble_eq_true rfl)⟩ rfl (st := []) rfl (Nat.le_of_ble_eq_true rfl) [0, 1] [2, 3, 4] rfl rfl rfl rfl rfl (by decide) [(j, .inr (1, [.ref jp, .int j_c, .int z79.2])), (jp, .inl (cI, 60, .inl j_p)), (q, .inr (2, [.ref t, .int q_o, .int q_l])), (t, .inr (4, [.ref tb, .int t_l])), (tb, .inl (cB, t_n, .inl (b8 t_f)))] [3, 4, 0, 1, 2] rfl rfl rfl (0) (0) (Nat.le_of_ble_eq_true rfl) (Nat.le_of_ble_eq_true rfl) ⟨(Nat.le_of_ble_eq_true rfl), (Nat.le_of_ble_eq_true rfl)⟩ dX1_faultOfHead_79 ?_
          cases hf
          exact J_iret O (pc := 82) rfl dX1_faultOfHead_82
      · have hf := jt_f c51 hf
        refine J_aload_n O (i := 0) (k0 := 0) (pc := 55) 0 rfl rfl dX1_faultOfHead_55 ?_
        refine J_iconst O (v := 3) (pc := 56) (by decide) dX1_faultOfHead_56 ?_
        refine J_iconst O (v := 4) (pc := 57) (by decide) dX1_faultOfHead_57 ?_
        obtain ⟨z58, h58, hf⟩ := jt_b hf
        refine J_callVi O (pc := 58) (c_X1_fail l D cB cI cJ j jp j_c j_a j_p 3 4 h58) rfl 0 rfl rfl gX1_faultOfHead_X1_fail hdV_X1_fail ⟨(Nat.le_of_ble_eq_true rfl), (Nat.le_of_ble_eq_true rfl)⟩ rfl (st := []) rfl (Nat.le_of_ble_eq_true rfl) [0, 1] [2, 3, 4] rfl rfl rfl rfl rfl (by decide) [(j, .inr (1, [.ref jp, .int j_c, .int z58.2])), (jp, .inl (cI, 60, .inl j_p)), (q, .inr (2, [.ref t, .int q_o, .int q_l])), (t, .inr (4, [.ref tb, .int t_l])), (tb, .inl (cB, t_n, .inl (b8 t_f)))] [3, 4, 0, 1, 2] rfl rfl rfl (0) (0) (Nat.le_of_ble_eq_true rfl) (Nat.le_of_ble_eq_true rfl) ⟨(Nat.le_of_ble_eq_true rfl), (Nat.le_of_ble_eq_true rfl)⟩ dX1_faultOfHead_58 ?_
        cases hf
        exact J_iret O (pc := 61) rfl dX1_faultOfHead_61
    · have hf := jt_f c27 hf
      refine J_aload_n O (i := 0) (k0 := 0) (pc := 31) 0 rfl rfl dX1_faultOfHead_31 ?_
      refine J_iconst O (v := 2) (pc := 32) (by decide) dX1_faultOfHead_32 ?_
      refine J_iconst O (v := 0) (pc := 33) (by decide) dX1_faultOfHead_33 ?_
      obtain ⟨z34, h34, hf⟩ := jt_b hf
      refine J_callVi O (pc := 34) (c_X1_fail l D cB cI cJ j jp j_c j_a j_p 2 0 h34) rfl 0 rfl rfl gX1_faultOfHead_X1_fail hdV_X1_fail ⟨(Nat.le_of_ble_eq_true rfl), (Nat.le_of_ble_eq_true rfl)⟩ rfl (st := []) rfl (Nat.le_of_ble_eq_true rfl) [0, 1] [2, 3, 4] rfl rfl rfl rfl rfl (by decide) [(j, .inr (1, [.ref jp, .int j_c, .int z34.2])), (jp, .inl (cI, 60, .inl j_p)), (q, .inr (2, [.ref t, .int q_o, .int q_l])), (t, .inr (4, [.ref tb, .int t_l])), (tb, .inl (cB, t_n, .inl (b8 t_f)))] [3, 4, 0, 1, 2] rfl rfl rfl (0) (0) (Nat.le_of_ble_eq_true rfl) (Nat.le_of_ble_eq_true rfl) ⟨(Nat.le_of_ble_eq_true rfl), (Nat.le_of_ble_eq_true rfl)⟩ dX1_faultOfHead_34 ?_
      cases hf
      exact J_iret O (pc := 37) rfl dX1_faultOfHead_37
  · have hf := jt_f c6 hf
    refine J_aload_n O (i := 0) (k0 := 0) (pc := 9) 0 rfl rfl dX1_faultOfHead_9 ?_
    refine J_iconst O (v := 1) (pc := 10) (by decide) dX1_faultOfHead_10 ?_
    refine J_aload_n O (i := 1) (k0 := 1) (pc := 11) 1 rfl rfl dX1_faultOfHead_11 ?_
    refine J_get O (pc := 12) in_X1_faultOfHead_X3 2 rfl rfl 2 (by decide) mb_X1_faultOfHead_1 rfl dX1_faultOfHead_12 ?_
    obtain ⟨z15, h15, hf⟩ := jt_b hf
    refine J_callVi O (pc := 15) (c_X1_fail l D cB cI cJ j jp j_c j_a j_p 1 q_l h15) rfl 0 rfl rfl gX1_faultOfHead_X1_fail hdV_X1_fail ⟨(Nat.le_of_ble_eq_true rfl), (Nat.le_of_ble_eq_true rfl)⟩ rfl (st := []) rfl (Nat.le_of_ble_eq_true rfl) [0, 1] [2, 3, 4] rfl rfl rfl rfl rfl (by decide) [(j, .inr (1, [.ref jp, .int j_c, .int z15.2])), (jp, .inl (cI, 60, .inl j_p)), (q, .inr (2, [.ref t, .int q_o, .int q_l])), (t, .inr (4, [.ref tb, .int t_l])), (tb, .inl (cB, t_n, .inl (b8 t_f)))] [3, 4, 0, 1, 2] rfl rfl rfl (0) (0) (Nat.le_of_ble_eq_true rfl) (Nat.le_of_ble_eq_true rfl) ⟨(Nat.le_of_ble_eq_true rfl), (Nat.le_of_ble_eq_true rfl)⟩ dX1_faultOfHead_15 ?_
    cases hf
    exact J_iret O (pc := 18) rfl dX1_faultOfHead_18
theorem mb_X1_faultOfPiece_0 : Cond.constant RX1 62 1380541560 ∈ wsX1_faultOfPiece := by decide +kernel
theorem hdS_X2_isKind : yX2_isKind.cls ≠ "java/lang/invoke/MethodHandle" ∧ yX2_isKind.cls ≠ "java/lang/invoke/VarHandle" ∧ (parseMethodDescriptor yX2_isKind.desc).map (fun d => d.parameters.length) = some 1 := by decide +kernel
theorem in_X1_faultOfPiece_X1 : ∀ w ∈ u_ws RX1 TX1 3, w ∈ wsX1_faultOfPiece := fun _ h => List.mem_cons_of_mem _ (List.mem_append_left _ (List.mem_append_right _ h))
theorem mb_X1_faultOfPiece_2 : Cond.fieldLink RX1 15 (TX1 1).1 (TX1 1).2.1 (TX1 1).2.2.1 ∈ wsX1_faultOfPiece := by decide +kernel
theorem in_X1_faultOfPiece_X3 : ∀ w ∈ u_ws RX3 TX3 3, w ∈ wsX1_faultOfPiece := fun _ h => List.mem_cons_of_mem _ (List.mem_append_left _ (List.mem_append_left _ (List.mem_append_right _ h)))
theorem mb_X1_faultOfPiece_4 : Cond.fieldLink RX1 32 (TX3 2).1 (TX3 2).2.1 (TX3 2).2.2.1 ∈ wsX1_faultOfPiece := by decide +kernel
abbrev rmX1_faultOfPiece : Room := { frames := 3, cells := 0, slots := 0, locals := 68 }
set_option maxHeartbeats 4000000 in
set_option maxRecDepth 100000 in
theorem wk_X1_faultOfPiece_60 {X : JC} {l : Launch} {D : va_G} {cB cI cJ : ClassId} (O : Jo X (l, D, cB, cI, cJ) cX1_faultOfPiece 10 RX1 wsX1_faultOfPiece rmX1_faultOfPiece (some .int)) (j jp q t tb : Nat) (t_n : Nat) (j_c : Int32) (j_p : Nat → Int32) (q_o : Int32) (q_l : Int32) (t_l : Int32) (t_f : Nat → Int8) (a2 : Int32) (fu : Nat) {z : Int32 × Int32} (s0 : Int32) (s1 : Int32) (j_a : Int32) (hf : p_X1_faultOfPiece_60 fu t_n j_c q_o q_l t_f a2 s0 s1 j_a = some z) : J X 10 (JQi X [(j, .inr (1, [.ref jp, .int j_c, .int z.2])), (jp, .inl (cI, 60, .inl j_p)), (q, .inr (2, [.ref t, .int q_o, .int q_l])), (t, .inr (4, [.ref tb, .int t_l])), (tb, .inl (cB, t_n, .inl (b8 t_f)))] z.1 0 0) [(j, .inr (1, [.ref jp, .int j_c, .int j_a])), (jp, .inl (cI, 60, .inl j_p)), (q, .inr (2, [.ref t, .int q_o, .int q_l])), (t, .inr (4, [.ref tb, .int t_l])), (tb, .inl (cB, t_n, .inl (b8 t_f)))] 0 0 60 [(0, .ref j), (1, .ref q), (2, .int a2)] [.int s0, .int s1] := by
  rw [p_X1_faultOfPiece_60] at hf
  refine J_icmp_eq O (tgt := 70) (pc := 60) dX1_faultOfPiece_60 (by decide) (fun c60 => ?_) (fun c60 => ?_)
  · have hf := jt_t c60 hf
    refine J_aload_n O (i := 0) (k0 := 0) (pc := 70) 0 rfl rfl dX1_faultOfPiece_70 ?_
    refine J_get O (pc := 71) in_X1_faultOfPiece_X1 0 rfl rfl 1 (by decide) mb_X1_faultOfPiece_2 rfl dX1_faultOfPiece_71 ?_
    refine J_bipush O (v := 60) (pc := 74) (by decide) dX1_faultOfPiece_74 ?_
    refine J_icmp_lt O (tgt := 87) (pc := 76) dX1_faultOfPiece_76 (by decide) (fun c76 => ?_) (fun c76 => ?_)
    · have hf := jt_t c76 hf
      refine J_aload_n O (i := 1) (k0 := 1) (pc := 87) 1 rfl rfl dX1_faultOfPiece_87 ?_
      refine J_iload_n O (i := 2) (k0 := 2) (pc := 88) 2 rfl rfl dX1_faultOfPiece_88 ?_
      refine J_iconst O (v := 4) (pc := 89) (by decide) dX1_faultOfPiece_89 ?_
      refine J_iadd O (pc := 90) dX1_faultOfPiece_90 ?_
      obtain ⟨z91, h91, hf⟩ := jt_b hf
      refine J_callVl O (pc := 91) (c_X3_u4 l D cB cI cJ q t tb t_n q_o q_l t_l t_f (a2 + 4) fu h91) rfl 0 rfl rfl gX1_faultOfPiece_X3_u4 hdV_X3_u4 ⟨(Nat.le_of_ble_eq_true rfl), (Nat.le_of_ble_eq_true rfl)⟩ rfl (st := []) rfl (Nat.le_of_ble_eq_true rfl) [2, 3, 4] [0, 1] rfl rfl rfl rfl rfl (by decide) [(j, .inr (1, [.ref jp, .int j_c, .int j_a])), (jp, .inl (cI, 60, .inl j_p)), (q, .inr (2, [.ref t, .int q_o, .int q_l])), (t, .inr (4, [.ref tb, .int t_l])), (tb, .inl (cB, t_n, .inl (b8 t_f)))] [0, 1, 2, 3, 4] rfl rfl rfl (0) (0) (Nat.le_of_ble_eq_true rfl) (Nat.le_of_ble_eq_true rfl) ⟨(Nat.le_of_ble_eq_true rfl), (Nat.le_of_ble_eq_true rfl)⟩ dX1_faultOfPiece_91 ?_
      refine J_lstore O (i := 5) (pc := 94) [(5, .long z91), (0, .ref j), (1, .ref q), (2, .int a2)] (by decide) rfl dX1_faultOfPiece_94 ?_
      refine J_lload O (i := 5) (pc := 96) 0 rfl dX1_faultOfPiece_96 ?_
      refine J_lconst O (v := 1) (pc := 98) (by decide) dX1_faultOfPiece_98 ?_
      refine J_land O (pc := 99) dX1_faultOfPiece_99 ?_
      refine J_lstore O (i := 7) (pc := 100) [(7, .long (z91 &&& 1)), (5, .long z91), (0, .ref j), (1, .ref q), (2, .int a2)] (by decide) rfl dX1_faultOfPiece_100 ?_
      refine J_lload O (i := 5) (pc := 102) 1 rfl dX1_faultOfPiece_102 ?_
      refine J_lload O (i := 7) (pc := 104) 0 rfl dX1_faultOfPiece_104 ?_
      refine J_ladd O (pc := 106) dX1_faultOfPiece_106 ?_
      refine J_aload_n O (i := 1) (k0 := 1) (pc := 107) 3 rfl rfl dX1_faultOfPiece_107 ?_
      refine J_get O (pc := 108) in_X1_faultOfPiece_X3 2 rfl rfl 2 (by decide) mb_X1_faultOfPiece_4 rfl dX1_faultOfPiece_108 ?_
      refine J_iload_n O (i := 2) (k0 := 2) (pc := 111) 4 rfl rfl dX1_faultOfPiece_111 ?_
      refine J_isub O (pc := 112) dX1_faultOfPiece_112 ?_
      refine J_bipush O (v := 8) (pc := 113) (by decide) dX1_faultOfPiece_113 ?_
      refine J_isub O (pc := 115) dX1_faultOfPiece_115 ?_
      refine J_i2l O (pc := 116) dX1_faultOfPiece_116 ?_
      refine J_lif_le O (tgt := 130) (pc := 117) dX1_faultOfPiece_117 dX1_faultOfPiece_118 (by decide) (fun c117 => ?_) (fun c117 => ?_)
      · have hf := jt_t c117 hf
        refine J_iload_n O (i := 2) (k0 := 2) (pc := 130) 4 rfl rfl dX1_faultOfPiece_130 ?_
        refine J_bipush O (v := 8) (pc := 131) (by decide) dX1_faultOfPiece_131 ?_
        refine J_iadd O (pc := 133) dX1_faultOfPiece_133 ?_
        refine J_lload O (i := 5) (pc := 134) 1 rfl dX1_faultOfPiece_134 ?_
        refine J_l2i O (pc := 136) dX1_faultOfPiece_136 ?_
        refine J_iadd O (pc := 137) dX1_faultOfPiece_137 ?_
        refine J_istore O (i := 9) (pc := 138) [(9, .int ((a2 + 8) + (Int64.toInt32 z91))), (7, .long (z91 &&& 1)), (5, .long z91), (0, .ref j), (1, .ref q), (2, .int a2)] (by decide) rfl dX1_faultOfPiece_138 ?_
        refine J_lload O (i := 7) (pc := 140) 1 rfl dX1_faultOfPiece_140 ?_
        refine J_lconst O (v := 1) (pc := 142) (by decide) dX1_faultOfPiece_142 ?_
        refine J_lif_ne O (tgt := 164) (pc := 143) dX1_faultOfPiece_143 dX1_faultOfPiece_144 (by decide) (fun c143 => ?_) (fun c143 => ?_)
        · have hf := jt_f c143 hf
          refine J_iconst O (v := 0) (pc := 164) (by decide) dX1_faultOfPiece_164 ?_
          cases hf
          exact J_iret O (pc := 165) rfl dX1_faultOfPiece_165
        · have hf := jt_t c143 hf
          refine J_aload_n O (i := 1) (k0 := 1) (pc := 147) 4 rfl rfl dX1_faultOfPiece_147 ?_
          refine J_iload O (i := 9) (pc := 148) 0 rfl dX1_faultOfPiece_148 ?_
          obtain ⟨z150, h150, hf⟩ := jt_b hf
          refine J_callVi O (pc := 150) (c_X3_at l D cB cI cJ q t tb t_n q_o q_l t_l t_f ((a2 + 8) + (Int64.toInt32 z91)) fu h150) rfl 0 rfl rfl gX1_faultOfPiece_X3_at hdV_X3_at ⟨(Nat.le_of_ble_eq_true rfl), (Nat.le_of_ble_eq_true rfl)⟩ rfl (st := []) rfl (Nat.le_of_ble_eq_true rfl) [2, 3, 4] [0, 1] rfl rfl rfl rfl rfl (by decide) [(j, .inr (1, [.ref jp, .int j_c, .int j_a])), (jp, .inl (cI, 60, .inl j_p)), (q, .inr (2, [.ref t, .int q_o, .int q_l])), (t, .inr (4, [.ref tb, .int t_l])), (tb, .inl (cB, t_n, .inl (b8 t_f)))] [0, 1, 2, 3, 4] rfl rfl rfl (0) (0) (Nat.le_of_ble_eq_true rfl) (Nat.le_of_ble_eq_true rfl) ⟨(Nat.le_of_ble_eq_true rfl), (Nat.le_of_ble_eq_true rfl)⟩ dX1_faultOfPiece_150 ?_
          refine J_if_eq O (tgt := 164) (pc := 153) dX1_faultOfPiece_153 (by decide) (fun c153 => ?_) (fun c153 => ?_)
          · have hf := jt_t c153 hf
            refine J_iconst O (v := 0) (pc := 164) (by decide) dX1_faultOfPiece_164 ?_
            cases hf
            exact J_iret O (pc := 165) rfl dX1_faultOfPiece_165
          · have hf := jt_f c153 hf
            refine J_aload_n O (i := 0) (k0 := 0) (pc := 156) 3 rfl rfl dX1_faultOfPiece_156 ?_
            refine J_iconst O (v := 5) (pc := 157) (by decide) dX1_faultOfPiece_157 ?_
            refine J_iload O (i := 9) (pc := 158) 0 rfl dX1_faultOfPiece_158 ?_
            obtain ⟨z160, h160, hf⟩ := jt_b hf
            refine J_callVi O (pc := 160) (c_X1_fail l D cB cI cJ j jp j_c j_a j_p 5 ((a2 + 8) + (Int64.toInt32 z91)) h160) rfl 0 rfl rfl gX1_faultOfPiece_X1_fail hdV_X1_fail ⟨(Nat.le_of_ble_eq_true rfl), (Nat.le_of_ble_eq_true rfl)⟩ rfl (st := []) rfl (Nat.le_of_ble_eq_true rfl) [0, 1] [2, 3, 4] rfl rfl rfl rfl rfl (by decide) [(j, .inr (1, [.ref jp, .int j_c, .int z160.2])), (jp, .inl (cI, 60, .inl j_p)), (q, .inr (2, [.ref t, .int q_o, .int q_l])), (t, .inr (4, [.ref tb, .int t_l])), (tb, .inl (cB, t_n, .inl (b8 t_f)))] [3, 4, 0, 1, 2] rfl rfl rfl (0) (0) (Nat.le_of_ble_eq_true rfl) (Nat.le_of_ble_eq_true rfl) ⟨(Nat.le_of_ble_eq_true rfl), (Nat.le_of_ble_eq_true rfl)⟩ dX1_faultOfPiece_160 ?_
            cases hf
            exact J_iret O (pc := 163) rfl dX1_faultOfPiece_163
      · have hf := jt_f c117 hf
        refine J_aload_n O (i := 0) (k0 := 0) (pc := 121) 2 rfl rfl dX1_faultOfPiece_121 ?_
        refine J_iconst O (v := 4) (pc := 122) (by decide) dX1_faultOfPiece_122 ?_
        refine J_iload_n O (i := 2) (k0 := 2) (pc := 123) 4 rfl rfl dX1_faultOfPiece_123 ?_
        refine J_iconst O (v := 4) (pc := 124) (by decide) dX1_faultOfPiece_124 ?_
        refine J_iadd O (pc := 125) dX1_faultOfPiece_125 ?_
        obtain ⟨z126, h126, hf⟩ := jt_b hf
        refine J_callVi O (pc := 126) (c_X1_fail l D cB cI cJ j jp j_c j_a j_p 4 (a2 + 4) h126) rfl 0 rfl rfl gX1_faultOfPiece_X1_fail hdV_X1_fail ⟨(Nat.le_of_ble_eq_true rfl), (Nat.le_of_ble_eq_true rfl)⟩ rfl (st := []) rfl (Nat.le_of_ble_eq_true rfl) [0, 1] [2, 3, 4] rfl rfl rfl rfl rfl (by decide) [(j, .inr (1, [.ref jp, .int j_c, .int z126.2])), (jp, .inl (cI, 60, .inl j_p)), (q, .inr (2, [.ref t, .int q_o, .int q_l])), (t, .inr (4, [.ref tb, .int t_l])), (tb, .inl (cB, t_n, .inl (b8 t_f)))] [3, 4, 0, 1, 2] rfl rfl rfl (0) (0) (Nat.le_of_ble_eq_true rfl) (Nat.le_of_ble_eq_true rfl) ⟨(Nat.le_of_ble_eq_true rfl), (Nat.le_of_ble_eq_true rfl)⟩ dX1_faultOfPiece_126 ?_
        cases hf
        exact J_iret O (pc := 129) rfl dX1_faultOfPiece_129
    · have hf := jt_f c76 hf
      refine J_aload_n O (i := 0) (k0 := 0) (pc := 79) 0 rfl rfl dX1_faultOfPiece_79 ?_
      refine J_bipush O (v := 10) (pc := 80) (by decide) dX1_faultOfPiece_80 ?_
      refine J_iload_n O (i := 2) (k0 := 2) (pc := 82) 2 rfl rfl dX1_faultOfPiece_82 ?_
      obtain ⟨z83, h83, hf⟩ := jt_b hf
      refine J_callVi O (pc := 83) (c_X1_fail l D cB cI cJ j jp j_c j_a j_p 10 a2 h83) rfl 0 rfl rfl gX1_faultOfPiece_X1_fail hdV_X1_fail ⟨(Nat.le_of_ble_eq_true rfl), (Nat.le_of_ble_eq_true rfl)⟩ rfl (st := []) rfl (Nat.le_of_ble_eq_true rfl) [0, 1] [2, 3, 4] rfl rfl rfl rfl rfl (by decide) [(j, .inr (1, [.ref jp, .int j_c, .int z83.2])), (jp, .inl (cI, 60, .inl j_p)), (q, .inr (2, [.ref t, .int q_o, .int q_l])), (t, .inr (4, [.ref tb, .int t_l])), (tb, .inl (cB, t_n, .inl (b8 t_f)))] [3, 4, 0, 1, 2] rfl rfl rfl (0) (0) (Nat.le_of_ble_eq_true rfl) (Nat.le_of_ble_eq_true rfl) ⟨(Nat.le_of_ble_eq_true rfl), (Nat.le_of_ble_eq_true rfl)⟩ dX1_faultOfPiece_83 ?_
      cases hf
      exact J_iret O (pc := 86) rfl dX1_faultOfPiece_86
  · have hf := jt_f c60 hf
    refine J_aload_n O (i := 0) (k0 := 0) (pc := 63) 0 rfl rfl dX1_faultOfPiece_63 ?_
    refine J_iconst O (v := 2) (pc := 64) (by decide) dX1_faultOfPiece_64 ?_
    refine J_iload_n O (i := 2) (k0 := 2) (pc := 65) 2 rfl rfl dX1_faultOfPiece_65 ?_
    obtain ⟨z66, h66, hf⟩ := jt_b hf
    refine J_callVi O (pc := 66) (c_X1_fail l D cB cI cJ j jp j_c j_a j_p 2 a2 h66) rfl 0 rfl rfl gX1_faultOfPiece_X1_fail hdV_X1_fail ⟨(Nat.le_of_ble_eq_true rfl), (Nat.le_of_ble_eq_true rfl)⟩ rfl (st := []) rfl (Nat.le_of_ble_eq_true rfl) [0, 1] [2, 3, 4] rfl rfl rfl rfl rfl (by decide) [(j, .inr (1, [.ref jp, .int j_c, .int z66.2])), (jp, .inl (cI, 60, .inl j_p)), (q, .inr (2, [.ref t, .int q_o, .int q_l])), (t, .inr (4, [.ref tb, .int t_l])), (tb, .inl (cB, t_n, .inl (b8 t_f)))] [3, 4, 0, 1, 2] rfl rfl rfl (0) (0) (Nat.le_of_ble_eq_true rfl) (Nat.le_of_ble_eq_true rfl) ⟨(Nat.le_of_ble_eq_true rfl), (Nat.le_of_ble_eq_true rfl)⟩ dX1_faultOfPiece_66 ?_
    cases hf
    exact J_iret O (pc := 69) rfl dX1_faultOfPiece_69
set_option maxHeartbeats 4000000 in
set_option maxRecDepth 100000 in
theorem wk_X1_faultOfPiece_38 {X : JC} {l : Launch} {D : va_G} {cB cI cJ : ClassId} (O : Jo X (l, D, cB, cI, cJ) cX1_faultOfPiece 10 RX1 wsX1_faultOfPiece rmX1_faultOfPiece (some .int)) (j jp q t tb : Nat) (t_n : Nat) (j_c : Int32) (j_p : Nat → Int32) (q_o : Int32) (q_l : Int32) (t_l : Int32) (t_f : Nat → Int8) (a2 : Int32) (fu : Nat) {z : Int32 × Int32} (v3 : Int32) (s0 : Int32) (j_a : Int32) (hf : p_X1_faultOfPiece_38 fu t_n j_c q_o q_l t_f a2 v3 s0 j_a = some z) : J X 10 (JQi X [(j, .inr (1, [.ref jp, .int j_c, .int z.2])), (jp, .inl (cI, 60, .inl j_p)), (q, .inr (2, [.ref t, .int q_o, .int q_l])), (t, .inr (4, [.ref tb, .int t_l])), (tb, .inl (cB, t_n, .inl (b8 t_f)))] z.1 0 0) [(j, .inr (1, [.ref jp, .int j_c, .int j_a])), (jp, .inl (cI, 60, .inl j_p)), (q, .inr (2, [.ref t, .int q_o, .int q_l])), (t, .inr (4, [.ref tb, .int t_l])), (tb, .inl (cB, t_n, .inl (b8 t_f)))] 0 0 38 [(0, .ref j), (1, .ref q), (2, .int a2), (3, .int v3)] [.int s0] := by
  rw [p_X1_faultOfPiece_38] at hf
  refine J_istore O (i := 4) (pc := 38) [(4, .int s0), (0, .ref j), (1, .ref q), (2, .int a2), (3, .int v3)] (by decide) rfl dX1_faultOfPiece_38 ?_
  refine J_iload_n O (i := 3) (k0 := 3) (pc := 40) 4 rfl rfl dX1_faultOfPiece_40 ?_
  obtain ⟨z41, h41, hf⟩ := jt_b hf
  refine J_callSi O (pc := 41) (c_X2_isKind l D cB cI cJ v3 h41) rfl gX1_faultOfPiece_X2_isKind hdS_X2_isKind ⟨(Nat.le_of_ble_eq_true rfl), (Nat.le_of_ble_eq_true rfl)⟩ rfl (st := []) rfl (Nat.le_of_ble_eq_true rfl) [] [0, 1, 2, 3, 4] rfl rfl rfl rfl rfl (by decide) [(j, .inr (1, [.ref jp, .int j_c, .int j_a])), (jp, .inl (cI, 60, .inl j_p)), (q, .inr (2, [.ref t, .int q_o, .int q_l])), (t, .inr (4, [.ref tb, .int t_l])), (tb, .inl (cB, t_n, .inl (b8 t_f)))] [0, 1, 2, 3, 4] rfl rfl rfl (0) (0) (Nat.le_of_ble_eq_true rfl) (Nat.le_of_ble_eq_true rfl) ⟨(Nat.le_of_ble_eq_true rfl), (Nat.le_of_ble_eq_true rfl)⟩ dX1_faultOfPiece_41 ?_
  refine J_zeq O (tgt := 63) (pc := 44) dX1_faultOfPiece_44 (by decide) (fun c44 => ?_) (fun c44 => ?_)
  · have hf := jt_f c44 hf
    refine J_aload_n O (i := 0) (k0 := 0) (pc := 63) 1 rfl rfl dX1_faultOfPiece_63 ?_
    refine J_iconst O (v := 2) (pc := 64) (by decide) dX1_faultOfPiece_64 ?_
    refine J_iload_n O (i := 2) (k0 := 2) (pc := 65) 3 rfl rfl dX1_faultOfPiece_65 ?_
    obtain ⟨z66, h66, hf⟩ := jt_b hf
    refine J_callVi O (pc := 66) (c_X1_fail l D cB cI cJ j jp j_c j_a j_p 2 a2 h66) rfl 0 rfl rfl gX1_faultOfPiece_X1_fail hdV_X1_fail ⟨(Nat.le_of_ble_eq_true rfl), (Nat.le_of_ble_eq_true rfl)⟩ rfl (st := []) rfl (Nat.le_of_ble_eq_true rfl) [0, 1] [2, 3, 4] rfl rfl rfl rfl rfl (by decide) [(j, .inr (1, [.ref jp, .int j_c, .int z66.2])), (jp, .inl (cI, 60, .inl j_p)), (q, .inr (2, [.ref t, .int q_o, .int q_l])), (t, .inr (4, [.ref tb, .int t_l])), (tb, .inl (cB, t_n, .inl (b8 t_f)))] [3, 4, 0, 1, 2] rfl rfl rfl (0) (0) (Nat.le_of_ble_eq_true rfl) (Nat.le_of_ble_eq_true rfl) ⟨(Nat.le_of_ble_eq_true rfl), (Nat.le_of_ble_eq_true rfl)⟩ dX1_faultOfPiece_66 ?_
    cases hf
    exact J_iret O (pc := 69) rfl dX1_faultOfPiece_69
  · have hf := jt_t c44 hf
    refine J_iload O (i := 4) (pc := 47) 0 rfl dX1_faultOfPiece_47 ?_
    refine J_iload_n O (i := 2) (k0 := 2) (pc := 49) 3 rfl rfl dX1_faultOfPiece_49 ?_
    refine J_bipush O (v := 12) (pc := 50) (by decide) dX1_faultOfPiece_50 ?_
    refine J_icmp_ne O (tgt := 59) (pc := 52) dX1_faultOfPiece_52 (by decide) (fun c52 => ?_) (fun c52 => ?_)
    · have hf := jt_f c52 hf
      refine J_iconst O (v := 0) (pc := 59) (by decide) dX1_faultOfPiece_59 ?_
      refine J_sub [1, 2, 3] (lv' := [(0, .ref j), (1, .ref q), (2, .int a2)]) rfl ?_
      exact wk_X1_faultOfPiece_60 O j jp q t tb t_n j_c j_p q_o q_l t_l t_f a2 fu 0 s0 j_a hf
    · have hf := jt_t c52 hf
      refine J_iconst O (v := 1) (pc := 55) (by decide) dX1_faultOfPiece_55 ?_
      refine J_goto O (tgt := 60) (pc := 56) dX1_faultOfPiece_56 (by decide) ?_
      refine J_sub [1, 2, 3] (lv' := [(0, .ref j), (1, .ref q), (2, .int a2)]) rfl ?_
      exact wk_X1_faultOfPiece_60 O j jp q t tb t_n j_c j_p q_o q_l t_l t_f a2 fu 1 s0 j_a hf
set_option maxHeartbeats 4000000 in
set_option maxRecDepth 100000 in
theorem c_X1_faultOfPiece (l : Launch) (D : va_G) (cB cI cJ : ClassId) (j jp q t tb t_n : Nat) (j_c : Int32) (j_a : Int32) (j_p : Nat → Int32) (q_o : Int32) (q_l : Int32) (t_l : Int32) (t_f : Nat → Int8) (a2 : Int32) (fu : Nat) {z : Int32 × Int32} (hf : p_X1_faultOfPiece fu t_n j_c j_a q_o q_l t_f a2 = some z) : Ci (l, D, cB, cI, cJ) yX1_faultOfPiece wsX1_faultOfPiece rmX1_faultOfPiece [.ref j, .ref q, .int a2] [(j, .inr (1, [.ref jp, .int j_c, .int j_a])), (jp, .inl (cI, 60, .inl j_p)), (q, .inr (2, [.ref t, .int q_o, .int q_l])), (t, .inr (4, [.ref tb, .int t_l])), (tb, .inl (cB, t_n, .inl (b8 t_f)))] [(j, .inr (1, [.ref jp, .int j_c, .int z.2])), (jp, .inl (cI, 60, .inl j_p)), (q, .inr (2, [.ref t, .int q_o, .int q_l])), (t, .inr (4, [.ref tb, .int t_l])), (tb, .inl (cB, t_n, .inl (b8 t_f)))] z.1 := by
  refine Ci_of (cc := cX1_faultOfPiece) (nL := 10) (own := RX1) (ret := (some .int)) (by decide) rfl rfl (Nat.le_of_ble_eq_true rfl) (fun X O hnm0 => ?_)
  rw [p_X1_faultOfPiece] at hf
  show J X 10 (JQi X [(j, .inr (1, [.ref jp, .int j_c, .int z.2])), (jp, .inl (cI, 60, .inl j_p)), (q, .inr (2, [.ref t, .int q_o, .int q_l])), (t, .inr (4, [.ref tb, .int t_l])), (tb, .inl (cB, t_n, .inl (b8 t_f)))] z.1 0 0) [(j, .inr (1, [.ref jp, .int j_c, .int j_a])), (jp, .inl (cI, 60, .inl j_p)), (q, .inr (2, [.ref t, .int q_o, .int q_l])), (t, .inr (4, [.ref tb, .int t_l])), (tb, .inl (cB, t_n, .inl (b8 t_f)))] 0 0 0 [(0, .ref j), (1, .ref q), (2, .int a2)] []
  refine J_aload_n O (i := 1) (k0 := 1) (pc := 0) 1 rfl rfl dX1_faultOfPiece_0 ?_
  refine J_iload_n O (i := 2) (k0 := 2) (pc := 1) 2 rfl rfl dX1_faultOfPiece_1 ?_
  refine J_bipush O (v := 8) (pc := 2) (by decide) dX1_faultOfPiece_2 ?_
  obtain ⟨z4, h4, hf⟩ := jt_b hf
  refine J_callVi O (pc := 4) (c_X3_holds l D cB cI cJ q t tb t_n q_o q_l t_l t_f a2 8 h4) rfl 0 rfl rfl gX1_faultOfPiece_X3_holds hdV_X3_holds ⟨(Nat.le_of_ble_eq_true rfl), (Nat.le_of_ble_eq_true rfl)⟩ rfl (st := []) rfl (Nat.le_of_ble_eq_true rfl) [2, 3, 4] [0, 1] rfl rfl rfl rfl rfl (by decide) [(j, .inr (1, [.ref jp, .int j_c, .int j_a])), (jp, .inl (cI, 60, .inl j_p)), (q, .inr (2, [.ref t, .int q_o, .int q_l])), (t, .inr (4, [.ref tb, .int t_l])), (tb, .inl (cB, t_n, .inl (b8 t_f)))] [0, 1, 2, 3, 4] rfl rfl rfl (0) (0) (Nat.le_of_ble_eq_true rfl) (Nat.le_of_ble_eq_true rfl) ⟨(Nat.le_of_ble_eq_true rfl), (Nat.le_of_ble_eq_true rfl)⟩ dX1_faultOfPiece_4 ?_
  refine J_zne O (tgt := 20) (pc := 7) dX1_faultOfPiece_7 (by decide) (fun c7 => ?_) (fun c7 => ?_)
  · have hf := jt_t c7 hf
    refine J_aload_n O (i := 1) (k0 := 1) (pc := 20) 1 rfl rfl dX1_faultOfPiece_20 ?_
    refine J_iload_n O (i := 2) (k0 := 2) (pc := 21) 2 rfl rfl dX1_faultOfPiece_21 ?_
    obtain ⟨z22, h22, hf⟩ := jt_b hf
    refine J_callVl O (pc := 22) (c_X3_u4 l D cB cI cJ q t tb t_n q_o q_l t_l t_f a2 fu h22) rfl 0 rfl rfl gX1_faultOfPiece_X3_u4 hdV_X3_u4 ⟨(Nat.le_of_ble_eq_true rfl), (Nat.le_of_ble_eq_true rfl)⟩ rfl (st := []) rfl (Nat.le_of_ble_eq_true rfl) [2, 3, 4] [0, 1] rfl rfl rfl rfl rfl (by decide) [(j, .inr (1, [.ref jp, .int j_c, .int j_a])), (jp, .inl (cI, 60, .inl j_p)), (q, .inr (2, [.ref t, .int q_o, .int q_l])), (t, .inr (4, [.ref tb, .int t_l])), (tb, .inl (cB, t_n, .inl (b8 t_f)))] [0, 1, 2, 3, 4] rfl rfl rfl (0) (0) (Nat.le_of_ble_eq_true rfl) (Nat.le_of_ble_eq_true rfl) ⟨(Nat.le_of_ble_eq_true rfl), (Nat.le_of_ble_eq_true rfl)⟩ dX1_faultOfPiece_22 ?_
    refine J_l2i O (pc := 25) dX1_faultOfPiece_25 ?_
    refine J_istore_n O (i := 3) (k0 := 3) (pc := 26) rfl [(3, .int (Int64.toInt32 z22)), (0, .ref j), (1, .ref q), (2, .int a2)] (by decide) rfl dX1_faultOfPiece_26 ?_
    refine J_iload_n O (i := 3) (k0 := 3) (pc := 27) 0 rfl rfl dX1_faultOfPiece_27 ?_
    refine J_ldc O (pc := 28) mb_X1_faultOfPiece_0 dX1_faultOfPiece_28 ?_
    refine J_icmp_ne O (tgt := 37) (pc := 30) dX1_faultOfPiece_30 (by decide) (fun c30 => ?_) (fun c30 => ?_)
    · have hf := jt_f c30 hf
      refine J_iconst O (v := 0) (pc := 37) (by decide) dX1_faultOfPiece_37 ?_
      refine J_sub [1, 2, 3, 0] (lv' := [(0, .ref j), (1, .ref q), (2, .int a2), (3, .int (Int64.toInt32 z22))]) rfl ?_
      exact wk_X1_faultOfPiece_38 O j jp q t tb t_n j_c j_p q_o q_l t_l t_f a2 fu (Int64.toInt32 z22) 0 j_a hf
    · have hf := jt_t c30 hf
      refine J_iconst O (v := 1) (pc := 33) (by decide) dX1_faultOfPiece_33 ?_
      refine J_goto O (tgt := 38) (pc := 34) dX1_faultOfPiece_34 (by decide) ?_
      refine J_sub [1, 2, 3, 0] (lv' := [(0, .ref j), (1, .ref q), (2, .int a2), (3, .int (Int64.toInt32 z22))]) rfl ?_
      exact wk_X1_faultOfPiece_38 O j jp q t tb t_n j_c j_p q_o q_l t_l t_f a2 fu (Int64.toInt32 z22) 1 j_a hf
  · have hf := jt_f c7 hf
    refine J_aload_n O (i := 0) (k0 := 0) (pc := 10) 0 rfl rfl dX1_faultOfPiece_10 ?_
    refine J_iconst O (v := 1) (pc := 11) (by decide) dX1_faultOfPiece_11 ?_
    refine J_aload_n O (i := 1) (k0 := 1) (pc := 12) 1 rfl rfl dX1_faultOfPiece_12 ?_
    refine J_get O (pc := 13) in_X1_faultOfPiece_X3 2 rfl rfl 2 (by decide) mb_X1_faultOfPiece_4 rfl dX1_faultOfPiece_13 ?_
    obtain ⟨z16, h16, hf⟩ := jt_b hf
    refine J_callVi O (pc := 16) (c_X1_fail l D cB cI cJ j jp j_c j_a j_p 1 q_l h16) rfl 0 rfl rfl gX1_faultOfPiece_X1_fail hdV_X1_fail ⟨(Nat.le_of_ble_eq_true rfl), (Nat.le_of_ble_eq_true rfl)⟩ rfl (st := []) rfl (Nat.le_of_ble_eq_true rfl) [0, 1] [2, 3, 4] rfl rfl rfl rfl rfl (by decide) [(j, .inr (1, [.ref jp, .int j_c, .int z16.2])), (jp, .inl (cI, 60, .inl j_p)), (q, .inr (2, [.ref t, .int q_o, .int q_l])), (t, .inr (4, [.ref tb, .int t_l])), (tb, .inl (cB, t_n, .inl (b8 t_f)))] [3, 4, 0, 1, 2] rfl rfl rfl (0) (0) (Nat.le_of_ble_eq_true rfl) (Nat.le_of_ble_eq_true rfl) ⟨(Nat.le_of_ble_eq_true rfl), (Nat.le_of_ble_eq_true rfl)⟩ dX1_faultOfPiece_16 ?_
    cases hf
    exact J_iret O (pc := 19) rfl dX1_faultOfPiece_19
abbrev rmX1_behindPiece : Room := { frames := 3, cells := 0, slots := 0, locals := 68 }
set_option maxHeartbeats 4000000 in
set_option maxRecDepth 100000 in
theorem c_X1_behindPiece (l : Launch) (D : va_G) (cB cI cJ : ClassId) (j jp q t tb t_n : Nat) (j_c : Int32) (j_a : Int32) (j_p : Nat → Int32) (q_o : Int32) (q_l : Int32) (t_l : Int32) (t_f : Nat → Int8) (a2 : Int32) (fu : Nat) {z : Int32} (hf : p_X1_behindPiece fu t_n q_o q_l t_f a2 = some z) : Ci (l, D, cB, cI, cJ) yX1_behindPiece wsX1_behindPiece rmX1_behindPiece [.ref j, .ref q, .int a2] [(j, .inr (1, [.ref jp, .int j_c, .int j_a])), (jp, .inl (cI, 60, .inl j_p)), (q, .inr (2, [.ref t, .int q_o, .int q_l])), (t, .inr (4, [.ref tb, .int t_l])), (tb, .inl (cB, t_n, .inl (b8 t_f)))] [(j, .inr (1, [.ref jp, .int j_c, .int j_a])), (jp, .inl (cI, 60, .inl j_p)), (q, .inr (2, [.ref t, .int q_o, .int q_l])), (t, .inr (4, [.ref tb, .int t_l])), (tb, .inl (cB, t_n, .inl (b8 t_f)))] z := by
  refine Ci_of (cc := cX1_behindPiece) (nL := 4) (own := RX1) (ret := (some .int)) (by decide) rfl rfl (Nat.le_of_ble_eq_true rfl) (fun X O hnm0 => ?_)
  rw [p_X1_behindPiece] at hf
  show J X 4 (JQi X [(j, .inr (1, [.ref jp, .int j_c, .int j_a])), (jp, .inl (cI, 60, .inl j_p)), (q, .inr (2, [.ref t, .int q_o, .int q_l])), (t, .inr (4, [.ref tb, .int t_l])), (tb, .inl (cB, t_n, .inl (b8 t_f)))] z 0 0) [(j, .inr (1, [.ref jp, .int j_c, .int j_a])), (jp, .inl (cI, 60, .inl j_p)), (q, .inr (2, [.ref t, .int q_o, .int q_l])), (t, .inr (4, [.ref tb, .int t_l])), (tb, .inl (cB, t_n, .inl (b8 t_f)))] 0 0 0 [(0, .ref j), (1, .ref q), (2, .int a2)] []
  refine J_aload_n O (i := 1) (k0 := 1) (pc := 0) 1 rfl rfl dX1_behindPiece_0 ?_
  refine J_iload_n O (i := 2) (k0 := 2) (pc := 1) 2 rfl rfl dX1_behindPiece_1 ?_
  refine J_iconst O (v := 4) (pc := 2) (by decide) dX1_behindPiece_2 ?_
  refine J_iadd O (pc := 3) dX1_behindPiece_3 ?_
  obtain ⟨z4, h4, hf⟩ := jt_b hf
  refine J_callVl O (pc := 4) (c_X3_u4 l D cB cI cJ q t tb t_n q_o q_l t_l t_f (a2 + 4) fu h4) rfl 0 rfl rfl gX1_behindPiece_X3_u4 hdV_X3_u4 ⟨(Nat.le_of_ble_eq_true rfl), (Nat.le_of_ble_eq_true rfl)⟩ rfl (st := []) rfl (Nat.le_of_ble_eq_true rfl) [2, 3, 4] [0, 1] rfl rfl rfl rfl rfl (by decide) [(j, .inr (1, [.ref jp, .int j_c, .int j_a])), (jp, .inl (cI, 60, .inl j_p)), (q, .inr (2, [.ref t, .int q_o, .int q_l])), (t, .inr (4, [.ref tb, .int t_l])), (tb, .inl (cB, t_n, .inl (b8 t_f)))] [0, 1, 2, 3, 4] rfl rfl rfl (0) (0) (Nat.le_of_ble_eq_true rfl) (Nat.le_of_ble_eq_true rfl) ⟨(Nat.le_of_ble_eq_true rfl), (Nat.le_of_ble_eq_true rfl)⟩ dX1_behindPiece_4 ?_
  refine J_l2i O (pc := 7) dX1_behindPiece_7 ?_
  refine J_istore_n O (i := 3) (k0 := 3) (pc := 8) rfl [(3, .int (Int64.toInt32 z4)), (0, .ref j), (1, .ref q), (2, .int a2)] (by decide) rfl dX1_behindPiece_8 ?_
  refine J_iload_n O (i := 2) (k0 := 2) (pc := 9) 3 rfl rfl dX1_behindPiece_9 ?_
  refine J_bipush O (v := 8) (pc := 10) (by decide) dX1_behindPiece_10 ?_
  refine J_iadd O (pc := 12) dX1_behindPiece_12 ?_
  refine J_iload_n O (i := 3) (k0 := 3) (pc := 13) 0 rfl rfl dX1_behindPiece_13 ?_
  refine J_iadd O (pc := 14) dX1_behindPiece_14 ?_
  refine J_iload_n O (i := 3) (k0 := 3) (pc := 15) 0 rfl rfl dX1_behindPiece_15 ?_
  refine J_iconst O (v := 1) (pc := 16) (by decide) dX1_behindPiece_16 ?_
  refine J_iand O (pc := 17) dX1_behindPiece_17 ?_
  refine J_iadd O (pc := 18) dX1_behindPiece_18 ?_
  cases hf
  exact J_iret O (pc := 19) rfl dX1_behindPiece_19
