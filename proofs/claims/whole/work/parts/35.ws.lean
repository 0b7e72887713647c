/-! the law from its entry -/
theorem fs_X9 : ∀ j, j < 5 → defaultValue (tyX9 j) = vp_V [.null, .null, .null, .null, .int 0] j := fun j hj => by rcases (show j = 0 ∨ j = 1 ∨ j = 2 ∨ j = 3 ∨ j = 4 by omega) with rfl | rfl | rfl | rfl | rfl <;> rfl
theorem fs_X10 : ∀ j, j < 18 → defaultValue (tyX10 j) = vp_V [.null, .int 0, .null, .int 0, .null, .null, .int 0, .null, .null, .null, .int 0, .null, .int 0, .int 0, .int 0, .null, .int 0, .int 0] j := fun j hj => by rcases (show j = 0 ∨ j = 1 ∨ j = 2 ∨ j = 3 ∨ j = 4 ∨ j = 5 ∨ j = 6 ∨ j = 7 ∨ j = 8 ∨ j = 9 ∨ j = 10 ∨ j = 11 ∨ j = 12 ∨ j = 13 ∨ j = 14 ∨ j = 15 ∨ j = 16 ∨ j = 17 by omega) with rfl | rfl | rfl | rfl | rfl | rfl | rfl | rfl | rfl | rfl | rfl | rfl | rfl | rfl | rfl | rfl | rfl | rfl <;> rfl
theorem hdS_X9_init : yX9_init.cls ≠ "java/lang/invoke/MethodHandle" ∧ yX9_init.cls ≠ "java/lang/invoke/VarHandle" ∧ (parseMethodDescriptor yX9_init.desc).map (fun d => d.parameters.length) = some 0 := by decide +kernel
theorem hdS_X10_init : yX10_init.cls ≠ "java/lang/invoke/MethodHandle" ∧ yX10_init.cls ≠ "java/lang/invoke/VarHandle" ∧ (parseMethodDescriptor yX10_init.desc).map (fun d => d.parameters.length) = some 0 := by decide +kernel
theorem law_walk {X : JC} {l : Launch} {D : va_G} {cB cI cJ : ClassId} {b LL : Nat} {xs : Nat → Int32} (O : Jo X (l, D, cB, cI, cJ) code 4 RL lw_tbl room_1 ret) (B : Lo X b LL xs) (hL : LL ≤ 3072) : J X 4 (LQ X) [] 0 0 0 [(0, .ref b)] [] := by
  refine J_new O (pc := 0) inT_i9 tyX9 tyX9_ok tl_cl9 tl_it9 tl_ni9 rfl [.null, .null, .null, .null, .int 0] fs_X9 (Nat.le_of_ble_eq_true rfl) (Nat.le_of_ble_eq_true rfl) (fun x => [(x, .inr (5, [.null, .null, .null, .null, .int 0]))]) (fun _ => rfl) 1 5 rfl rfl dL_law_0 (fun x => ?_)
  refine J_dup O (pc := 3) rfl dL_law_3 ?_
  refine J_callIe O (pc := 4) (c_X9_init l D cB cI cJ x) rfl gwX9_init tl_ni9 tl_ml9 tl_im9 rfl hdS_X9_init ⟨(Nat.le_of_ble_eq_true rfl), (Nat.le_of_ble_eq_true rfl)⟩ rfl (st := [.ref x]) rfl (Nat.le_of_ble_eq_true rfl) [0] [] rfl rfl rfl rfl rfl (by decide) 15 31367 (Nat.le_of_ble_eq_true rfl) (Nat.le_of_ble_eq_true rfl) ⟨(Nat.le_of_ble_eq_true rfl), (Nat.le_of_ble_eq_true rfl)⟩ dL_law_4 (fun w9 h9 => ?_)
  obtain ⟨t, tb, o, ob, h, d, db, hk, hs, hu, hn, hg, j, jp, rfl⟩ := h9
  show J X 4 _ [(x, .inr (5, [.ref t, .ref o, .ref h, .ref j, .int (-2)])), (t, .inr (4, [.ref tb, .int 0])), (tb, .inl (cB, 6000, .inl (b8 (fun _ => 0)))), (o, .inr (4, [.ref ob, .int 0])), (ob, .inl (cB, 13044, .inl (b8 (fun _ => 0)))), (h, .inr (0, [.ref d, .ref hk, .ref hs, .int 0, .ref hu, .ref hn, .ref hg, .int 0])), (d, .inr (4, [.ref db, .int 0])), (db, .inl (cB, 12000, .inl (b8 (fun _ => 0)))), (hk, .inl (cI, 60, .inl (fun _ => 0))), (hs, .inl (cI, 61, .inl (fun _ => 0))), (hu, .inl (cI, 40, .inl (fun _ => 0))), (hn, .inl (cJ, 40, .inr (.inl (fun _ => 0)))), (hg, .inl (cI, 40, .inl (fun _ => 0))), (j, .inr (1, [.ref jp, .int 0, .int (-2)])), (jp, .inl (cI, 60, .inl (fun _ => 0)))] 15 31367 (4 + 3) [(0, .ref b)] [.ref x]
  refine J_astore_n O (i := 1) (k0 := 1) (pc := 7) rfl [(1, .ref x), (0, .ref b)] (by decide) rfl dL_law_7 ?_
  refine J_new O (pc := 8) inT_i10 tyX10 tyX10_ok tl_cl10 tl_it10 tl_ni10 rfl [.null, .int 0, .null, .int 0, .null, .null, .int 0, .null, .null, .null, .int 0, .null, .int 0, .int 0, .int 0, .null, .int 0, .int 0] fs_X10 (Nat.le_of_ble_eq_true rfl) (Nat.le_of_ble_eq_true rfl) (fun m => [(x, .inr (5, [.ref t, .ref o, .ref h, .ref j, .int (-2)])), (t, .inr (4, [.ref tb, .int 0])), (tb, .inl (cB, 6000, .inl (b8 (fun _ => 0)))), (o, .inr (4, [.ref ob, .int 0])), (ob, .inl (cB, 13044, .inl (b8 (fun _ => 0)))), (h, .inr (0, [.ref d, .ref hk, .ref hs, .int 0, .ref hu, .ref hn, .ref hg, .int 0])), (d, .inr (4, [.ref db, .int 0])), (db, .inl (cB, 12000, .inl (b8 (fun _ => 0)))), (hk, .inl (cI, 60, .inl (fun _ => 0))), (hs, .inl (cI, 61, .inl (fun _ => 0))), (hu, .inl (cI, 40, .inl (fun _ => 0))), (hn, .inl (cJ, 40, .inr (.inl (fun _ => 0)))), (hg, .inl (cI, 40, .inl (fun _ => 0))), (j, .inr (1, [.ref jp, .int 0, .int (-2)])), (jp, .inl (cI, 60, .inl (fun _ => 0))), (m, .inr (6, [.null, .int 0, .null, .int 0, .null, .null, .int 0, .null, .null, .null, .int 0, .null, .int 0, .int 0, .int 0, .null, .int 0, .int 0]))]) (fun _ => rfl) 16 31385 rfl rfl dL_law_8 (fun m => ?_)
  refine J_dup O (pc := 11) rfl dL_law_11 ?_
  refine J_callIe O (pc := 12) (c_X10_init l D cB cI cJ m) rfl gwX10_init tl_ni10 tl_ml12 tl_im10 rfl hdS_X10_init ⟨(Nat.le_of_ble_eq_true rfl), (Nat.le_of_ble_eq_true rfl)⟩ rfl (st := [.ref m]) rfl (Nat.le_of_ble_eq_true rfl) [15] [0, 1, 2, 3, 4, 5, 6, 7, 8, 9, 10, 11, 12, 13, 14] rfl rfl rfl rfl rfl (by decide) 25 63691 (Nat.le_of_ble_eq_true rfl) (Nat.le_of_ble_eq_true rfl) ⟨(Nat.le_of_ble_eq_true rfl), (Nat.le_of_ble_eq_true rfl)⟩ dL_law_12 (fun w9 h9 => ?_)
  obtain ⟨mt, md, mk, ms, mu, mn, mm, mo, mw, rfl⟩ := h9
  show J X 4 _ [(x, .inr (5, [.ref t, .ref o, .ref h, .ref j, .int (-2)])), (t, .inr (4, [.ref tb, .int 0])), (tb, .inl (cB, 6000, .inl (b8 (fun _ => 0)))), (o, .inr (4, [.ref ob, .int 0])), (ob, .inl (cB, 13044, .inl (b8 (fun _ => 0)))), (h, .inr (0, [.ref d, .ref hk, .ref hs, .int 0, .ref hu, .ref hn, .ref hg, .int 0])), (d, .inr (4, [.ref db, .int 0])), (db, .inl (cB, 12000, .inl (b8 (fun _ => 0)))), (hk, .inl (cI, 60, .inl (fun _ => 0))), (hs, .inl (cI, 61, .inl (fun _ => 0))), (hu, .inl (cI, 40, .inl (fun _ => 0))), (hn, .inl (cJ, 40, .inr (.inl (fun _ => 0)))), (hg, .inl (cI, 40, .inl (fun _ => 0))), (j, .inr (1, [.ref jp, .int 0, .int (-2)])), (jp, .inl (cI, 60, .inl (fun _ => 0))), (m, .inr (6, [.ref mt, .int 0, .ref md, .int 0, .ref mk, .ref ms, .int 0, .ref mu, .ref mn, .ref mm, .int 0, .ref mo, .int 0, .int (-2), .int 0, .ref mw, .int 0, .int 0])), (mt, .inl (cI, 6000, .inl (fun _ => 0))), (md, .inl (cI, 12000, .inl (fun _ => 0))), (mk, .inl (cI, 61, .inl (fun _ => 0))), (ms, .inl (cI, 61, .inl (fun _ => 0))), (mu, .inl (cI, 41, .inl (fun _ => 0))), (mn, .inl (cJ, 41, .inr (.inl (fun _ => 0)))), (mm, .inl (cI, 41, .inl (fun _ => 0))), (mo, .inl (cI, 14000, .inl (fun _ => 0))), (mw, .inl (cI, 61, .inl (fun _ => 0)))] 25 63691 (12 + 3) [(1, .ref x), (0, .ref b)] [.ref m]
  refine J_astore_n O (i := 2) (k0 := 2) (pc := 15) rfl [(2, .ref m), (1, .ref x), (0, .ref b)] (by decide) rfl dL_law_15 ?_
  refine J_iconst O (v := nI 0) (pc := 16) (by decide) dL_law_16 ?_
  refine J_istore_n O (i := 3) (k0 := 3) (pc := 17) rfl [(3, .int (nI 0)), (2, .ref m), (1, .ref x), (0, .ref b)] (by decide) rfl dL_law_17 ?_
  have r0 : mr (fun _ => 0) (fun _ => 0) 0 := fun j hj => absurd hj (Nat.not_lt_zero j)
  have rT : RT 0 (fun _ => 0) 0 (fun _ => 0) := ⟨0, Nat.zero_le _, rfl, rfl, r0⟩
  have rO : RO 0 (fun _ => 0) 0 (fun _ => 0) := ⟨0, Nat.zero_le _, rfl, rfl, r0⟩
  have rH : RH 0 0 0 (fun _ => 0) (fun _ => 0) (fun _ => 0) (fun _ => 0) (fun _ => 0) (fun _ => 0) 0 (fun _ => 0) (fun _ => 0) (fun _ => 0) 0 (fun _ => 0) (fun _ => 0) (fun _ => 0) 0 := ⟨0, 0, (fun _ => 0), (fun _ => 0), ⟨Nat.zero_le _, rfl, fun k hk => absurd hk (Nat.not_lt_zero k), Nat.zero_le _⟩, ⟨Nat.zero_le _, fun k hk => absurd hk (Nat.not_lt_zero k), fun k q hk => absurd hk (Nat.not_lt_zero k)⟩, ⟨rfl, rfl, rfl, rfl, rfl, rfl⟩, r0, fun k hk => absurd hk (Nat.not_lt_zero k), fun k hk => rfl, fun k hk => absurd hk (Nat.not_lt_zero k), fun k hk => absurd hk (Nat.not_lt_zero k)⟩
  exact lp_loop O B (fu := 20000) (Nat.le_refl _) hL 513 0 25 63691 (by omega) (by omega) (by omega) (by omega) (-2) 0 (fun _ => 0) 0 (fun _ => 0) 0 0 0 (fun _ => 0) (fun _ => 0) (fun _ => 0) (fun _ => 0) (fun _ => 0) (fun _ => 0) 0 (-2) (fun _ => 0) 0 0 0 0 0 (-2) 0 0 0 (fun _ => 0) (fun _ => 0) (fun _ => 0) (fun _ => 0) (fun _ => 0) (fun _ => 0) (fun _ => 0) (fun _ => 0) (fun _ => 0) rT rO rH rfl
theorem arr_K {args : Array Value} {s : State} {ty : FieldType} (h1 : (Cond.arrayClass ty).before args s = true) : ∃ cA, ArrOfT s cA ty ∧ s.vm.findClass ("[" ++ ty.toString) = some cA := by
  obtain ⟨cA, kA, comp, q1, q2, q3⟩ := Cond.arrayClass_spec h1
  exact ⟨cA, fun n z => ⟨fun k h => (by cases h), kA, q2, comp, q3⟩, q1⟩
/-- YOUR PART: from the entry, for every script of at most 3072 ints, the law comes to its end with true -/
theorem whole_start {p : Program} {e : Env} {s : State} {m : MethodId} {below : List Frame} {meth : Method} {c : Code} (l : Launch) {b L : Nat} {xs : Nat → Int32} (hL : L ≤ 3072) (C0 : lw_At p s m meth c b L xs) : W p l e room_1 s m #[Value.ref b] below meth c s.heap [] 0 0 (lw_Z below #[Value.ref b] s) (entryFrame m ([Value.ref b] : List Value).toArray 4) := by
  obtain ⟨hx, hb, hr, hml, hown, hts, hX, hbl, hlocks, hgv⟩ := C0
  obtain ⟨c0, iS0, hKn0⟩ := u_known (C := RX0) (T := TX0) (N := 8) (n := 8) hts inT_i0 (hts _ tl_it0)
  obtain ⟨c1, iS1, hKn1⟩ := u_known (C := RX1) (T := TX1) (N := 3) (n := 3) hts inT_i1 (hts _ tl_it1)
  obtain ⟨c2, iS2, hKn2⟩ := u_known (C := RX3) (T := TX3) (N := 3) (n := 3) hts inT_i3 (hts _ tl_it3)
  obtain ⟨c3, iS3, hKn3⟩ := u_known (C := RX5) (T := TX5) (N := 2) (n := 2) hts inT_i5 (hts _ tl_it5)
  obtain ⟨c4, iS4, hKn4⟩ := u_known (C := RX6) (T := TX6) (N := 2) (n := 2) hts inT_i6 (hts _ tl_it6)
  obtain ⟨c5, iS5, hKn5⟩ := u_known (C := RX9) (T := TX9) (N := 5) (n := 5) hts inT_i9 (hts _ tl_it9)
  obtain ⟨c6, iS6, hKn6⟩ := u_known (C := RX10) (T := TX10) (N := 18) (n := 18) hts inT_i10 (hts _ tl_it10)
  obtain ⟨dC, dI, hKc⟩ : ∃ (dC : Nat → ClassId) (dI : Nat → Nat → Nat), ∀ (k : Nat) (q : vw_C), vwCl[k]? = some q → u_Kn s q.1 q.2.1 q.2.2 (dC k) (dI k) := by
    refine ⟨fun k => if k = 0 then c0 else if k = 1 then c1 else if k = 2 then c2 else if k = 3 then c3 else if k = 4 then c4 else if k = 5 then c5 else c6, fun k => if k = 0 then iS0 else if k = 1 then iS1 else if k = 2 then iS2 else if k = 3 then iS3 else if k = 4 then iS4 else if k = 5 then iS5 else iS6, ?_⟩
    intro k q hq
    match k, hq with
    | 0, hq => cases hq; exact hKn0
    | 1, hq => cases hq; exact hKn1
    | 2, hq => cases hq; exact hKn2
    | 3, hq => cases hq; exact hKn3
    | 4, hq => cases hq; exact hKn4
    | 5, hq => cases hq; exact hKn5
    | 6, hq => cases hq; exact hKn6
    | k + 7, hq => simp [vwCl] at hq
  obtain ⟨cB, aB1, aB2⟩ := arr_K (hts _ tl_aB)
  obtain ⟨cI, aI1, aI2⟩ := arr_K (hts _ tl_aI)
  obtain ⟨cJ, aJ1, aJ2⟩ := arr_K (hts _ tl_aJ)
  have hK : va_K (dC, dI) vwCl (Kt cB cI cJ) s := by
    refine ⟨hKc, ?_⟩
    intro k q hq
    match k, hq with
    | 0, hq => cases hq; exact ⟨aB1, aB2⟩
    | 1, hq => cases hq; exact ⟨aI1, aI2⟩
    | 2, hq => cases hq; exact ⟨aJ1, aJ2⟩
    | k + 3, hq => simp [Kt] at hq
  have key := law_walk (X := (p, l, e, room_1, s, m, #[Value.ref b], below, meth, c, (dC, dI), (fun q : Nat => s.heap.size ≤ q), cB, cI, cJ)) (l := l) (D := (dC, dI)) (cB := cB) (cI := cI) (cJ := cJ) (b := b) (LL := L) (xs := xs) ⟨hx, hb, hml, hown, hts, fun _ h => h, hK, hlocks, hr, rfl, rfl⟩ ⟨rfl, hX, hbl, Nat.not_le.mpr hbl, fun _ h => h⟩ hL
  have hl := lv_entry ([.ref b]) (n := 4) (Nat.le_of_ble_eq_true rfl)
  rw [lg_entry_eq]
  exact key s.heap [] _ (fun k q h => by simp at h) ⟨fun i j p q h => by simp at h, fun k q h => by simp at h⟩ va_S.rf hl
