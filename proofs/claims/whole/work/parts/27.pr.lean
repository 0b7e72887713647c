/-! read: the entries of the index, and the whole judgement -/
def eu (F : Nat → Nat) (k : Nat) : Nat := rv F (24 + 12 * k) 4
def en (F : Nat → Nat) (k : Nat) : Nat := rv F (28 + 12 * k) 4
def ep (F : Nat → Nat) (k : Nat) : Nat := rv F (32 + 12 * k) 4
def dup (F : Nat → Nat) (k j : Nat) : Prop := eu F j = eu F k ∧ en F j = en F k
def EO (F : Nat → Nat) (m k : Nat) : Prop := isU (nI (eu F k)) ∧ (∀ j, j < k → ¬ dup F k j) ∧ ∃ q, q < m ∧ pp F (q + 1) = ep F k
theorem e_4 (k : Nat) : (24 : Int32) + (12 * nI k) + 4 = nI (28 + 12 * k) := by
  rw [q_place0]
  have e1 : nI (24 + 12 * k) + 4 = nI (24 + 12 * k + 4) := nI_add _ 4
  rw [e1]
  congr 1
  omega
theorem e_8 (k : Nat) : (24 : Int32) + (12 * nI k) + 8 = nI (32 + 12 * k) := by
  rw [q_place0]
  have e1 : nI (24 + 12 * k) + 8 = nI (24 + 12 * k + 8) := nI_add _ 8
  rw [e1]
  congr 1
  omega
theorem e_28 (k : Nat) : (28 : Int32) + (12 * nI k) = nI (28 + 12 * k) := by
  have e1 : (12 : Int32) * nI k = nI (12 * k) := pk_mul 12 k
  rw [e1]
  exact nI_add 28 _
section RE
variable {fu n m : Nat} {t_f : Nat → Int8} {m_t P W : Nat → Int32}
theorem q_pieceAt {x : Nat} (hfu : 20000 ≤ fu) (hn : n ≤ 6000) (hm60 : m ≤ 60) (hpp : pp (oF t_f) (m + 1) ≤ n) (hP : ∀ i, i < m → P i = nI (pp (oF t_f) (i + 1))) (hx : x < 4294967296) : ∃ r, p_X1_pieceAt fu (nI m) P (lN x) = some r ∧ FI m (fun i => pp (oF t_f) (i + 1) = x) r := by
  have h2 : ∀ (fn j : Nat), j ≤ m → m < fn + j → (∀ i, i < j → ¬ pp (oF t_f) (i + 1) = x) → ∃ r, p_X1_pieceAt_2 fu (nI m) P (lN x) fn (nI j) = some r ∧ FI m (fun i => pp (oF t_f) (i + 1) = x) r := by
    intro fn
    induction fn with
    | zero => intro j h7 h8; omega
    | succ fn ih =>
      intro j h7 h8 h9
      rw [p_X1_pieceAt_2]
      by_cases h10 : j = m
      · subst h10
        rw [if_pos (nI_le (Nat.le_refl _) (by omega))]
        exact ⟨_, rfl, Or.inr ⟨rfl, h9⟩⟩
      · have h12 := pp_mono (oF t_f) (show j + 1 ≤ m + 1 by omega)
        rw [if_neg (nI_ge (by omega) (by omega)), if_pos (ix_t j rfl (by omega) (by decide)), cl_nI j rfl (by omega), nI_1, hP j (by omega), nI_l (by omega)]
        by_cases h11 : pp (oF t_f) (j + 1) = x
        · rw [if_pos (by rw [h11])]
          exact ⟨_, rfl, Or.inl ⟨j, by omega, rfl, h11, h9⟩⟩
        · rw [if_neg (fun h => h11 ((pk_lEQ (by omega) (by omega)).mp h))]
          exact ih (j + 1) (by omega) (by omega) (lt_s h9 h11)
  unfold p_X1_pieceAt
  exact h2 fu 0 (by omega) (by omega) (fun i h3 => absurd h3 (Nat.not_lt_zero i))
theorem m113_1 (a1 a2 fa f : Int32) : ∀ (d fn i : Nat), i + d = m → d < fn → m ≤ 60 → p_X10_entryOf_113 fu (nI m) m_t W a1 a2 fn 1 (nI i) fa f = some (fa, f) := by
  intro d
  induction d with
  | zero =>
    intro fn i h1 h2 h3
    obtain ⟨fn, rfl⟩ : ∃ x, fn = x + 1 := ⟨fn - 1, by omega⟩
    rw [p_X10_entryOf_113, if_pos (nI_le (by omega) (by omega)), if_neg (by decide)]
  | succ d ih =>
    intro fn i h1 h2 h3
    obtain ⟨fn, rfl⟩ : ∃ x, fn = x + 1 := ⟨fn - 1, by omega⟩
    rw [p_X10_entryOf_113, if_neg (nI_ge (by omega) (by omega)), if_neg (by decide), nI_1]
    exact ih fn (i + 1) (by omega) (by omega) h3
theorem m113_0 {k : Nat} (a1 fa f : Int32) (hn : n ≤ 6000) (hm : mr m_t t_f n) (hm60 : m ≤ 60) (hpp : pp (oF t_f) (m + 1) ≤ n) (hW : ∀ i, i < m → W i = nI (pp (oF t_f) (i + 1))) (hk : 24 + 12 * k + 12 ≤ n) : ∀ (d fn i : Nat), i + d = m → d < fn → ((∃ q, i ≤ q ∧ q < m ∧ pp (oF t_f) (q + 1) = ep (oF t_f) k) ∧ p_X10_entryOf_113 fu (nI m) m_t W a1 (24 + (12 * nI k)) fn 0 (nI i) fa f = some (fa, f)) ∨ ((∀ q, i ≤ q → q < m → ¬ pp (oF t_f) (q + 1) = ep (oF t_f) k) ∧ p_X10_entryOf_113 fu (nI m) m_t W a1 (24 + (12 * nI k)) fn 0 (nI i) fa f = (p_X10_stop fa f 8 ((24 + (12 * nI k)) + 8)).bind (fun z175 => some (z175.1, z175.2))) := by
  have hep : ep (oF t_f) k < 4294967296 := rv4_lt (oF_lt t_f) _
  intro d
  induction d with
  | zero =>
    intro fn i h1 h2
    obtain ⟨fn, rfl⟩ : ∃ x, fn = x + 1 := ⟨fn - 1, by omega⟩
    rw [p_X10_entryOf_113, if_pos (nI_le (by omega) (by omega)), if_pos rfl]
    exact Or.inr ⟨fun q h3 h4 => by omega, rfl⟩
  | succ d ih =>
    intro fn i h1 h2
    obtain ⟨fn, rfl⟩ : ∃ x, fn = x + 1 := ⟨fn - 1, by omega⟩
    have h12 := pp_mono (oF t_f) (show i + 1 ≤ m + 1 by omega)
    rw [p_X10_entryOf_113, if_neg (nI_ge (by omega) (by omega)), if_pos rfl, r_four (x := (24 + (12 * nI k)) + 8) (i := 32 + 12 * k) hn hm (e_8 k) (by omega), ob_s, if_pos (ix_t i rfl (by omega) (by decide)), cl_nI i rfl (by omega), hW i (by omega), nI_l (n := pp (oF t_f) (i + 1)) (by omega), nI_1]
    have hep' : rv (oF t_f) (32 + 12 * k) 4 = ep (oF t_f) k := rfl
    rw [hep']
    by_cases c1 : ep (oF t_f) k = pp (oF t_f) (i + 1)
    · rw [if_pos (by rw [c1]), m113_1 _ _ _ _ d fn (i + 1) (by omega) (by omega) hm60]
      exact Or.inl ⟨⟨i, Nat.le_refl i, by omega, c1.symm⟩, rfl⟩
    · rw [if_neg (fun h => c1 ((pk_lEQ (by omega) (by omega)).mp h))]
      rcases ih fn (i + 1) (by omega) (by omega) with ⟨⟨q, r1, r2, r3⟩, r4⟩ | ⟨r1, r2⟩
      · exact Or.inl ⟨⟨q, by omega, r2, r3⟩, r4⟩
      · refine Or.inr ⟨fun q h3 h4 h5 => ?_, r2⟩
        by_cases c2 : q = i
        · exact c1 (by rw [← h5, c2])
        · exact r1 q (by omega) h4 h5
theorem m113 {k : Nat} (a1 fa f : Int32) (hfu : 20000 ≤ fu) (hn : n ≤ 6000) (hm : mr m_t t_f n) (hm60 : m ≤ 60) (hpp : pp (oF t_f) (m + 1) ≤ n) (hW : ∀ i, i < m → W i = nI (pp (oF t_f) (i + 1))) (hk : 24 + 12 * k + 12 ≤ n) : ((∃ q, q < m ∧ pp (oF t_f) (q + 1) = ep (oF t_f) k) ∧ p_X10_entryOf_113 fu (nI m) m_t W a1 (24 + (12 * nI k)) fu 0 0 fa f = some (fa, f)) ∨ ((∀ q, q < m → ¬ pp (oF t_f) (q + 1) = ep (oF t_f) k) ∧ p_X10_entryOf_113 fu (nI m) m_t W a1 (24 + (12 * nI k)) fu 0 0 fa f = (p_X10_stop fa f 8 ((24 + (12 * nI k)) + 8)).bind (fun z175 => some (z175.1, z175.2))) := by
  rcases m113_0 (fu := fu) (k := k) a1 fa f hn hm hm60 hpp hW hk m fu 0 (by omega) (by omega) with ⟨⟨q, r1, r2, r3⟩, r4⟩ | ⟨r1, r2⟩
  · exact Or.inl ⟨⟨q, r2, r3⟩, r4⟩
  · exact Or.inr ⟨fun q h3 h4 => r1 q (Nat.zero_le q) h3 h4, r2⟩
theorem m40_f {k : Nat} {f : Int32} (v3 fa : Int32) (hfu : 20000 ≤ fu) (hn : n ≤ 6000) (hm : mr m_t t_f n) (hm60 : m ≤ 60) (hpp : pp (oF t_f) (m + 1) ≤ n) (hW : ∀ i, i < m → W i = nI (pp (oF t_f) (i + 1))) (hk : 24 + 12 * k + 12 ≤ n) (hf : ¬ f = 0) : ∀ (d fn i : Nat), i + d = k → d < fn → p_X10_entryOf_40 fu (nI m) m_t W (nI k) (24 + (12 * nI k)) fn v3 (nI i) fa f = some (fa, f) := by
  intro d
  induction d with
  | zero =>
    intro fn i h1 h2
    obtain ⟨fn, rfl⟩ : ∃ x, fn = x + 1 := ⟨fn - 1, by omega⟩
    rw [p_X10_entryOf_40, if_pos (nI_le (by omega) (by omega))]
    rcases m113 (fu := fu) (k := k) (nI k) fa f hfu hn hm hm60 hpp hW hk with ⟨r1, r2⟩ | ⟨r1, r2⟩
    · exact r2
    · rw [r2, stop_n _ _ hf]
      rfl
  | succ d ih =>
    intro fn i h1 h2
    obtain ⟨fn, rfl⟩ : ∃ x, fn = x + 1 := ⟨fn - 1, by omega⟩
    have hi := ih fn (i + 1) (by omega) (by omega)
    rw [p_X10_entryOf_40, if_neg (nI_ge (by omega) (by omega)), r_kind (x := 24 + (12 * nI i)) (i := 24 + 12 * i) hn hm (q_place0 i) (by omega), ob_s, r_four (x := 28 + (12 * nI i)) (i := 28 + 12 * i) hn hm (e_28 i) (by omega), ob_s, r_four (x := (24 + (12 * nI k)) + 4) (i := 28 + 12 * k) hn hm (e_4 k) (by omega), ob_s, nI_1, stop_n _ _ hf, ob_s]
    split
    · split
      · exact hi
      · exact hi
    · exact hi
theorem m40_0 {k : Nat} (fa : Int32) (hfu : 20000 ≤ fu) (hn : n ≤ 6000) (hm : mr m_t t_f n) (hm60 : m ≤ 60) (hpp : pp (oF t_f) (m + 1) ≤ n) (hW : ∀ i, i < m → W i = nI (pp (oF t_f) (i + 1))) (hk : 24 + 12 * k + 12 ≤ n) : ∀ (d fn i : Nat), i + d = k → d < fn → ((∃ j, i ≤ j ∧ j < k ∧ dup (oF t_f) k j) ∧ p_X10_entryOf_40 fu (nI m) m_t W (nI k) (24 + (12 * nI k)) fn (nI (eu (oF t_f) k)) (nI i) fa 0 = some (24 + (12 * nI k), 9)) ∨ ((∀ j, i ≤ j → j < k → ¬ dup (oF t_f) k j) ∧ p_X10_entryOf_40 fu (nI m) m_t W (nI k) (24 + (12 * nI k)) fn (nI (eu (oF t_f) k)) (nI i) fa 0 = p_X10_entryOf_113 fu (nI m) m_t W (nI k) (24 + (12 * nI k)) fu 0 0 fa 0) := by
  have g1 : ∀ i, eu (oF t_f) i < 4294967296 := fun i => rv4_lt (oF_lt t_f) _
  have g2 : ∀ i, en (oF t_f) i < 4294967296 := fun i => rv4_lt (oF_lt t_f) _
  intro d
  induction d with
  | zero =>
    intro fn i h1 h2
    obtain ⟨fn, rfl⟩ : ∃ x, fn = x + 1 := ⟨fn - 1, by omega⟩
    rw [p_X10_entryOf_40, if_pos (nI_le (by omega) (by omega))]
    exact Or.inr ⟨fun j h3 h4 => by omega, rfl⟩
  | succ d ih =>
    intro fn i h1 h2
    obtain ⟨fn, rfl⟩ : ∃ x, fn = x + 1 := ⟨fn - 1, by omega⟩
    have hi := ih fn (i + 1) (by omega) (by omega)
    have hgo : ¬ dup (oF t_f) k i → ((∃ j, i ≤ j ∧ j < k ∧ dup (oF t_f) k j) ∧ p_X10_entryOf_40 fu (nI m) m_t W (nI k) (24 + (12 * nI k)) fn (nI (eu (oF t_f) k)) (nI (i + 1)) fa 0 = some (24 + (12 * nI k), 9)) ∨ ((∀ j, i ≤ j → j < k → ¬ dup (oF t_f) k j) ∧ p_X10_entryOf_40 fu (nI m) m_t W (nI k) (24 + (12 * nI k)) fn (nI (eu (oF t_f) k)) (nI (i + 1)) fa 0 = p_X10_entryOf_113 fu (nI m) m_t W (nI k) (24 + (12 * nI k)) fu 0 0 fa 0) := by
      intro hd
      rcases hi with ⟨⟨q, r1, r2, r3⟩, r4⟩ | ⟨r1, r2⟩
      · exact Or.inl ⟨⟨q, by omega, r2, r3⟩, r4⟩
      · refine Or.inr ⟨fun j h3 h4 h5 => ?_, r2⟩
        by_cases c2 : j = i
        · subst c2
          exact hd h5
        · exact r1 j (by omega) h4 h5
    have hu : rv (oF t_f) (24 + 12 * i) 4 = eu (oF t_f) i := rfl
    have hv : rv (oF t_f) (28 + 12 * i) 4 = en (oF t_f) i := rfl
    have hw : rv (oF t_f) (28 + 12 * k) 4 = en (oF t_f) k := rfl
    rw [p_X10_entryOf_40, if_neg (nI_ge (by omega) (by omega)), r_kind (x := 24 + (12 * nI i)) (i := 24 + 12 * i) hn hm (q_place0 i) (by omega), ob_s, r_four (x := 28 + (12 * nI i)) (i := 28 + 12 * i) hn hm (e_28 i) (by omega), ob_s, r_four (x := (24 + (12 * nI k)) + 4) (i := 28 + 12 * k) hn hm (e_4 k) (by omega), ob_s, nI_1, stop_0, ob_s, hu, hv, hw]
    have s1 := i_iff (K := nI (eu (oF t_f) k)) (k := eu (oF t_f) k) (r := eu (oF t_f) i) rfl (g1 i) (g1 k)
    have s2 := l_iff (K := lN (en (oF t_f) k)) (k := en (oF t_f) k) (r := en (oF t_f) i) rfl (g2 i) (g2 k)
    by_cases c1 : eu (oF t_f) i = eu (oF t_f) k
    · rw [if_pos (s1.mpr c1)]
      by_cases c2 : en (oF t_f) i = en (oF t_f) k
      · rw [if_pos (s2.mpr c2)]
        refine Or.inl ⟨⟨i, Nat.le_refl i, by omega, c1, c2⟩, ?_⟩
        exact m40_f _ _ hfu hn hm hm60 hpp hW hk (show ¬ (9 : Int32) = 0 by decide) d fn (i + 1) (by omega) (by omega)
      · rw [if_neg (fun h => c2 (s2.mp h))]
        exact hgo (fun h => c2 h.2)
    · rw [if_neg (fun h => c1 (s1.mp h))]
      exact hgo (fun h => c1 h.1)
theorem c45 {k : Nat} (j_a : Int32) (hfu : 20000 ≤ fu) (hn : n ≤ 6000) (hk : 24 + 12 * k + 12 ≤ n) : ∀ (d fn i : Nat), i + d = k → d < fn → ((∃ j, i ≤ j ∧ j < k ∧ dup (oF t_f) k j) ∧ p_X1_faultOfEntry_45 fu 6000 (nI m) P (nI 0) (nI n) t_f (nI k) fn (24 + (12 * nI k)) (nI i) j_a = some (9, 24 + (12 * nI k))) ∨ ((∀ j, i ≤ j → j < k → ¬ dup (oF t_f) k j) ∧ p_X1_faultOfEntry_45 fu 6000 (nI m) P (nI 0) (nI n) t_f (nI k) fn (24 + (12 * nI k)) (nI i) j_a = (p_X1_pieceAt fu (nI m) P (lN (ep (oF t_f) k))).bind (fun z118 => if 0 ≤ z118 then (some (0, j_a)) else ((p_X1_fail j_a 8 ((24 + (12 * nI k)) + 8)).bind (fun z131 => some (z131.1, z131.2))))) := by
  have g1 : ∀ i, eu (oF t_f) i < 4294967296 := fun i => rv4_lt (oF_lt t_f) _
  have g2 : ∀ i, en (oF t_f) i < 4294967296 := fun i => rv4_lt (oF_lt t_f) _
  intro d
  induction d with
  | zero =>
    intro fn i h1 h2
    obtain ⟨fn, rfl⟩ : ∃ x, fn = x + 1 := ⟨fn - 1, by omega⟩
    rw [p_X1_faultOfEntry_45, if_pos (nI_le (by omega) (by omega)), r_u4 (x := (24 + (12 * nI k)) + 8) (i := 32 + 12 * k) hfu hn (e_8 k) (by omega), ob_s]
    exact Or.inr ⟨fun j h3 h4 => by omega, rfl⟩
  | succ d ih =>
    intro fn i h1 h2
    obtain ⟨fn, rfl⟩ : ∃ x, fn = x + 1 := ⟨fn - 1, by omega⟩
    have hi := ih fn (i + 1) (by omega) (by omega)
    have hgo : ¬ dup (oF t_f) k i → ((∃ j, i ≤ j ∧ j < k ∧ dup (oF t_f) k j) ∧ p_X1_faultOfEntry_45 fu 6000 (nI m) P (nI 0) (nI n) t_f (nI k) fn (24 + (12 * nI k)) (nI (i + 1)) j_a = some (9, 24 + (12 * nI k))) ∨ ((∀ j, i ≤ j → j < k → ¬ dup (oF t_f) k j) ∧ p_X1_faultOfEntry_45 fu 6000 (nI m) P (nI 0) (nI n) t_f (nI k) fn (24 + (12 * nI k)) (nI (i + 1)) j_a = (p_X1_pieceAt fu (nI m) P (lN (ep (oF t_f) k))).bind (fun z118 => if 0 ≤ z118 then (some (0, j_a)) else ((p_X1_fail j_a 8 ((24 + (12 * nI k)) + 8)).bind (fun z131 => some (z131.1, z131.2))))) := by
      intro hd
      rcases hi with ⟨⟨q, r1, r2, r3⟩, r4⟩ | ⟨r1, r2⟩
      · exact Or.inl ⟨⟨q, by omega, r2, r3⟩, r4⟩
      · refine Or.inr ⟨fun j h3 h4 h5 => ?_, r2⟩
        by_cases c2 : j = i
        · subst c2
          exact hd h5
        · exact r1 j (by omega) h4 h5
    have hu : rv (oF t_f) (24 + 12 * i) 4 = eu (oF t_f) i := rfl
    have hx : rv (oF t_f) (24 + 12 * k) 4 = eu (oF t_f) k := rfl
    have hv : rv (oF t_f) (28 + 12 * i) 4 = en (oF t_f) i := rfl
    have hw : rv (oF t_f) (28 + 12 * k) 4 = en (oF t_f) k := rfl
    rw [p_X1_faultOfEntry_45, if_neg (nI_ge (by omega) (by omega)), r_u4 (x := 24 + (12 * nI i)) (i := 24 + 12 * i) hfu hn (q_place0 i) (by omega), ob_s, r_u4 (x := 24 + (12 * nI k)) (i := 24 + 12 * k) hfu hn (q_place0 k) (by omega), ob_s, r_u4 (x := 24 + (12 * nI i) + 4) (i := 28 + 12 * i) hfu hn (e_4 i) (by omega), ob_s, r_u4 (x := 24 + (12 * nI k) + 4) (i := 28 + 12 * k) hfu hn (e_4 k) (by omega), ob_s, nI_1, hu, hv, hw, hx]
    have s1 := l_iff (K := lN (eu (oF t_f) k)) (k := eu (oF t_f) k) (r := eu (oF t_f) i) rfl (g1 i) (g1 k)
    have s2 := l_iff (K := lN (en (oF t_f) k)) (k := en (oF t_f) k) (r := en (oF t_f) i) rfl (g2 i) (g2 k)
    by_cases c1 : eu (oF t_f) i = eu (oF t_f) k
    · rw [if_pos (s1.mpr c1)]
      by_cases c2 : en (oF t_f) i = en (oF t_f) k
      · rw [if_pos (s2.mpr c2)]
        exact Or.inl ⟨⟨i, Nat.le_refl i, by omega, c1, c2⟩, rfl⟩
      · rw [if_neg (fun h => c2 (s2.mp h))]
        exact hgo (fun h => c2 h.2)
    · rw [if_neg (fun h => c1 (s1.mp h))]
      exact hgo (fun h => c1 h.1)
theorem use_eq (u : Int32) : p_X2_isUse u = p_X10_isUse u := rfl
theorem q_entry {k : Nat} (j_a fa : Int32) (hfu : 20000 ≤ fu) (hn : n ≤ 6000) (hm : mr m_t t_f n) (hm60 : m ≤ 60) (hpp : pp (oF t_f) (m + 1) ≤ n) (hP : ∀ i, i < m → P i = nI (pp (oF t_f) (i + 1)) ∧ W i = nI (pp (oF t_f) (i + 1))) (hk : 24 + 12 * k + 12 ≤ n) (hk40 : k ≤ 40) : (∃ fv av, ¬ fv = 0 ∧ p_X1_faultOfEntry fu 6000 (nI m) j_a P (nI 0) (nI n) t_f (nI k) = some (fv, av) ∧ p_X10_entryOf fu fa 0 (nI m) m_t W (nI k) (24 + (12 * nI k)) = some (av, fv)) ∨ (k < 40 ∧ EO (oF t_f) m k ∧ p_X1_faultOfEntry fu 6000 (nI m) j_a P (nI 0) (nI n) t_f (nI k) = some (0, j_a) ∧ p_X10_entryOf fu fa 0 (nI m) m_t W (nI k) (24 + (12 * nI k)) = some (fa, 0)) := by
  have hW : ∀ i, i < m → W i = nI (pp (oF t_f) (i + 1)) := fun i hi => (hP i hi).2
  have hep : ep (oF t_f) k < 4294967296 := rv4_lt (oF_lt t_f) _
  unfold p_X1_faultOfEntry p_X10_entryOf
  by_cases c0 : k = 40
  · subst c0
    rw [if_neg (by decide), if_pos (show nI 40 = 40 from rfl), stop_0]
    exact Or.inl ⟨10, _, by decide, rfl, rfl⟩
  · have n40 : ¬ nI k = 40 := fun h => by have := (i_iff (K := 40) (k := 40) rfl (by omega) (by decide)).mp h; omega
    have hx : rv (oF t_f) (24 + 12 * k) 4 = eu (oF t_f) k := rfl
    rw [if_pos (show nI k < 40 from nI_lt (b := 40) (by omega) (by decide)), if_neg n40, r_u4 (x := 24 + (12 * nI k)) (i := 24 + 12 * k) hfu hn (q_place0 k) (by omega), ob_s, r_kind (x := 24 + (12 * nI k)) (i := 24 + 12 * k) hn hm (q_place0 k) (by omega), ob_s, lN_i, hx, use_eq]
    by_cases hu : isU (nI (eu (oF t_f) k))
    · rw [q_use_t hu, ob_s, ob_s, if_pos rfl, if_pos rfl]
      rcases c45 (fu := fu) (m := m) (P := P) (t_f := t_f) j_a hfu hn hk k fu 0 (by omega) (by omega) with ⟨⟨q, r1, r2, r3⟩, r4⟩ | ⟨r1, r2⟩
      · rcases m40_0 (fu := fu) (k := k) fa hfu hn hm hm60 hpp hW hk k fu 0 (by omega) (by omega) with ⟨s1, s2⟩ | ⟨s1, s2⟩
        · have r4' : p_X1_faultOfEntry_45 fu 6000 (nI m) P (nI 0) (nI n) t_f (nI k) fu (24 + (12 * nI k)) 0 j_a = _ := r4
          have s2' : p_X10_entryOf_40 fu (nI m) m_t W (nI k) (24 + (12 * nI k)) fu (nI (eu (oF t_f) k)) 0 fa 0 = _ := s2
          rw [r4', s2']
          exact Or.inl ⟨9, _, by decide, rfl, rfl⟩
        · exact absurd r3 (s1 q (Nat.zero_le q) r2)
      · rcases m40_0 (fu := fu) (k := k) fa hfu hn hm hm60 hpp hW hk k fu 0 (by omega) (by omega) with ⟨⟨q, s0, s1, s3⟩, s2⟩ | ⟨s1, s2⟩
        · exact absurd s3 (r1 q (Nat.zero_le q) s1)
        · have r4' : p_X1_faultOfEntry_45 fu 6000 (nI m) P (nI 0) (nI n) t_f (nI k) fu (24 + (12 * nI k)) 0 j_a = _ := r2
          have s2' : p_X10_entryOf_40 fu (nI m) m_t W (nI k) (24 + (12 * nI k)) fu (nI (eu (oF t_f) k)) 0 fa 0 = _ := s2
          rw [r4', s2']
          obtain ⟨r, u1, u2⟩ := q_pieceAt (fu := fu) (P := P) (x := ep (oF t_f) k) hfu hn hm60 hpp (fun i hi => (hP i hi).1) hep
          rw [u1, ob_s]
          rcases u2 with ⟨q, v1, v2, v3, v4⟩ | ⟨v1, v2⟩
          · subst v2
            rw [if_pos (show (0 : Int32) ≤ nI q from nI_le (a := 0) (Nat.zero_le q) (by omega))]
            rcases m113 (fu := fu) (k := k) (nI k) fa 0 hfu hn hm hm60 hpp hW hk with ⟨w1, w2⟩ | ⟨w1, w2⟩
            · rw [w2]
              exact Or.inr ⟨by omega, ⟨hu, fun j hj => r1 j (Nat.zero_le j) hj, q, v1, v3⟩, rfl, rfl⟩
            · exact absurd v3 (w1 q v1)
          · subst v1
            rw [if_neg (by decide)]
            rcases m113 (fu := fu) (k := k) (nI k) fa 0 hfu hn hm hm60 hpp hW hk with ⟨⟨q, w0, w1⟩, w2⟩ | ⟨w1, w2⟩
            · exact absurd w1 (v2 q w0)
            · rw [w2, stop_0]
              exact Or.inl ⟨8, _, by decide, rfl, rfl⟩
    · rw [q_use_f hu, ob_s, ob_s, if_neg (by decide), if_neg (by decide), stop_0, ob_s]
      refine Or.inl ⟨7, _, by decide, rfl, ?_⟩
      exact m40_f _ _ hfu hn hm hm60 hpp hW hk (show ¬ (7 : Int32) = 0 by decide) k fu 0 (by omega) (by omega)
theorem ix_loop {cnt : Nat} (j_a fa is : Int32) (hfu : 20000 ≤ fu) (hn : n ≤ 6000) (hm : mr m_t t_f n) (hm60 : m ≤ 60) (hpp : pp (oF t_f) (m + 1) ≤ n) (hP : ∀ i, i < m → P i = nI (pp (oF t_f) (i + 1)) ∧ W i = nI (pp (oF t_f) (i + 1))) (hc : 24 + 12 * cnt ≤ n) : ∀ (d k fn fm : Nat), k + d = 40 → d + 2 < fn → d + 2 < fm → k ≤ cnt → (∀ i, i < k → EO (oF t_f) m i) → (∃ fv av, ¬ fv = 0 ∧ p_X1_faultOfIndex_57 fu 6000 (nI m) P (nI 0) (nI n) t_f fn (lN cnt) 0 (nI k) j_a = some (fv, av) ∧ p_X10_goOver_208 fu (nI n) m_t fm (nI cnt) (nI k) fa 0 (nI m) is W = some (av, fv, nI m, is, W)) ∨ (cnt ≤ 40 ∧ (∀ i, i < cnt → EO (oF t_f) m i) ∧ p_X1_faultOfIndex_57 fu 6000 (nI m) P (nI 0) (nI n) t_f fn (lN cnt) 0 (nI k) j_a = some (0, j_a) ∧ p_X10_goOver_208 fu (nI n) m_t fm (nI cnt) (nI k) fa 0 (nI m) is W = some (fa, 0, nI m, is, W)) := by
  intro d
  induction d with
  | zero =>
    intro k fn fm q1 q2 q3 q4 q5
    obtain ⟨fn, rfl⟩ : ∃ x, fn = x + 1 + 1 := ⟨fn - 2, by omega⟩
    obtain ⟨fm, rfl⟩ : ∃ x, fm = x + 1 + 1 := ⟨fm - 2, by omega⟩
    rw [p_X1_faultOfIndex_57, p_X10_goOver_208, nI_l (n := k) (by omega)]
    by_cases c0 : k = cnt
    · subst c0
      rw [if_pos ((pk_lLE (by omega) (by omega)).mpr (Nat.le_refl k)), if_pos (nI_le (Nat.le_refl k) (by omega))]
      exact Or.inr ⟨by omega, q5, rfl, rfl⟩
    · rw [if_neg (fun h => by have := (pk_lLE (by omega) (by omega)).mp h; omega), if_neg (show ¬ (40 : Int32) < nI k from nI_nlt (a := 40) (by omega) (by decide)), if_neg (nI_ge (by omega) (by omega)), if_pos rfl, if_pos rfl]
      rcases q_entry (fu := fu) (P := P) (W := W) (k := k) j_a fa hfu hn hm hm60 hpp hP (by omega) (by omega) with ⟨fv, av, s1, s2, s3⟩ | ⟨s1, s2, s3, s4⟩
      · rw [s2, s3, ob_s, ob_s, p_X1_faultOfIndex_57, p_X10_goOver_208, if_neg s1, if_neg s1]
        refine Or.inl ⟨fv, av, s1, ?_, ?_⟩
        · split
          · rfl
          · split
            · rfl
            · rfl
        · split
          · rfl
          · rfl
      · omega
  | succ d ih =>
    intro k fn fm q1 q2 q3 q4 q5
    obtain ⟨fn, rfl⟩ : ∃ x, fn = x + 1 + 1 := ⟨fn - 2, by omega⟩
    obtain ⟨fm, rfl⟩ : ∃ x, fm = x + 1 + 1 := ⟨fm - 2, by omega⟩
    rw [p_X1_faultOfIndex_57, p_X10_goOver_208, nI_l (n := k) (by omega)]
    by_cases c0 : k = cnt
    · subst c0
      rw [if_pos ((pk_lLE (by omega) (by omega)).mpr (Nat.le_refl k)), if_pos (nI_le (Nat.le_refl k) (by omega))]
      exact Or.inr ⟨by omega, q5, rfl, rfl⟩
    · rw [if_neg (fun h => by have := (pk_lLE (by omega) (by omega)).mp h; omega), if_neg (show ¬ (40 : Int32) < nI k from nI_nlt (a := 40) (by omega) (by decide)), if_neg (nI_ge (by omega) (by omega)), if_pos rfl, if_pos rfl]
      rcases q_entry (fu := fu) (P := P) (W := W) (k := k) j_a fa hfu hn hm hm60 hpp hP (by omega) (by omega) with ⟨fv, av, s1, s2, s3⟩ | ⟨s1, s2, s3, s4⟩
      · rw [s2, s3, ob_s, ob_s, p_X1_faultOfIndex_57, p_X10_goOver_208, if_neg s1, if_neg s1]
        refine Or.inl ⟨fv, av, s1, ?_, ?_⟩
        · split
          · rfl
          · split
            · rfl
            · rfl
        · split
          · rfl
          · rfl
      · rw [s3, s4, ob_s, ob_s, nI_1]
        exact ih (k + 1) (fn + 1) (fm + 1) (by omega) (by omega) (by omega) (by omega) (lt_s q5 s2)
end RE
