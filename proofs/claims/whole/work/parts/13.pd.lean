/-! the reference's reads -/
theorem nI_or {a b k : Nat} (h1 : b < 2 ^ k) : nI (a * 2 ^ k) ||| nI b = nI (a * 2 ^ k + b) := by
  have e1 : a * 2 ^ k ||| b = a * 2 ^ k + b := by rw [← Nat.shiftLeft_eq, Nat.shiftLeft_add_eq_or_of_lt h1]
  apply Int32.toBitVec_inj.mp
  rw [Int32.toBitVec_or]
  show BitVec.ofNat 32 _ ||| BitVec.ofNat 32 _ = BitVec.ofNat 32 _
  rw [← BitVec.ofNat_or, e1]
theorem sh8 {a : Nat} (h1 : a < 16777216) : nI a <<< ((8 : Int32) &&& 31) = nI (a * 2 ^ 8) := pk_shlN _ 8 (by decide) (by omega)
theorem sh16 {a : Nat} (h1 : a < 65536) : nI a <<< ((16 : Int32) &&& 31) = nI (a * 2 ^ 16) := pk_shlN _ 16 (by decide) (by omega)
theorem sh24 {a : Nat} (h1 : a < 256) : nI a <<< ((24 : Int32) &&& 31) = nI (a * 2 ^ 24) := pk_shlN _ 24 (by decide) (by omega)
theorem or4 {a b c d : Nat} (h1 : a < 256) (h2 : b < 256) (h3 : c < 256) (h4 : d < 256) : (((nI a <<< ((24 : Int32) &&& 31)) ||| (nI b <<< ((16 : Int32) &&& 31))) ||| (nI c <<< ((8 : Int32) &&& 31))) ||| nI d = nI (((a * 256 + b) * 256 + c) * 256 + d) := by
  rw [sh24 h1, sh16 (by omega), sh8 (by omega), nI_or (show b * 2 ^ 16 < 2 ^ 24 by omega)]
  rw [show a * 2 ^ 24 + b * 2 ^ 16 = (a * 256 + b) * 2 ^ 16 by omega, nI_or (show c * 2 ^ 8 < 2 ^ 16 by omega)]
  rw [show (a * 256 + b) * 2 ^ 16 + c * 2 ^ 8 = ((a * 256 + b) * 256 + c) * 2 ^ 8 by omega, nI_or (show d < 2 ^ 8 by omega)]
theorem or3 {a b c : Nat} (h1 : a < 256) (h2 : b < 256) (h3 : c < 256) : ((nI a <<< ((16 : Int32) &&& 31)) ||| (nI b <<< ((8 : Int32) &&& 31))) ||| nI c = nI ((a * 256 + b) * 256 + c) := by
  rw [sh16 (by omega), sh8 (by omega), nI_or (show b * 2 ^ 8 < 2 ^ 16 by omega)]
  rw [show a * 2 ^ 16 + b * 2 ^ 8 = (a * 256 + b) * 2 ^ 8 by omega, nI_or (show c < 2 ^ 8 by omega)]
theorem or2 {a b : Nat} (h1 : a < 65536) (h2 : b < 256) : (nI a <<< ((8 : Int32) &&& 31)) ||| nI b = nI (a * 256 + b) := by
  rw [sh8 (by omega)]
  exact nI_or (show b < 2 ^ 8 by omega)
theorem rv4_eq (F : Nat → Nat) (p : Nat) : rv F p 4 = ((F p * 256 + F (p + 1)) * 256 + F (p + 2)) * 256 + F (p + 3) := by simp [rv]
theorem rv2_eq (F : Nat → Nat) (p : Nat) : rv F p 2 = F p * 256 + F (p + 1) := by simp [rv]
theorem nI_ad {x : Int32} {p : Nat} (k : Nat) {y : Int32} (h1 : x = nI p) (h2 : y = nI k) : x + y = nI (p + k) := by subst h1 h2; exact nI_add p k
theorem q_two {n L p : Nat} {g : Nat → Int32} {f : Nat → Int8} {x : Int32} (h1 : x = nI p) (h2 : mr g f L) (h3 : p + 2 ≤ L) (h4 : L ≤ n) (h5 : n < 1073741824) : p_X10_two n g x = some (nI (rv (oF f) p 2)) := by
  have e1 : x + 1 = nI (p + 1) := nI_ad 1 h1 rfl
  unfold p_X10_two
  rw [if_pos (ix_t p h1 (by omega) (by omega)), if_pos (ix_t (p + 1) e1 (by omega) (by omega)), cl_nI p h1 (by omega), cl_nI (p + 1) e1 (by omega), h2 p (by omega), h2 (p + 1) (by omega), rv2_eq]
  have h6 := oc_lt (f p)
  rw [or2 (by omega) (oc_lt _)]
  rfl
theorem q_kindIn {n L p : Nat} {g : Nat → Int32} {f : Nat → Int8} {x : Int32} (h1 : x = nI p) (h2 : mr g f L) (h3 : p + 4 ≤ L) (h4 : L ≤ n) (h5 : n < 1073741824) : p_X10_kindIn n g x = some (nI (rv (oF f) p 4)) := by
  have e1 : x + 1 = nI (p + 1) := nI_ad 1 h1 rfl
  have e2 : x + 2 = nI (p + 2) := nI_ad 2 h1 rfl
  have e3 : x + 3 = nI (p + 3) := nI_ad 3 h1 rfl
  unfold p_X10_kindIn
  rw [if_pos (ix_t p h1 (by omega) (by omega)), if_pos (ix_t (p + 1) e1 (by omega) (by omega)), if_pos (ix_t (p + 2) e2 (by omega) (by omega)), if_pos (ix_t (p + 3) e3 (by omega) (by omega)), cl_nI p h1 (by omega), cl_nI (p + 1) e1 (by omega), cl_nI (p + 2) e2 (by omega), cl_nI (p + 3) e3 (by omega), h2 p (by omega), h2 (p + 1) (by omega), h2 (p + 2) (by omega), h2 (p + 3) (by omega), rv4_eq]
  rw [or4 (oc_lt _) (oc_lt _) (oc_lt _) (oc_lt _)]
  rfl
theorem m4 {r : Nat} (h1 : r < 4294967296) : Int32.toInt64 (nI r) &&& 4294967295 = lN r := by
  apply wb_inj
  rw [Int64.toBitVec_and, Int32.toBitVec_toInt64, wb_tb]
  apply BitVec.eq_of_toNat_eq
  have e1 : (4294967295 : Int64).toBitVec.toNat = 2 ^ 32 - 1 := by decide
  have e2 : (nI r).toBitVec.toNat = r := pk_tn h1
  rw [BitVec.toNat_and, e1, Nat.and_two_pow_sub_one_eq_mod, BitVec.toNat_signExtend, BitVec.toNat_setWidth, BitVec.toNat_ofNat, e2]
  split <;> omega
theorem q_four {n L p : Nat} {g : Nat → Int32} {f : Nat → Int8} {x : Int32} (h1 : x = nI p) (h2 : mr g f L) (h3 : p + 4 ≤ L) (h4 : L ≤ n) (h5 : n < 1073741824) : p_X10_four n g x = some (lN (rv (oF f) p 4)) := by
  unfold p_X10_four
  rw [q_kindIn h1 h2 h3 h4 h5, ob_s, m4 (rv4_lt (oF_lt f) p)]
/-! searches -/
def FI (c : Nat) (P : Nat → Prop) (r : Int32) : Prop := (∃ k, k < c ∧ r = nI k ∧ P k ∧ ∀ i, i < k → ¬ P i) ∨ (r = (-2) ∧ ∀ i, i < c → ¬ P i)
theorem FI_u {c : Nat} {P : Nat → Prop} {r q : Int32} (h1 : FI c P r) (h2 : FI c P q) : r = q := by
  rcases h1 with ⟨k, a1, a2, a3, a4⟩ | ⟨a1, a2⟩
  · rcases h2 with ⟨j, b1, b2, b3, b4⟩ | ⟨b1, b2⟩
    · have e1 : k = j := by
        rcases Nat.lt_trichotomy k j with h5 | h5 | h5
        · exact absurd a3 (b4 k h5)
        · exact h5
        · exact absurd b3 (a4 j h5)
      rw [a2, b2, e1]
    · exact absurd a3 (b2 k a1)
  · rcases h2 with ⟨j, b1, b2, b3, b4⟩ | ⟨b1, b2⟩
    · exact absurd b3 (a2 j b1)
    · rw [a1, b1]
theorem q_firstOf {fu c : Nat} (hfu : 20000 ≤ fu) (h1 : c ≤ 60) (h_k : Nat → Int32) (kd : Int32) : ∃ r, p_X0_firstOf fu (nI c) h_k kd = some r ∧ FI c (fun k => h_k k = kd) r := by
  have h2 : ∀ (fn j : Nat), j ≤ c → c < fn + j → (∀ i, i < j → ¬ h_k i = kd) → ∃ r, p_X0_firstOf_2 fu (nI c) h_k kd fn (nI j) = some r ∧ FI c (fun k => h_k k = kd) r := by
    intro fn
    induction fn with
    | zero => intro j h7 h8; omega
    | succ fn ih =>
      intro j h7 h8 h9
      rw [p_X0_firstOf_2]
      by_cases h10 : j = c
      · subst h10
        rw [if_pos (nI_le (Nat.le_refl _) (by omega))]
        exact ⟨_, rfl, Or.inr ⟨rfl, h9⟩⟩
      · rw [if_neg (nI_ge (by omega) (by omega)), if_pos (ix_t j rfl (by omega) (by decide)), cl_nI j rfl (by omega), nI_1]
        by_cases h11 : h_k j = kd
        · rw [if_pos h11]
          exact ⟨_, rfl, Or.inl ⟨j, by omega, rfl, h11, h9⟩⟩
        · rw [if_neg h11]
          exact ih (j + 1) (by omega) (by omega) (lt_s h9 h11)
  exact h2 fu 0 (by omega) (by omega) (fun i h3 => absurd h3 (Nat.not_lt_zero i))
theorem q_firstWith {fu c len : Nat} (hfu : 20000 ≤ fu) {st : Nat → Nat} (h0 : HC c st) {h_s : Nat → Int32} (h2 : ∀ k, k ≤ c → h_s k = nI (st k)) (h_k : Nat → Int32) (kd : Int32) {y : Int32} (h3 : y = nI len) (h4 : len < 1073741824) : ∃ r, p_X0_firstWith fu (nI c) h_k h_s kd y = some r ∧ FI c (fun k => h_k k = kd ∧ st (k + 1) - st k = len) r := by
  have h1 := h0.1
  have h6 := h0.2.2.2
  subst h3
  have h5 : ∀ (fn j : Nat), j ≤ c → c < fn + j → (∀ i, i < j → ¬ (h_k i = kd ∧ st (i + 1) - st i = len)) → ∃ r, p_X0_firstWith_2 fu (nI c) h_k h_s kd (nI len) fn (nI j) = some r ∧ FI c (fun k => h_k k = kd ∧ st (k + 1) - st k = len) r := by
    intro fn
    induction fn with
    | zero => intro j h7 h8; omega
    | succ fn ih =>
      intro j h7 h8 h9
      rw [p_X0_firstWith_2]
      by_cases h10 : j = c
      · subst h10
        rw [if_pos (nI_le (Nat.le_refl _) (by omega))]
        exact ⟨_, rfl, Or.inr ⟨rfl, h9⟩⟩
      · have h12 := st_le h0 (show j + 1 ≤ c by omega) (Nat.le_refl c)
        rw [if_neg (nI_ge (by omega) (by omega)), if_pos (ix_t j rfl (by omega) (by decide)), cl_nI j rfl (by omega), nI_1, q_lengthOf h0 (by omega) h2, ob_s]
        by_cases h11 : h_k j = kd
        · rw [if_pos h11]
          by_cases h13 : st (j + 1) - st j = len
          · rw [if_pos (by rw [h13])]
            exact ⟨_, rfl, Or.inl ⟨j, by omega, rfl, ⟨h11, h13⟩, h9⟩⟩
          · rw [if_neg (by rw [nI_eq (by omega) (by omega)]; exact h13)]
            exact ih (j + 1) (by omega) (by omega) (lt_s h9 (fun h14 => h13 h14.2))
        · rw [if_neg h11]
          exact ih (j + 1) (by omega) (by omega) (lt_s h9 (fun h14 => h11 h14.1))
  exact h5 fu 0 (by omega) (by omega) (fun i h3 => absurd h3 (Nat.not_lt_zero i))
/-- the reference's search runs down -/
theorem q_first_gen {fu c : Nat} (hfu : 20000 ≤ fu) (h1 : c ≤ 60) {m_k m_s : Nat → Int32} (kd len : Int32) (P : Nat → Prop) (h2 : ∀ k, k < c → (P k ↔ m_k k = kd ∧ (len < 0 ∨ m_s k = len))) : ∃ r, p_X10_first fu (nI c) m_k m_s kd len = some r ∧ FI c P r := by
  have h5 : ∀ (fn j : Nat) (v : Int32), j ≤ c → j < fn → ((∃ k, j ≤ k ∧ k < c ∧ v = nI k ∧ P k ∧ ∀ i, j ≤ i → i < k → ¬ P i) ∨ (v = (-2) ∧ ∀ i, j ≤ i → i < c → ¬ P i)) → ∃ r, p_X10_first_11 fu (nI c) m_k m_s kd len fn v (nI j - 1) = some r ∧ FI c P r := by
    intro fn
    induction fn with
    | zero => intro j v h7 h8; omega
    | succ fn ih =>
      intro j v h7 h8 h9
      rw [p_X10_first_11]
      cases j with
      | zero =>
        rw [if_pos (by decide)]
        refine ⟨v, rfl, ?_⟩
        rcases h9 with ⟨k, a1, a2, a3, a4, a5⟩ | ⟨a1, a2⟩
        · exact Or.inl ⟨k, a2, a3, a4, fun i hi => a5 i (Nat.zero_le i) hi⟩
        · exact Or.inr ⟨a1, fun i hi => a2 i (Nat.zero_le i) hi⟩
      | succ j =>
        have e1 : nI j + (-1) = nI j - 1 := (Int32.sub_eq_add_neg _ _).symm
        have h10 := h2 j (by omega)
        rw [nI_pred, if_neg (nI_pos (by omega)), if_pos (ix_t j rfl (by omega) (by decide)), cl_nI j rfl (by omega), e1]
        have yes : P j → ∃ r, p_X10_first_11 fu (nI c) m_k m_s kd len fn (nI j) (nI j - 1) = some r ∧ FI c P r := fun hp => ih j (nI j) (by omega) (by omega) (Or.inl ⟨j, Nat.le_refl j, by omega, rfl, hp, fun i b1 b2 => absurd b2 (by omega)⟩)
        have no : ¬ P j → ∃ r, p_X10_first_11 fu (nI c) m_k m_s kd len fn v (nI j - 1) = some r ∧ FI c P r := by
          intro hp
          refine ih j v (by omega) (by omega) ?_
          have h11 : ∀ i, j ≤ i → ¬ j + 1 ≤ i → ¬ P i := fun i b1 b2 => by
            have b3 : i = j := by omega
            rw [b3]; exact hp
          rcases h9 with ⟨k, a1, a2, a3, a4, a5⟩ | ⟨a1, a2⟩
          · exact Or.inl ⟨k, by omega, a2, a3, a4, fun i b1 b2 => if b3 : j + 1 ≤ i then a5 i b3 b2 else h11 i b1 b3⟩
          · exact Or.inr ⟨a1, fun i b1 b2 => if b3 : j + 1 ≤ i then a2 i b3 b2 else h11 i b1 b3⟩
        by_cases h12 : m_k j = kd
        · rw [if_pos h12]
          by_cases h13 : len < 0
          · rw [if_pos h13]
            exact yes (h10.mpr ⟨h12, Or.inl h13⟩)
          · rw [if_neg h13, if_pos (ix_t j rfl (by omega) (by decide))]
            by_cases h14 : m_s j = len
            · rw [if_pos h14]
              exact yes (h10.mpr ⟨h12, Or.inr h14⟩)
            · rw [if_neg h14]
              exact no (fun hp => ((h10.mp hp).2).elim h13 h14)
        · rw [if_neg h12]
          exact no (fun hp => h12 (h10.mp hp).1)
  unfold p_X10_first
  exact h5 fu c (-2) (Nat.le_refl c) (by omega) (Or.inr ⟨rfl, fun i b1 b2 => absurd b2 (by omega)⟩)
/-! entries -/
theorem q_entryOf {fu e : Nat} (hfu : 20000 ≤ fu) (h1 : e ≤ 40) (h_u : Nat → Int32) (h_n : Nat → Int64) (u : Int32) (w : Int64) : ∃ r, p_X0_entryOf fu (nI e) h_u h_n u w = some r ∧ FI e (fun i => h_u i = u ∧ h_n i = w) r := by
  have h2 : ∀ (fn j : Nat), j ≤ e → e < fn + j → (∀ i, i < j → ¬ (h_u i = u ∧ h_n i = w)) → ∃ r, p_X0_entryOf_3 fu (nI e) h_u h_n u w fn (nI j) = some r ∧ FI e (fun i => h_u i = u ∧ h_n i = w) r := by
    intro fn
    induction fn with
    | zero => intro j h7 h8; omega
    | succ fn ih =>
      intro j h7 h8 h9
      rw [p_X0_entryOf_3]
      by_cases h10 : j = e
      · subst h10
        rw [if_pos (nI_le (Nat.le_refl _) (by omega))]
        exact ⟨_, rfl, Or.inr ⟨rfl, h9⟩⟩
      · rw [if_neg (nI_ge (by omega) (by omega)), if_pos (ix_t j rfl (by omega) (by decide)), cl_nI j rfl (by omega), nI_1]
        by_cases h11 : h_u j = u
        · rw [if_pos h11, if_pos (ix_t j rfl (by omega) (by decide))]
          by_cases h12 : h_n j = w
          · rw [if_pos h12]
            exact ⟨_, rfl, Or.inl ⟨j, by omega, rfl, ⟨h11, h12⟩, h9⟩⟩
          · rw [if_neg h12]
            exact ih (j + 1) (by omega) (by omega) (lt_s h9 (fun h14 => h12 h14.2))
        · rw [if_neg h11]
          exact ih (j + 1) (by omega) (by omega) (lt_s h9 (fun h14 => h11 h14.1))
  exact h2 fu 0 (by omega) (by omega) (fun i h3 => absurd h3 (Nat.not_lt_zero i))
theorem q_entryFor {fu e : Nat} (hfu : 20000 ≤ fu) (h1 : e ≤ 40) {h_u : Nat → Int32} {h_n : Nat → Int64} {m_u : Nat → Int32} {m_n : Nat → Int64} (h3 : ∀ i, i < e → m_u i = h_u i ∧ m_n i = h_n i) (h4 : ∀ i j, i < e → j < e → h_u i = h_u j → h_n i = h_n j → i = j) (u : Int32) (w : Int64) : ∃ r, p_X10_entryFor fu (nI e) m_u m_n u w = some r ∧ FI e (fun i => h_u i = u ∧ h_n i = w) r := by
  have h2 : ∀ (fn j : Nat) (v : Int32), j ≤ e → e < fn + j → ((∃ k, k < j ∧ v = nI k ∧ (h_u k = u ∧ h_n k = w)) ∨ (v = (-2) ∧ ∀ i, i < j → ¬ (h_u i = u ∧ h_n i = w))) → ∃ r, p_X10_entryFor_7 fu (nI e) m_u m_n u w fn v (nI j) = some r ∧ FI e (fun i => h_u i = u ∧ h_n i = w) r := by
    intro fn
    induction fn with
    | zero => intro j v h7 h8; omega
    | succ fn ih =>
      intro j v h7 h8 h9
      rw [p_X10_entryFor_7]
      by_cases h10 : j = e
      · subst h10
        rw [if_pos (nI_le (Nat.le_refl _) (by omega))]
        refine ⟨v, rfl, ?_⟩
        rcases h9 with ⟨k, a1, a2, a3⟩ | ⟨a1, a2⟩
        · exact Or.inl ⟨k, a1, a2, a3, fun i b1 b2 => by
            have b3 := h4 i k (by omega) a1 (b2.1.trans a3.1.symm) (b2.2.trans a3.2.symm)
            omega⟩
        · exact Or.inr ⟨a1, a2⟩
      · obtain ⟨c1, c2⟩ := h3 j (by omega)
        rw [if_neg (nI_ge (by omega) (by omega)), if_pos (ix_t j rfl (by omega) (by decide)), cl_nI j rfl (by omega), nI_1, c1, c2]
        have no : ¬ (h_u j = u ∧ h_n j = w) → ∃ r, p_X10_entryFor_7 fu (nI e) m_u m_n u w fn v (nI (j + 1)) = some r ∧ FI e (fun i => h_u i = u ∧ h_n i = w) r := by
          intro hp
          refine ih (j + 1) v (by omega) (by omega) ?_
          rcases h9 with ⟨k, a1, a2, a3⟩ | ⟨a1, a2⟩
          · exact Or.inl ⟨k, by omega, a2, a3⟩
          · exact Or.inr ⟨a1, lt_s a2 hp⟩
        by_cases h11 : h_u j = u
        · rw [if_pos h11, if_pos (ix_t j rfl (by omega) (by decide))]
          by_cases h12 : h_n j = w
          · rw [if_pos h12]
            exact ih (j + 1) (nI j) (by omega) (by omega) (Or.inl ⟨j, by omega, rfl, h11, h12⟩)
          · rw [if_neg h12]
            exact no (fun h14 => h12 h14.2)
        · rw [if_neg h11]
          exact no (fun h14 => h11 h14.1)
  unfold p_X10_entryFor
  exact h2 fu 0 (-2) (by omega) (by omega) (Or.inr ⟨rfl, fun i h3 => absurd h3 (Nat.not_lt_zero i)⟩)
