/-! the house -/
theorem ob_s {α β : Type} (a : α) (f : α → Option β) : (some a).bind f = f a := rfl
def isU (u : Int32) : Prop := u = 1349084020 ∨ u = 1399743520 ∨ u = 1147237473 ∨ u = 1165518179
def HC (c : Nat) (st : Nat → Nat) : Prop := c ≤ 60 ∧ st 0 = 0 ∧ (∀ k, k < c → st k ≤ st (k + 1)) ∧ st c ≤ 12000
def HE (c e : Nat) (g : Nat → Nat) (U : Nat → Int32) (N : Nat → Int64) : Prop := e ≤ 40 ∧ (∀ i, i < e → g i < c ∧ isU (U i)) ∧ (∀ i j, i < e → j < e → U i = U j → N i = N j → i = j)
def RH (h_c h_e d_l : Int32) (d_f : Nat → Int8) (h_k h_s h_u : Nat → Int32) (h_n : Nat → Int64) (h_g : Nat → Int32) (m_dl : Int32) (m_d m_k m_s : Nat → Int32) (m_c : Int32) (m_u : Nat → Int32) (m_n : Nat → Int64) (m_m : Nat → Int32) (m_e : Int32) : Prop := ∃ (c e : Nat) (st g : Nat → Nat), HC c st ∧ HE c e g h_u h_n ∧ (h_c = nI c ∧ m_c = nI c ∧ h_e = nI e ∧ m_e = nI e ∧ d_l = nI (st c) ∧ m_dl = nI (st c)) ∧ mr m_d d_f (st c) ∧ (∀ k, k < c → m_k k = h_k k) ∧ (∀ k, k ≤ c → h_s k = nI (st k)) ∧ (∀ k, k < c → m_s k = nI (st (k + 1) - st k)) ∧ (∀ i, i < e → m_u i = h_u i ∧ m_n i = h_n i ∧ h_g i = nI (g i) ∧ m_m i = nI (g i))
theorem st_mono {c : Nat} {st : Nat → Nat} (h1 : HC c st) : ∀ (d k : Nat), k + d ≤ c → st k ≤ st (k + d) := by
  intro d
  induction d with
  | zero => intro k _; exact Nat.le_refl _
  | succ d ih =>
    intro k h2
    have h3 := ih k (by omega)
    have h4 := h1.2.2.1 (k + d) (by omega)
    rw [show k + (d + 1) = k + d + 1 by omega]
    omega
theorem st_le {c : Nat} {st : Nat → Nat} (h1 : HC c st) {k j : Nat} (h2 : k ≤ j) (h3 : j ≤ c) : st k ≤ st j := by
  have h4 := st_mono h1 (j - k) k (by omega)
  rw [show k + (j - k) = j by omega] at h4
  exact h4
theorem q_hasChunk_t {c k : Nat} (h1 : k < c) (h2 : c ≤ 60) : p_X0_hasChunk (nI c) (nI k) = some true := by
  unfold p_X0_hasChunk
  rw [if_neg (nI_pos (by omega)), if_neg (nI_ge h1 (by omega))]
theorem q_hasChunk_f {c : Nat} {x : Int32} (h1 : x < 0 ∨ nI c ≤ x) : p_X0_hasChunk (nI c) x = some false := by
  unfold p_X0_hasChunk
  by_cases h2 : x < 0
  · rw [if_pos h2]
  · rw [if_neg h2, if_pos (h1.resolve_left h2)]
theorem q_hasEntry_t {c k : Nat} (h1 : k < c) (h2 : c ≤ 60) : p_X0_hasEntry (nI c) (nI k) = some true := by
  unfold p_X0_hasEntry
  rw [if_neg (nI_pos (by omega)), if_neg (nI_ge h1 (by omega))]
theorem q_hasEntry_f {c : Nat} {x : Int32} (h1 : x < 0 ∨ nI c ≤ x) : p_X0_hasEntry (nI c) x = some false := by
  unfold p_X0_hasEntry
  by_cases h2 : x < 0
  · rw [if_pos h2]
  · rw [if_neg h2, if_pos (h1.resolve_left h2)]
theorem in_t {k c : Nat} (h1 : k < c) (h2 : c < 1073741824) : p_X10_in (Int32.toInt64 (nI k)) 0 (Int32.toInt64 (nI c - 1)) = some true := by
  rw [q_in32 (q := 0) (nI k) 0 (nI c - 1) rfl rfl rfl]
  congr 1
  exact decide_eq_true ⟨nI_pos' (by omega), (le_sub_iff (a := c) (b := 1) (c := k) (by omega) (by decide) (by omega)).mpr (by omega)⟩
theorem in_f {x : Int32} {c : Nat} (h1 : x < 0 ∨ nI c ≤ x) (h2 : c < 1073741824) : p_X10_in (Int32.toInt64 x) 0 (Int32.toInt64 (nI c - 1)) = some false := by
  rw [q_in32 (q := 0) x 0 (nI c - 1) rfl rfl rfl]
  congr 1
  refine decide_eq_false (fun h3 => ?_)
  have h5 : ¬ x < 0 := Int32.not_lt.mpr h3.1
  obtain ⟨j, h6, rfl⟩ := nI_of h5
  have h7 := (nI_leI (a := c) (b := j) (by omega) h6).mp (h1.resolve_left h5)
  have h8 := h3.2
  rw [Int32.le_iff_toInt_le, nI_toInt h6] at h8
  have h9 : (nI c - 1).toInt = (c : Int) - 1 := pk_sub_toInt (a := c) (b := 1) (by omega) (by decide)
  rw [h9] at h8
  omega
theorem q_isChunk_t {c k : Nat} (h1 : k < c) (h2 : c ≤ 60) : p_X10_isChunk (nI c) (nI k) = some true := by
  unfold p_X10_isChunk
  rw [in_t h1 (by omega)]
  rfl
theorem q_isChunk_f {c : Nat} {x : Int32} (h1 : x < 0 ∨ nI c ≤ x) (h2 : c ≤ 60) : p_X10_isChunk (nI c) x = some false := by
  unfold p_X10_isChunk
  rw [in_f h1 (by omega)]
  rfl
theorem q_kindOf {c k : Nat} {h_k : Nat → Int32} (h1 : k < c) (h2 : c ≤ 60) : p_X0_kindOf (nI c) h_k (nI k) = some (h_k k) := by
  unfold p_X0_kindOf
  rw [q_hasChunk_t h1 h2]
  rw [ob_s, if_pos rfl, if_pos (ix_t k rfl (by omega) (by decide)), cl_nI k rfl (by omega)]
theorem q_lengthOf {c k : Nat} {st : Nat → Nat} {h_s : Nat → Int32} (h0 : HC c st) (h1 : k < c) (h2 : ∀ k, k ≤ c → h_s k = nI (st k)) : p_X0_lengthOf (nI c) h_s (nI k) = some (nI (st (k + 1) - st k)) := by
  have h3 := h0.1
  unfold p_X0_lengthOf
  rw [q_hasChunk_t h1 h3]
  rw [ob_s, if_pos rfl, nI_1, if_pos (ix_t (k + 1) rfl (by omega) (by decide)), if_pos (ix_t k rfl (by omega) (by decide)), cl_nI k rfl (by omega), cl_nI (k + 1) rfl (by omega), h2 k (by omega), h2 (k + 1) (by omega), pk_sub (h0.2.2.1 k h1)]
theorem q_lengthOf_f {c : Nat} {x : Int32} {h_s : Nat → Int32} (h1 : x < 0 ∨ nI c ≤ x) : p_X0_lengthOf (nI c) h_s x = some 0 := by
  unfold p_X0_lengthOf
  rw [q_hasChunk_f h1]
  rfl
theorem q_dataOf {c k : Nat} {st : Nat → Nat} {h_s : Nat → Int32} (h0 : HC c st) (h1 : k < c) (h2 : ∀ k, k ≤ c → h_s k = nI (st k)) : p_X0_dataOf (nI c) (nI (st c)) h_s (nI k) = some (nI (st k), nI (st (k + 1) - st k)) := by
  have h3 := h0.1
  have h4 := h0.2.2.2
  have h5 := h0.2.2.1 k h1
  have h6 := st_le h0 (show k + 1 ≤ c by omega) (Nat.le_refl c)
  unfold p_X0_dataOf
  rw [q_hasChunk_t h1 h3]
  rw [ob_s, if_pos rfl, if_pos (ix_t k rfl (by omega) (by decide)), cl_nI k rfl (by omega), q_lengthOf h0 h1 h2, ob_s, q_part (h2 k (by omega)) rfl (by omega) (by omega)]
  rfl
theorem q_dataOf_f {c a : Nat} {x : Int32} {h_s : Nat → Int32} (h1 : x < 0 ∨ nI c ≤ x) (h2 : a < 1073741824) : p_X0_dataOf (nI c) (nI a) h_s x = some (nI 0, nI 0) := by
  unfold p_X0_dataOf
  rw [q_hasChunk_f h1]
  rw [ob_s, if_neg (by decide), q_lengthOf_f h1, ob_s, q_part (x := 0) (y := 0) (o := 0) (l := 0) rfl rfl (by omega) h2]
  rfl
theorem q_fromOf_loop (fu : Nat) {c k : Nat} {st : Nat → Nat} {m_s : Nat → Int32} (h0 : HC c st) (h1 : k ≤ c) (h2 : ∀ k, k < c → m_s k = nI (st (k + 1) - st k)) : ∀ (fn j : Nat), j ≤ k → k < fn + j → p_X10_fromOf_4 fu m_s (nI k) fn (nI (st j)) (nI j) = some (nI (st k)) := by
  have h3 := h0.1
  intro fn
  induction fn with
  | zero => intro j h7 h8; omega
  | succ fn ih =>
    intro j h7 h8
    rw [p_X10_fromOf_4]
    by_cases h9 : j = k
    · subst h9
      rw [if_pos (nI_le (Nat.le_refl _) (by omega))]
    · have h10 := h0.2.2.1 j (by omega)
      rw [if_neg (nI_ge (by omega) (by omega)), if_pos (ix_t j rfl (by omega) (by decide)), cl_nI j rfl (by omega), h2 j (by omega), nI_add, nI_1, show st j + (st (j + 1) - st j) = st (j + 1) by omega]
      exact ih (j + 1) (by omega) (by omega)
theorem q_fromOf {fu : Nat} (hfu : 20000 ≤ fu) {c k : Nat} {st : Nat → Nat} {m_s : Nat → Int32} (h0 : HC c st) (h1 : k ≤ c) (h2 : ∀ k, k < c → m_s k = nI (st (k + 1) - st k)) : p_X10_fromOf fu m_s (nI k) = some (nI (st k)) := by
  have h3 := h0.1
  unfold p_X10_fromOf
  have h4 := q_fromOf_loop fu h0 h1 h2 fu 0 (by omega) (by omega)
  rw [h0.2.1] at h4
  exact h4
def pl (st : Nat → Nat) (e : Nat) : Nat → Nat
  | 0 => 24 + 12 * e
  | k + 1 => pl st e k + ((8 + (st (k + 1) - st k)) + (st (k + 1) - st k) % 2)
theorem pl_le {c e : Nat} {st : Nat → Nat} (h0 : HC c st) (h1 : e ≤ 40) : ∀ k, k ≤ c → pl st e k ≤ 504 + 9 * k + st k ∧ 24 + 12 * e + 8 * k ≤ pl st e k := by
  intro k
  induction k with
  | zero => intro _; unfold pl; omega
  | succ k ih =>
    intro h2
    have h3 := ih (by omega)
    have h4 := h0.2.2.1 k (by omega)
    rw [pl]
    omega
theorem q_placeOf_loop (fu : Nat) (h_e : Int32) {c k e : Nat} {st : Nat → Nat} {h_s : Nat → Int32} (h0 : HC c st) (h1 : k ≤ c) (h2 : ∀ k, k ≤ c → h_s k = nI (st k)) : ∀ (fn j : Nat), j ≤ k → k < fn + j → p_X0_placeOf_13 fu (nI c) h_e h_s (nI k) fn (nI (pl st e j)) (nI j) = some (nI (pl st e k)) := by
  have h3 := h0.1
  have h4 := h0.2.2.2
  intro fn
  induction fn with
  | zero => intro j h7 h8; omega
  | succ fn ih =>
    intro j h7 h8
    rw [p_X0_placeOf_13]
    by_cases h9 : j = k
    · subst h9
      rw [if_pos (nI_le (Nat.le_refl _) (by omega))]
    · have h5 := st_le h0 (show j + 1 ≤ c by omega) (Nat.le_refl c)
      rw [if_neg (nI_ge (by omega) (by omega)), if_neg (nI_ge (by omega) (by omega)), q_lengthOf h0 (by omega) h2, ob_s, ob_s]
      have e1 : nI (st (j + 1) - st j) &&& 1 = nI ((st (j + 1) - st j) % 2) := pk_andN (by omega) 1 (by decide)
      have e2 : (8 : Int32) + nI (st (j + 1) - st j) = nI (8 + (st (j + 1) - st j)) := nI_add 8 _
      rw [e1, e2, nI_add, nI_add, nI_1]
      exact ih (j + 1) (by omega) (by omega)
theorem q_place0 (e : Nat) : (24 : Int32) + (12 * nI e) = nI (24 + 12 * e) := by
  have e1 : (12 : Int32) * nI e = nI (12 * e) := pk_mul 12 e
  rw [e1]
  exact nI_add 24 _
theorem q_placeOf {fu : Nat} (hfu : 20000 ≤ fu) {c k e : Nat} {st : Nat → Nat} {h_s : Nat → Int32} (h0 : HC c st) (h1 : k ≤ c) (h2 : ∀ k, k ≤ c → h_s k = nI (st k)) : p_X0_placeOf fu (nI c) (nI e) h_s (nI k) = some (nI (pl st e k)) := by
  have h3 := h0.1
  unfold p_X0_placeOf
  rw [q_place0]
  exact q_placeOf_loop fu _ h0 h1 h2 fu 0 (by omega) (by omega)
theorem q_mplaceOf_loop (fu : Nat) (m_e : Int32) {c k e : Nat} {st : Nat → Nat} {m_s : Nat → Int32} (h0 : HC c st) (h1 : k ≤ c) (h2 : ∀ k, k < c → m_s k = nI (st (k + 1) - st k)) : ∀ (fn j : Nat), j ≤ k → k < fn + j → p_X10_placeOf_13 fu m_e m_s (nI k) fn (nI (pl st e j)) (nI j) = some (nI (pl st e k)) := by
  have h3 := h0.1
  have h4 := h0.2.2.2
  intro fn
  induction fn with
  | zero => intro j h7 h8; omega
  | succ fn ih =>
    intro j h7 h8
    rw [p_X10_placeOf_13]
    by_cases h9 : j = k
    · subst h9
      rw [if_pos (nI_le (Nat.le_refl _) (by omega))]
    · have h5 := st_le h0 (show j + 1 ≤ c by omega) (Nat.le_refl c)
      rw [if_neg (nI_ge (by omega) (by omega)), if_pos (ix_t j rfl (by omega) (by decide)), if_pos (ix_t j rfl (by omega) (by decide)), cl_nI j rfl (by omega), h2 j (by omega)]
      have e1 : nI (st (j + 1) - st j) - nI (st (j + 1) - st j) / 2 * 2 = nI ((st (j + 1) - st j) % 2) := pk_rem (d := 2) (by omega) (by decide) (by decide)
      have e2 : (8 : Int32) + nI (st (j + 1) - st j) = nI (8 + (st (j + 1) - st j)) := nI_add 8 _
      rw [e1, e2, nI_add, nI_add, nI_1]
      exact ih (j + 1) (by omega) (by omega)
theorem q_mplaceOf {fu : Nat} (hfu : 20000 ≤ fu) {c k e : Nat} {st : Nat → Nat} {m_s : Nat → Int32} (h0 : HC c st) (h1 : k ≤ c) (h2 : ∀ k, k < c → m_s k = nI (st (k + 1) - st k)) : p_X10_placeOf fu (nI e) m_s (nI k) = some (nI (pl st e k)) := by
  have h3 := h0.1
  unfold p_X10_placeOf
  rw [q_place0]
  exact q_mplaceOf_loop fu _ h0 h1 h2 fu 0 (by omega) (by omega)
def ct (g : Nat → Nat) (x : Nat) : Nat → Nat
  | 0 => 0
  | i + 1 => ct g x i + (if g i = x then 1 else 0)
theorem ct_le (g : Nat → Nat) (x : Nat) : ∀ i, ct g x i ≤ i := by
  intro i
  induction i with
  | zero => exact Nat.le_refl _
  | succ i ih => rw [ct]; split <;> omega
theorem q_means_loop (fu : Nat) {c e x : Nat} {g : Nat → Nat} {h_g : Nat → Int32} (h1 : e ≤ 40) (h2 : c ≤ 60) (h3 : x < c) (h4 : ∀ i, i < e → h_g i = nI (g i)) (h5 : ∀ i, i < e → g i < c) : ∀ (fn j : Nat), j ≤ e → e < fn + j → p_X0_meaningsOf_4 fu (nI e) h_g (nI x) fn (nI (ct g x j)) (nI j) = some (nI (ct g x e)) := by
  intro fn
  induction fn with
  | zero => intro j h7 h8; omega
  | succ fn ih =>
    intro j h7 h8
    rw [p_X0_meaningsOf_4]
    by_cases h9 : j = e
    · subst h9
      rw [if_pos (nI_le (Nat.le_refl _) (by omega))]
    · have h10 := h5 j (by omega)
      have h11 := ih (j + 1) (by omega) (by omega)
      rw [if_neg (nI_ge (by omega) (by omega)), if_pos (ix_t j rfl (by omega) (by decide)), cl_nI j rfl (by omega), h4 j (by omega), nI_1, nI_1]
      rw [ct] at h11
      by_cases h12 : g j = x
      · rw [if_pos h12] at h11
        rw [if_pos (by rw [h12])]
        exact h11
      · rw [if_neg h12] at h11
        rw [if_neg (by rw [nI_eq (by omega) (by omega)]; exact h12)]
        exact h11
theorem q_means {fu : Nat} (hfu : 20000 ≤ fu) {c e x : Nat} {g : Nat → Nat} {h_g : Nat → Int32} (h1 : e ≤ 40) (h2 : c ≤ 60) (h3 : x < c) (h4 : ∀ i, i < e → h_g i = nI (g i)) (h5 : ∀ i, i < e → g i < c) : p_X0_meaningsOf fu (nI e) h_g (nI x) = some (nI (ct g x e)) := by
  unfold p_X0_meaningsOf
  exact q_means_loop fu h1 h2 h3 h4 h5 fu 0 (by omega) (by omega)
theorem q_meant_loop (fu : Nat) {c e x : Nat} {g : Nat → Nat} {m_m : Nat → Int32} (h1 : e ≤ 40) (h2 : c ≤ 60) (h3 : x < c) (h4 : ∀ i, i < e → m_m i = nI (g i)) (h5 : ∀ i, i < e → g i < c) : ∀ (fn j : Nat), j ≤ e → e < fn + j → p_X10_meant_4 fu (nI e) m_m (nI x) fn (nI (ct g x j)) (nI j) = some (nI (ct g x e)) := by
  intro fn
  induction fn with
  | zero => intro j h7 h8; omega
  | succ fn ih =>
    intro j h7 h8
    rw [p_X10_meant_4]
    by_cases h9 : j = e
    · subst h9
      rw [if_pos (nI_le (Nat.le_refl _) (by omega))]
    · have h10 := h5 j (by omega)
      have h11 := ih (j + 1) (by omega) (by omega)
      have e1 : nI (ct g x j) + 0 = nI (ct g x j) := nI_add (ct g x j) 0
      rw [if_neg (nI_ge (by omega) (by omega)), if_pos (ix_t j rfl (by omega) (by decide)), cl_nI j rfl (by omega), h4 j (by omega), nI_1, nI_1, e1]
      rw [ct] at h11
      by_cases h12 : g j = x
      · rw [if_pos h12] at h11
        rw [if_pos (by rw [h12])]
        exact h11
      · rw [if_neg h12] at h11
        rw [if_neg (by rw [nI_eq (by omega) (by omega)]; exact h12)]
        exact h11
theorem q_meant {fu : Nat} (hfu : 20000 ≤ fu) {c e x : Nat} {g : Nat → Nat} {m_m : Nat → Int32} (h1 : e ≤ 40) (h2 : c ≤ 60) (h3 : x < c) (h4 : ∀ i, i < e → m_m i = nI (g i)) (h5 : ∀ i, i < e → g i < c) : p_X10_meant fu (nI e) m_m (nI x) = some (nI (ct g x e)) := by
  unfold p_X10_meant
  exact q_meant_loop fu h1 h2 h3 h4 h5 fu 0 (by omega) (by omega)
