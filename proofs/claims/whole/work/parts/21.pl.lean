/-! splice and replace -/
theorem nI_as {a b c : Nat} (h1 : c ≤ a + b) : nI a + (nI b - nI c) = nI (a + b - c) := by
  rw [← pk_sub h1, ← nI_add, Int32.sub_eq_add_neg, Int32.sub_eq_add_neg, Int32.add_assoc]
theorem q_spliceA {n1 n2 L so n at_ old : Nat} (f g : Nat → Int8) (h1 : at_ + old ≤ L) (h2 : L + n ≤ n1 + old) (h3 : so + n ≤ n2) (h4 : n1 < 1000000) (h5 : n2 < 1000000) (h6 : L ≤ n1) : p_X6_spliceA n1 n2 (nI L) f (nI so) (nI n) g (nI at_) (nI old) = some (nI (L + n - old), va_cpy g (va_cpy f f (at_ + old) (at_ + n) (L - (at_ + old))) so at_ n) := by
  have e1 : nI at_ + nI old = nI (at_ + old) := nI_add _ _
  have e2 : nI at_ + nI n = nI (at_ + n) := nI_add _ _
  have e3 : nI L - nI (at_ + old) = nI (L - (at_ + old)) := pk_sub h1
  unfold p_X6_spliceA
  rw [if_neg (nI_pos (by omega)), if_neg (nI_pos (by omega)), if_neg (fun h => by have := (sub_lt_iff (by omega) (by omega) (by omega)).mp h; omega), q_room h6, ob_s, if_pos ((sub_le_iff (by omega) (by omega) (by omega)).mpr (by omega)), e1, e2, e3, cl_nI _ rfl (by omega), cl_nI _ rfl (by omega), cl_nI _ rfl (by omega), cl_nI _ rfl (by omega), cl_nI _ rfl (by omega), cl_nI _ rfl (by omega), if_pos ⟨nI_pos (by omega), nI_pos (by omega), nI_pos (by omega), by omega, by omega⟩, if_pos ⟨nI_pos (by omega), nI_pos (by omega), nI_pos (by omega), by omega, by omega⟩, nI_as (by omega)]
theorem q_spliceB {n1 L so n at_ old : Nat} (f : Nat → Int8) (h1 : at_ + old ≤ L) (h2 : L + n ≤ n1 + old) (h3 : so + n ≤ n1) (h4 : n1 < 1000000) (h6 : L ≤ n1) : ∃ g, p_X6_spliceB n1 (nI L) f (nI so) (nI n) (nI at_) (nI old) = some (nI (L + n - old), va_cpy g (va_cpy f f (at_ + old) (at_ + n) (L - (at_ + old))) so at_ n) := by
  have e1 : nI at_ + nI old = nI (at_ + old) := nI_add _ _
  have e2 : nI at_ + nI n = nI (at_ + n) := nI_add _ _
  have e3 : nI L - nI (at_ + old) = nI (L - (at_ + old)) := pk_sub h1
  unfold p_X6_spliceB
  rw [if_neg (nI_pos (by omega)), if_neg (nI_pos (by omega)), if_neg (fun h => by have := (sub_lt_iff (by omega) (by omega) (by omega)).mp h; omega), q_room h6, ob_s, if_pos ((sub_le_iff (by omega) (by omega) (by omega)).mpr (by omega)), e1, e2, e3, cl_nI _ rfl (by omega), cl_nI _ rfl (by omega), cl_nI _ rfl (by omega), cl_nI _ rfl (by omega), cl_nI _ rfl (by omega), cl_nI _ rfl (by omega), if_pos ⟨nI_pos (by omega), nI_pos (by omega), nI_pos (by omega), by omega, by omega⟩, if_pos ⟨nI_pos (by omega), nI_pos (by omega), nI_pos (by omega), by omega, by omega⟩, nI_as (by omega)]
  exact ⟨_, rfl⟩
/-- the reference's data after a replacement: at_: where, old: how many went, n: how many came -/
def shf (D : Nat → Int32) (at_ old n L : Nat) (j : Nat) : Int32 := if at_ + n ≤ j ∧ j < L + n - old then D (j + old - n) else D j
def rep (D T : Nat → Int32) (at_ old n L : Nat) (j : Nat) : Int32 := if at_ ≤ j ∧ j < at_ + n then T (j - at_) else shf D at_ old n L j
section RP
variable {fu : Nat} {m_t : Nat → Int32} {k at_ old n L : Nat}
theorem rp128 (hk : k < 61) (h2 : L + n ≤ 12000 + old) (h1 : at_ + old ≤ L) (h3 : n ≤ 6000) (a2 v5 m_tl : Int32) (m_s : Nat → Int32) (l1 : Int32) (hl1 : nI L + v5 = l1) (tl' : Int32) (ht : (if a2 = 0 then m_tl else 0) = tl') : ∀ (d fn i : Nat) (D : Nat → Int32), i + d = n → d < fn → ∃ E, p_X10_replace_128 fu m_t (nI k) a2 fn (nI at_) (nI n) v5 (nI i) m_tl (nI L) D m_s = some (tl', l1, E, upd m_s k (nI n)) ∧ ∀ j, E j = if at_ + i ≤ j ∧ j < at_ + n then m_t (j - at_) else D j := by
  intro d
  induction d with
  | zero =>
    intro fn i D h5 h6
    cases fn with
    | zero => omega
    | succ fn =>
      have e1 : i = n := by omega
      subst e1
      rw [p_X10_replace_128, if_pos (nI_le (Nat.le_refl _) (by omega)), if_pos (ix_t k rfl hk (by decide)), cl_nI k rfl (by omega), hl1]
      refine ⟨D, ?_, fun j => by rw [if_neg (by omega)]⟩
      rw [← ht]
      split <;> rfl
  | succ d ih =>
    intro fn i D h5 h6
    cases fn with
    | zero => omega
    | succ fn =>
      obtain ⟨E, E1, E2⟩ := ih fn (i + 1) (upd D (at_ + i) (m_t i)) (by omega) (by omega)
      rw [p_X10_replace_128, if_neg (nI_ge (by omega) (by omega)), if_pos (ix_t i rfl (by omega) (by decide)), nI_add at_ i, if_pos (ix_t (at_ + i) rfl (by omega) (by decide)), cl_nI (at_ + i) rfl (by omega), cl_nI i rfl (by omega), nI_1]
      refine ⟨E, E1, fun j => ?_⟩
      rw [E2 j]
      by_cases c1 : j = at_ + i
      · subst c1
        rw [if_neg (by omega), if_pos (by omega), pk_us, show at_ + i - at_ = i by omega]
      · rw [pk_un c1]
        by_cases c2 : at_ + (i + 1) ≤ j ∧ j < at_ + n
        · rw [if_pos c2, if_pos (by omega)]
        · rw [if_neg c2, if_neg (by omega)]
/-- the shift to the left -/
theorem rp93 (hk : k < 61) (h1 : at_ + old ≤ L) (hL : L ≤ 12000) (h3 : n ≤ 6000) (h4 : n ≤ old) (a2 m_tl : Int32) (m_s : Nat → Int32) (D0 : Nat → Int32) (tl' : Int32) (ht : (if a2 = 0 then m_tl else 0) = tl') (hfu : 20000 ≤ fu) : ∀ (d fn i : Nat) (D : Nat → Int32), i + d = L → d < fn → at_ + old ≤ i → (∀ j, D j = if at_ + n ≤ j ∧ j < i + n - old then D0 (j + old - n) else D0 j) → ∃ E, p_X10_replace_93 fu m_t (nI k) a2 fn (nI at_) (nI n) (nI n - nI old) (nI i) m_tl (nI L) D m_s = some (tl', nI (L + n - old), E, upd m_s k (nI n)) ∧ ∀ j, E j = rep D0 m_t at_ old n L j := by
  intro d
  induction d with
  | zero =>
    intro fn i D h5 h6 h7 h8
    cases fn with
    | zero => omega
    | succ fn =>
      have e1 : i = L := by omega
      subst e1
      obtain ⟨E, E1, E2⟩ := rp128 (fu := fu) (m_t := m_t) (k := k) (at_ := at_) (old := old) (n := n) (L := i) hk (by omega) h1 h3 a2 (nI n - nI old) m_tl m_s _ (nI_as (by omega)) tl' ht n fu 0 D (by omega) (by omega)
      rw [p_X10_replace_93, if_pos (nI_le (Nat.le_refl _) (by omega))]
      refine ⟨E, E1, fun j => ?_⟩
      rw [E2 j, Nat.add_zero]
      unfold rep shf
      by_cases c1 : at_ ≤ j ∧ j < at_ + n
      · rw [if_pos c1, if_pos c1]
      · rw [if_neg c1, if_neg c1, h8 j]
  | succ d ih =>
    intro fn i D h5 h6 h7 h8
    cases fn with
    | zero => omega
    | succ fn =>
      have e2 : nI i + (nI n - nI old) = nI (i + n - old) := nI_as (by omega)
      have e3 : D i = D0 i := by rw [h8 i, if_neg (by omega)]
      rw [p_X10_replace_93, if_neg (nI_ge (by omega) (by omega)), if_pos (ix_t i rfl (by omega) (by decide)), e2, if_pos (ix_t (i + n - old) rfl (by omega) (by decide)), cl_nI (i + n - old) rfl (by omega), cl_nI i rfl (by omega), nI_1, e3]
      refine ih fn (i + 1) _ (by omega) (by omega) (by omega) (fun j => ?_)
      by_cases c1 : j = i + n - old
      · subst c1
        rw [pk_us, if_pos (by omega)]
        congr 1
        omega
      · rw [pk_un c1, h8 j]
        by_cases c2 : at_ + n ≤ j ∧ j < i + n - old
        · rw [if_pos c2, if_pos (by omega)]
        · rw [if_neg c2, if_neg (by omega)]
/-- the shift to the right -/
theorem rp44 (hk : k < 61) (h1 : at_ + old ≤ L) (hL : L ≤ 12000) (h2 : L + n ≤ 12000 + old) (h3 : n ≤ 6000) (h4 : old < n) (a2 m_tl : Int32) (m_s : Nat → Int32) (hs : m_s k = nI old) (D0 : Nat → Int32) (tl' : Int32) (ht : (if a2 = 0 then m_tl else 0) = tl') (hfu : 20000 ≤ fu) : ∀ (d fn : Nat) (D : Nat → Int32), at_ + old + d ≤ L → d < fn → (∀ j, D j = if at_ + old + d + n - old ≤ j ∧ j < L + n - old then D0 (j + old - n) else D0 j) → ∃ E, p_X10_replace_44 fu m_t (nI k) a2 fn (nI at_) (nI n) (nI n - nI old) (nI (at_ + old + d) - 1) m_tl (nI L) D m_s = some (tl', nI (L + n - old), E, upd m_s k (nI n)) ∧ ∀ j, E j = rep D0 m_t at_ old n L j := by
  intro d
  induction d with
  | zero =>
    intro fn D h5 h6 h8
    cases fn with
    | zero => omega
    | succ fn =>
      obtain ⟨E, E1, E2⟩ := rp128 (fu := fu) (m_t := m_t) (k := k) (at_ := at_) (old := old) (n := n) (L := L) hk h2 h1 h3 a2 (nI n - nI old) m_tl m_s _ (nI_as (by omega)) tl' ht n fu 0 D (by omega) (by omega)
      rw [p_X10_replace_44, if_pos (ix_t k rfl hk (by decide)), cl_nI k rfl (by omega), hs, nI_add at_ old, if_pos]
      · refine ⟨E, E1, fun j => ?_⟩
        rw [E2 j, Nat.add_zero]
        unfold rep shf
        by_cases c1 : at_ ≤ j ∧ j < at_ + n
        · rw [if_pos c1, if_pos c1]
        · rw [if_neg c1, if_neg c1, h8 j]
          by_cases c2 : at_ + n ≤ j ∧ j < L + n - old
          · rw [if_pos c2, if_pos (by omega)]
          · rw [if_neg c2, if_neg (by omega)]
      · exact (sub_lt_iff (a := at_ + old + 0) (b := 1) (c := at_ + old) (by omega) (by decide) (by omega)).mpr (by omega)
  | succ d ih =>
    intro fn D h5 h6 h8
    cases fn with
    | zero => omega
    | succ fn =>
      have e1 : nI (at_ + old + (d + 1)) - 1 = nI (at_ + old + d) := nI_pred (at_ + old + d)
      have e2 : nI (at_ + old + d) + (nI n - nI old) = nI (at_ + old + d + n - old) := nI_as (by omega)
      have e3 : D (at_ + old + d) = D0 (at_ + old + d) := by rw [h8 _, if_neg (by omega)]
      have e4 : nI (at_ + old + d) + (-1) = nI (at_ + old + d) - 1 := (Int32.sub_eq_add_neg _ _).symm
      rw [p_X10_replace_44, if_pos (ix_t k rfl hk (by decide)), cl_nI k rfl (by omega), hs, nI_add at_ old, e1, if_neg (nI_nlt (by omega) (by omega)), if_pos (ix_t (at_ + old + d) rfl (by omega) (by decide)), e2, if_pos (ix_t (at_ + old + d + n - old) rfl (by omega) (by decide)), cl_nI (at_ + old + d + n - old) rfl (by omega), cl_nI (at_ + old + d) rfl (by omega), e3, e4]
      refine ih fn _ (by omega) (by omega) (fun j => ?_)
      by_cases c1 : j = at_ + old + d + n - old
      · subst c1
        rw [pk_us, if_pos (by omega)]
        congr 1
        omega
      · rw [pk_un c1, h8 j]
        by_cases c2 : at_ + old + (d + 1) + n - old ≤ j ∧ j < L + n - old
        · rw [if_pos c2, if_pos (by omega)]
        · rw [if_neg c2, if_neg (by omega)]
theorem q_replace (hfu : 20000 ≤ fu) (hk : k < 61) (h1 : at_ + old ≤ L) (hL : L ≤ 12000) (h2 : L + n ≤ 12000 + old) (h3 : n ≤ 6000) (a2 m_tl : Int32) (hn : (if a2 = 0 then 0 else m_tl) = nI n) (m_s m_d : Nat → Int32) (hs : m_s k = nI old) (hf : p_X10_fromOf fu m_s (nI k) = some (nI at_)) : ∃ E, p_X10_replace fu m_tl (nI L) m_t m_d m_s (nI k) a2 = some ((if a2 = 0 then m_tl else 0), nI (L + n - old), E, upd m_s k (nI n)) ∧ ∀ j, E j = rep m_d m_t at_ old n L j := by
  have key : ∃ E, p_X10_replace_18 fu m_t (nI k) a2 (nI at_) (nI n) m_tl (nI L) m_d m_s = some ((if a2 = 0 then m_tl else 0), nI (L + n - old), E, upd m_s k (nI n)) ∧ ∀ j, E j = rep m_d m_t at_ old n L j := by
    unfold p_X10_replace_18
    rw [if_pos (ix_t k rfl hk (by decide)), cl_nI k rfl (by omega), hs]
    have s1 : nI n - nI old ≤ 0 ↔ n ≤ old := by
      have := sub_le_iff (a := n) (b := old) (c := 0) (by omega) (by omega) (by decide)
      rw [Nat.zero_add] at this
      exact this
    by_cases c : n ≤ old
    · rw [if_pos (s1.mpr c), if_pos (ix_t k rfl hk (by decide)), nI_add at_ old]
      refine rp93 hk h1 hL h3 c a2 m_tl m_s m_d _ rfl hfu (L - (at_ + old)) fu (at_ + old) m_d (by omega) (by omega) (Nat.le_refl _) (fun j => ?_)
      rw [if_neg (by omega)]
    · rw [if_neg (fun h => c (s1.mp h))]
      have h5 := rp44 (fu := fu) (m_t := m_t) hk h1 hL h2 h3 (show old < n by omega) a2 m_tl m_s hs m_d _ rfl hfu (L - (at_ + old)) fu m_d (by omega) (by omega) (fun j => by rw [if_neg (by omega)])
      rw [show at_ + old + (L - (at_ + old)) = L by omega] at h5
      exact h5
  unfold p_X10_replace
  rw [hf, ob_s]
  by_cases c : a2 = 0
  · rw [if_pos c] at hn
    have hn' : (0 : Int32) = nI n := hn
    rw [if_pos c]
    rw [← hn'] at key
    rw [hn'] at key ⊢
    exact key
  · rw [if_neg c] at hn
    rw [if_neg c, if_neg c]
    rw [if_neg c] at key
    rw [hn] at key ⊢
    exact key
end RP
theorem mr_rep {m_d m_t E : Nat → Int32} {d_f t_f : Nat → Int8} {at_ old n L so : Nat} {x : Nat → Int8} (h1 : mr m_d d_f L) (h2 : at_ + old ≤ L) (h3 : ∀ i, i < n → m_t i = nI (oc (x (so + i)))) (h4 : ∀ j, E j = rep m_d m_t at_ old n L j) : mr E (va_cpy x (va_cpy d_f d_f (at_ + old) (at_ + n) (L - (at_ + old))) so at_ n) (L + n - old) := by
  intro j hj
  rw [h4 j]
  unfold rep shf
  by_cases c1 : at_ ≤ j ∧ j < at_ + n
  · rw [if_pos c1, pk_cpy_in c1.1 c1.2]
    exact h3 (j - at_) (by omega)
  · rw [if_neg c1, pk_cpy_out (by omega)]
    by_cases c2 : at_ + n ≤ j ∧ j < L + n - old
    · rw [if_pos c2, pk_cpy_in (by omega) (by omega), show at_ + old + (j - (at_ + n)) = j + old - n by omega]
      exact h1 (j + old - n) (by omega)
    · rw [if_neg c2, pk_cpy_out (by omega)]
      exact h1 j (by omega)
