/-! octets of a long; append -/
def vN (v : Int64) : Nat := v.toBitVec.toNat
theorem vN_self (v : Int64) : v = lN (vN v) := wb_inj (by rw [wb_tb]; simp [vN])
theorem vN_lt (v : Int64) : vN v < 18446744073709551616 := v.toBitVec.isLt
def bb (v : Int64) (x : Int32) : Int8 := Int32.toInt8 (Int8.toInt32 (Int32.toInt8 (Int64.toInt32 ((v.toUInt64 >>> ((8 * (x - 1)).toInt64.toUInt64 &&& Int64.toUInt64 63)).toInt64))))
theorem oc_i8 (m : Nat) : oc (Int32.toInt8 (nI m)) = m % 256 := by
  show (BitVec.signExtend 8 (BitVec.ofNat 32 m)).toNat = _
  rw [BitVec.signExtend_eq_setWidth_of_le _ (by decide), BitVec.toNat_setWidth, BitVec.toNat_ofNat]
  omega
theorem bb_oc (v : Int64) {k : Nat} (h1 : k ≤ 7) : oc (bb v (nI (k + 1))) = vN v / 2 ^ (8 * k) % 256 := by
  have e1 : (8 : Int32) * (nI (k + 1) - 1) = nI (8 * k) := by rw [nI_pred]; exact pk_mul 8 k
  unfold bb
  rw [e1]
  have e2 : ((v.toUInt64 >>> ((nI (8 * k)).toInt64.toUInt64 &&& Int64.toUInt64 63)).toInt64) = lN (vN v / 2 ^ (8 * k)) := by
    have h2 := wb_shr (n := vN v) (k := 8 * k) (vN_lt v) (by omega)
    rw [← vN_self v] at h2
    exact h2
  rw [e2, lN_i]
  have e3 : Int32.toInt8 (Int8.toInt32 (Int32.toInt8 (nI (vN v / 2 ^ (8 * k))))) = Int32.toInt8 (nI (vN v / 2 ^ (8 * k))) := by simp
  rw [e3, oc_i8]
def wr (v : Int64) : Nat → (Nat → Int8) → Nat → (Nat → Int8)
  | 0, f, _ => f
  | k + 1, f, p => wr v k (up8 f p (bb v (nI (k + 1)))) (p + 1)
theorem wr_oc (v : Int64) : ∀ (k : Nat) (f : Nat → Int8) (p j : Nat), k ≤ 8 → oc (wr v k f p j) = if p ≤ j ∧ j < p + k then vN v / 2 ^ (8 * (p + k - 1 - j)) % 256 else oc (f j) := by
  intro k
  induction k with
  | zero => intro f p j _; rw [wr, if_neg (by omega)]
  | succ k ih =>
    intro f p j h1
    rw [wr, ih _ _ _ (by omega)]
    by_cases h2 : j = p
    · subst h2
      rw [if_neg (by omega), if_pos (by omega)]
      have e1 : j + (k + 1) - 1 - j = k := by omega
      rw [e1]
      unfold up8
      rw [if_pos rfl, bb_oc v (by omega)]
    · by_cases h3 : p + 1 ≤ j ∧ j < p + 1 + k
      · rw [if_pos h3, if_pos (by omega)]
        have e1 : p + 1 + k - 1 - j = p + (k + 1) - 1 - j := by omega
        rw [e1]
      · rw [if_neg h3, if_neg (by omega)]
        unfold up8
        rw [if_neg h2]
theorem q_append_loop (fu n : Nat) (a1 : Int32) (v : Int64) (h5 : n < 1073741824) : ∀ (fn k p : Nat) (f : Nat → Int8), k < fn → p + k ≤ n → p_X6_append_22 fu n a1 v fn (nI k) (nI p) f = some (nI (p + k), wr v k f p) := by
  intro fn
  induction fn with
  | zero => intro k p f h1; omega
  | succ fn ih =>
    intro k p f h1 h2
    rw [p_X6_append_22]
    cases k with
    | zero => rw [if_pos (by decide)]; rfl
    | succ k =>
      rw [if_neg (nI_nle (by omega) (by omega)), if_pos (ix_t p rfl (by omega) (by omega)), pk_m1, nI_1, cl_nI p rfl (by omega)]
      have h3 := ih k (p + 1) (up8 f p (bb v (nI (k + 1)))) (by omega) (by omega)
      rw [show p + 1 + k = p + (k + 1) by omega] at h3
      exact h3
theorem q_append {fu n p k : Nat} {x : Int32} (f : Nat → Int8) (v : Int64) (h1 : x = nI k) (h2 : k ≤ 8) (h3 : p + k ≤ n) (h5 : n < 1073741824) (h6 : 10 ≤ fu) : p_X6_append fu n (nI p) f x v = some (nI (p + k), wr v k f p) := by
  subst h1
  unfold p_X6_append
  rw [if_neg (nI_pos (by omega)), if_neg (show ¬ (8 : Int32) < nI k from nI_nlt (a := 8) h2 (by decide)), q_room (by omega)]
  show (if nI k ≤ nI (n - p) then _ else _) = _
  rw [if_pos (nI_le (by omega) (by omega))]
  exact q_append_loop fu n _ v h5 fu k p f (by omega) h3
/-! the reference's own octets of a long -/
theorem ssr_and (x : BitVec 64) (s : Nat) (h1 : s ≤ 56) : ((x.sshiftRight s) &&& 255#64).toNat = x.toNat / 2 ^ s % 256 := by
  have e1 : (x.sshiftRight s) &&& 255#64 = (x >>> s) &&& 255#64 := by
    apply BitVec.eq_of_getLsbD_eq
    intro i hi
    rw [BitVec.getLsbD_and, BitVec.getLsbD_and]
    by_cases h2 : i < 8
    · have h3 : s + i < 64 := by omega
      have h4 : ¬ 64 ≤ i := by omega
      simp [BitVec.getLsbD_sshiftRight, BitVec.getLsbD_ushiftRight, h3, h4]
    · have h3 : (255#64).getLsbD i = false := by
        rw [BitVec.getLsbD_ofNat]
        have h4 : Nat.testBit 255 i = false := Nat.testBit_lt_two_pow (Nat.lt_of_lt_of_le (show 255 < 2 ^ 8 by decide) (Nat.pow_le_pow_right (by decide) (by omega)))
        simp [h4]
      rw [h3, Bool.and_false, Bool.and_false]
  rw [e1, BitVec.toNat_and, BitVec.toNat_ushiftRight, Nat.shiftRight_eq_div_pow]
  exact Nat.and_two_pow_sub_one_eq_mod _ 8
theorem mb_val (v : Int64) {k : Nat} (h1 : k ≤ 7) : Int64.toInt32 ((v >>> ((8 * nI k).toInt64 &&& 63)) &&& 255) = nI (vN v / 2 ^ (8 * k) % 256) := by
  have e1 : (8 : Int32) * nI k = nI (8 * k) := pk_mul 8 k
  rw [e1, wb_c (8 * k) (by omega)]
  have e2 : (v >>> lN (8 * k)) &&& 255 = lN (vN v / 2 ^ (8 * k) % 256) := by
    apply wb_inj
    rw [Int64.toBitVec_and, Int64.toBitVec_shiftRight, wb_tb, wb_tb, wb_sm (8 * k) (by omega), BitVec.sshiftRight_eq']
    apply BitVec.eq_of_toNat_eq
    have h2 : (BitVec.ofNat 64 (8 * k)).toNat = 8 * k := by rw [BitVec.toNat_ofNat]; omega
    rw [h2, BitVec.toNat_ofNat]
    have h3 := ssr_and v.toBitVec (8 * k) (by omega)
    have h4 : v.toBitVec.toNat / 2 ^ (8 * k) % 256 < 256 := Nat.mod_lt _ (by decide)
    rw [Nat.mod_eq_of_lt (show vN v / 2 ^ (8 * k) % 256 < 2 ^ 64 by unfold vN; omega)]
    exact h3
  rw [e2, lN_i]
def mwr (v : Int64) : Nat → (Nat → Int32) → Nat → (Nat → Int32)
  | 0, g, _ => g
  | k + 1, g, p => mwr v k (upd g p (Int64.toInt32 ((v >>> ((8 * nI k).toInt64 &&& 63)) &&& 255))) (p + 1)
theorem mwr_val (v : Int64) : ∀ (k : Nat) (g : Nat → Int32) (p j : Nat), k ≤ 8 → mwr v k g p j = if p ≤ j ∧ j < p + k then nI (vN v / 2 ^ (8 * (p + k - 1 - j)) % 256) else g j := by
  intro k
  induction k with
  | zero => intro g p j _; rw [mwr, if_neg (by omega)]
  | succ k ih =>
    intro g p j h1
    rw [mwr, ih _ _ _ (by omega)]
    by_cases h2 : j = p
    · subst h2
      rw [if_neg (by omega), if_pos (by omega)]
      have e1 : j + (k + 1) - 1 - j = k := by omega
      rw [e1, pk_us, mb_val v (by omega)]
    · by_cases h3 : p + 1 ≤ j ∧ j < p + 1 + k
      · rw [if_pos h3, if_pos (by omega)]
        have e1 : p + 1 + k - 1 - j = p + (k + 1) - 1 - j := by omega
        rw [e1]
      · rw [if_neg h3, if_neg (by omega), pk_un h2]
/-- an array of ints holds the octets of a row -/
def mr (g : Nat → Int32) (f : Nat → Int8) (n : Nat) : Prop := ∀ j, j < n → g j = nI (oc (f j))
theorem mr_wr {g : Nat → Int32} {f : Nat → Int8} {n k : Nat} (v : Int64) (h1 : mr g f n) (h2 : k ≤ 8) : mr (mwr v k g n) (wr v k f n) (n + k) := by
  intro j hj
  rw [mwr_val v k g n j h2, wr_oc v k f n j h2]
  by_cases h3 : n ≤ j ∧ j < n + k
  · rw [if_pos h3, if_pos h3]
  · rw [if_neg h3, if_neg h3]
    exact h1 j (by omega)
theorem mr_le {g : Nat → Int32} {f : Nat → Int8} {n k : Nat} (h1 : mr g f n) (h2 : k ≤ n) : mr g f k := fun j hj => h1 j (by omega)
/-! the relation between the class and the reference -/
def RT (t_l : Int32) (t_f : Nat → Int8) (m_tl : Int32) (m_t : Nat → Int32) : Prop := ∃ n : Nat, n ≤ 6000 ∧ t_l = nI n ∧ m_tl = nI n ∧ mr m_t t_f n
def RO (o_l : Int32) (o_f : Nat → Int8) (m_ol : Int32) (m_o : Nat → Int32) : Prop := ∃ n : Nat, n ≤ 13044 ∧ o_l = nI n ∧ m_ol = nI n ∧ mr m_o o_f n
theorem q_feed_loop (fu : Nat) (a1 : Int32) (v : Int64) : ∀ (fn k p : Nat) (g : Nat → Int32), k < fn → p + k ≤ 6000 → p_X10_feed_34 fu a1 v fn (nI k - 1) (nI p) g = some (nI (p + k), nI (p + k), mwr v k g p) := by
  intro fn
  induction fn with
  | zero => intro k p f h1; omega
  | succ fn ih =>
    intro k p g h1 h2
    rw [p_X10_feed_34]
    cases k with
    | zero => rw [if_pos (by decide)]; rfl
    | succ k =>
      rw [nI_pred, if_neg (nI_pos (by omega)), if_pos (ix_t p rfl (by omega) (by omega)), nI_1, cl_nI p rfl (by omega)]
      have e1 : nI k + (-1) = nI k - 1 := (Int32.sub_eq_add_neg _ _).symm
      rw [e1]
      have h3 := ih k (p + 1) (upd g p (Int64.toInt32 ((v >>> ((8 * nI k).toInt64 &&& 63)) &&& 255))) (by omega) (by omega)
      rw [show p + 1 + k = p + (k + 1) by omega] at h3
      exact h3
theorem q_in (x y w : Int64) : p_X10_in x y w = some (decide (y ≤ x ∧ x ≤ w)) := by
  unfold p_X10_in
  by_cases h1 : x < y
  · rw [if_pos h1, decide_eq_false (fun h2 => absurd h1 (Int64.not_lt.mpr h2.1))]
  · rw [if_neg h1]
    by_cases h2 : w < x
    · rw [if_pos h2, decide_eq_false (fun h3 => absurd h2 (Int64.not_lt.mpr h3.2))]
    · rw [if_neg h2, decide_eq_true ⟨Int64.not_lt.mp h1, Int64.not_lt.mp h2⟩]
theorem q_in32 (x y w : Int32) {p q r : Int64} (h1 : p = Int32.toInt64 x) (h2 : q = Int32.toInt64 y) (h3 : r = Int32.toInt64 w) : p_X10_in p q r = some (decide (y ≤ x ∧ x ≤ w)) := by
  subst h1 h2 h3
  rw [q_in]
  congr 1
  exact decide_eq_decide.mpr (and_congr (i64_le y x) (i64_le x w))
theorem st_feed {fu : Nat} (hfu : 20000 ≤ fu) {t_l : Int32} {t_f : Nat → Int8} {m_tl : Int32} {m_t : Nat → Int32} (h1 : RT t_l t_f m_tl m_t) (a1 : Int32) (a2 : Int64) : ∃ zx zm, p_X9_feed fu t_l t_f a1 a2 = some zx ∧ p_X10_feed fu m_tl m_t a1 a2 = some zm ∧ zx.1 = zm.1 ∧ RT zx.2.1 zx.2.2 zm.2.1 zm.2.2 := by
  obtain ⟨n, h2, h3, h4, h5⟩ := h1
  subst h3 h4
  unfold p_X9_feed p_X10_feed
  rw [q_in32 (q := 1) (r := 8) a1 1 8 rfl rfl rfl]
  show ∃ zx zm, _ ∧ (if decide (1 ≤ a1 ∧ a1 ≤ 8) = true then _ else _) = some zm ∧ _
  by_cases h6 : a1 < 1
  · rw [if_pos h6, if_neg (by rw [decide_eq_true_iff]; exact fun h7 => absurd h6 (Int32.not_lt.mpr h7.1))]
    exact ⟨_, _, rfl, rfl, rfl, n, h2, rfl, rfl, h5⟩
  · rw [if_neg h6]
    by_cases h7 : a1 ≤ 8
    · rw [if_pos h7, if_pos (by rw [decide_eq_true_iff]; exact ⟨Int32.not_lt.mp h6, h7⟩)]
      have h8 : ¬ a1 < 0 := fun h9 => h6 (Int32.lt_trans h9 (by decide))
      obtain ⟨k, h9, rfl⟩ := nI_of2 (M := 8) (n := 8) (by decide) h8 h7
      have h10 : 1 ≤ k := by
        rcases Nat.eq_zero_or_pos k with h11 | h11
        · subst h11; exact absurd (by decide) h6
        · exact h11
      rw [q_room h2, nI_add]
      show ∃ zx zm, (if nI k ≤ nI (6000 - n) then _ else _) = some zx ∧ (if nI (n + k) ≤ nI 6000 then _ else _) = some zm ∧ _
      by_cases h12 : n + k ≤ 6000
      · rw [if_pos (nI_le (by omega) (by omega)), if_pos (nI_le h12 (by decide)), q_append t_f a2 rfl h9 h12 (by decide) (by omega), q_feed_loop fu _ a2 fu k n m_t (by omega) h12]
        exact ⟨_, _, rfl, rfl, rfl, n + k, h12, rfl, rfl, mr_wr a2 h5 h9⟩
      · rw [if_neg (nI_ge (by omega) (by omega)), if_neg (nI_ge (by omega) (by omega))]
        exact ⟨_, _, rfl, rfl, rfl, n, h2, rfl, rfl, h5⟩
    · rw [if_neg h7, if_neg (by rw [decide_eq_true_iff]; exact fun h8 => h7 h8.2)]
      exact ⟨_, _, rfl, rfl, rfl, n, h2, rfl, rfl, h5⟩
theorem st_cut {t_l : Int32} {t_f : Nat → Int8} {m_tl : Int32} {m_t : Nat → Int32} (h1 : RT t_l t_f m_tl m_t) (a1 : Int32) : ∃ zx zm, p_X9_cut t_l a1 = some zx ∧ p_X10_cut m_tl a1 = some zm ∧ zx.1 = zm.1 ∧ RT zx.2 t_f zm.2 m_t := by
  obtain ⟨n, h2, h3, h4, h5⟩ := h1
  subst h3 h4
  unfold p_X9_cut p_X10_cut
  rw [q_in32 (q := 0) a1 0 (nI n) rfl rfl rfl]
  show ∃ zx zm, _ ∧ (if decide (0 ≤ a1 ∧ a1 ≤ nI n) = true then _ else _) = some zm ∧ _
  by_cases h6 : a1 < 0
  · rw [if_pos h6, if_neg (by rw [decide_eq_true_iff]; exact fun h7 => absurd h6 (Int32.not_lt.mpr h7.1))]
    exact ⟨_, _, rfl, rfl, rfl, n, h2, rfl, rfl, h5⟩
  · rw [if_neg h6]
    by_cases h7 : a1 ≤ nI n
    · rw [if_pos h7, if_pos (by rw [decide_eq_true_iff]; exact ⟨Int32.not_lt.mp h6, h7⟩)]
      obtain ⟨k, h9, rfl⟩ := nI_of2 (n := n) (nI_toInt (by omega)) h6 h7
      rw [q_keep h9 (by omega)]
      exact ⟨_, _, rfl, rfl, rfl, k, by omega, rfl, rfl, mr_le h5 h9⟩
    · rw [if_neg h7, if_neg (by rw [decide_eq_true_iff]; exact fun h8 => h7 h8.2)]
      exact ⟨_, _, rfl, rfl, rfl, n, h2, rfl, rfl, h5⟩
