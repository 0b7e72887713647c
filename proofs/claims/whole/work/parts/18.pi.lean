/-! sizes on a window -/
theorem z_eq {r : Nat} (h : r < 4294967296) : lN r = 0 ↔ r = 0 := l_iff (K := 0) (k := 0) rfl h (by decide)
theorem z_le {r : Nat} (h : r < 4294967296) : lN r ≤ 0 ↔ r = 0 := by
  have h1 : lN r ≤ lN 0 ↔ r ≤ 0 := pk_lLE (by omega) (by decide)
  exact h1.trans ⟨fun h => by omega, fun h => by omega⟩
theorem z_gt {r : Nat} (h : r < 4294967296) : 0 < lN r ↔ 0 < r := pk_lLT (a := 0) (by decide) (by omega)
theorem z_ng {r : Nat} (h : r < 4294967296) : ¬ lN r < 0 := fun h1 => by
  have h2 : r < 0 := (pk_lLT (b := 0) (by omega) (by decide)).mp h1
  omega
theorem z_big {r : Nat} (h : r < 4294967296) : 65535 < lN r ↔ 65535 < r := pk_lLT (a := 65535) (by decide) (by omega)
theorem q_proper {a b : Nat} (h1 : a < 4294967296) (h2 : b < 4294967296) : p_X5_isProper (lN a) (lN b) = some (decide (0 < b)) := by
  unfold p_X5_isProper
  rw [if_neg (z_ng h1)]
  by_cases c : 0 < b
  · rw [if_neg (fun h => by have := (z_le h2).mp h; omega), decide_eq_true c]
  · rw [if_pos ((z_le h2).mpr (by omega)), decide_eq_false c]
theorem q_nothing {a b : Nat} (h1 : a < 4294967296) (h2 : b < 4294967296) : p_X5_isNothing (lN a) (lN b) = some (decide (a = 0 ∧ b = 0)) := by
  unfold p_X5_isNothing
  by_cases c : a = 0
  · rw [if_pos ((z_eq h1).mpr c)]
    by_cases d : b = 0
    · rw [if_pos ((z_eq h2).mpr d), decide_eq_true ⟨c, d⟩]
    · rw [if_neg (fun h => d ((z_eq h2).mp h)), decide_eq_false (fun h => d h.2)]
  · rw [if_neg (fun h => c ((z_eq h1).mp h)), decide_eq_false (fun h => c h.1)]
theorem q_usable {a b : Nat} (h1 : a < 4294967296) (h2 : b < 4294967296) : p_X5_isUsable (lN a) (lN b) = some (decide (0 < b ∧ a ≤ 65535 ∧ b ≤ 65535)) := by
  unfold p_X5_isUsable
  rw [q_proper h1 h2, ob_s]
  by_cases c : 0 < b
  · rw [if_pos (decide_eq_true c)]
    by_cases d : 65535 < a
    · rw [if_pos ((z_big h1).mpr d), decide_eq_false (fun h => by omega)]
    · rw [if_neg (fun h => d ((z_big h1).mp h))]
      by_cases d2 : 65535 < b
      · rw [if_pos ((z_big h2).mpr d2), decide_eq_false (fun h => by omega)]
      · rw [if_neg (fun h => d2 ((z_big h2).mp h)), decide_eq_true (by omega)]
  · rw [if_neg (by simpa using c), decide_eq_false (fun h => c h.1)]
theorem q_limit {a b : Nat} (h1 : a < 4294967296) (h2 : b < 4294967296) : p_X5_isLimit (lN a) (lN b) = some (decide ((a = 0 ∧ b = 0) ∨ (0 < b ∧ a ≤ 65535 ∧ b ≤ 65535))) := by
  unfold p_X5_isLimit
  rw [q_nothing h1 h2, ob_s, q_usable h1 h2, ob_s]
  by_cases c : a = 0 ∧ b = 0
  · rw [if_pos (decide_eq_true c), decide_eq_true (Or.inl c)]
  · rw [if_neg (by simpa using c)]
    by_cases d : 0 < b ∧ a ≤ 65535 ∧ b ≤ 65535
    · rw [if_pos (decide_eq_true d), decide_eq_true (Or.inr d)]
    · rw [if_neg (by rw [decide_eq_true_iff]; exact d), decide_eq_false (fun h => h.elim c d)]
def fin (s0 : Int64) (z : Int64 × Int64) : Option Int64 := (p_X5_isProper z.1 z.2).bind (fun z226 => if z226 = true then ((p_X5_of z.1 z.2 s0).bind (fun z236 => some (z236))) else (some ((-2))))
theorem fin_ok {a b : Nat} (s0 : Int64) (h1 : a < 4294967296) (h2 : b < 4294967296) (h3 : 0 < b) : fin s0 (lN a, lN b) = some (s0 * lN a / lN b) := by
  unfold fin
  show (p_X5_isProper (lN a) (lN b)).bind _ = _
  rw [q_proper h1 h2, ob_s, if_pos (decide_eq_true h3)]
  show (p_X5_of (lN a) (lN b) s0).bind _ = _
  unfold p_X5_of
  rw [if_neg (fun h => by have := (z_le h2).mp h; omega), if_pos (fun h => by have := (z_eq h2).mp h; omega)]
  rfl
section SW
variable {fu : Nat} {d_f : Nat → Int8} {m_d : Nat → Int32} {o l L q x y : Nat}
variable {m_c m_e : Int32} {m_k m_s m_u : Nat → Int32} {m_n : Nat → Int64} {m_m : Nat → Int32} {a1 : Int64} {a5 : Int32}
/-- the value i of the row, as both read it -/
theorem mul_lt {a b : Nat} (h1 : a ≤ 65535) (h2 : b ≤ 65535) : a * b < 4294967296 := by
  have h3 : a * b ≤ 65535 * 65535 := Nat.mul_le_mul h1 h2
  omega
theorem sc_end {u v w P V0 V1 V2 V3 V4 V5 : Nat} (W H : Int64) (s0 : Int64) (hs : s0 = if a5 = 0 then W else H) (hu : u ≤ 65535) (hP : P ≤ 65535) (hP0 : 0 < P) (b0 : V0 ≤ 65535) (b1 : V1 ≤ 65535) (b10 : 0 < V1) (b2 : V2 ≤ 65535) (b3 : V3 ≤ 65535) (b4 : V4 ≤ 65535) (b5 : V5 ≤ 65535) (l2 : 0 < V3 ∨ V2 = 0) (l4 : 0 < V5 ∨ V4 = 0) (qo ql : Int32) (x2 x3 x4 : Int32) : ∃ r, (p_X8_ratioOn_128 fu 12000 qo ql d_f x2 x3 x4 (lN V0) (lN V1) (lN V2) (lN V3) (lN V4) (lN V5) (lN u) (lN P)).bind (fin s0) = some r ∧ p_X10_scaled_462 fu m_c m_e m_d m_k m_s m_u m_n m_m a1 x3 x4 a5 W H (lN V1) (lN V2) (lN V3) (lN V4) (lN V5) (lN u * lN V0) (lN P) = some r := by
  have g1 := mul_lt hu b0
  have g2 := mul_lt hP b1
  have g3 : 0 < P * V1 := Nat.mul_pos hP0 b10
  have e1 : lN u * lN V0 = lN (u * V0) := lN_mul u V0
  have e2 : lN P * lN V1 = lN (P * V1) := lN_mul P V1
  unfold p_X8_ratioOn_128 p_X10_scaled_462 p_X8_ratioOn_160 p_X10_scaled_499 p_X5_times p_X5_init
  rw [ob_s, ob_s, e1, e2]
  rw [q_nothing (show V2 < 4294967296 by omega) (show V3 < 4294967296 by omega), ob_s, q_nothing (show V4 < 4294967296 by omega) (show V5 < 4294967296 by omega), ob_s]
  have kR : ∀ a b : Nat, a < 4294967296 → b < 4294967296 → 0 < b → ((some (lN a, lN b) : Option (Int64 × Int64)).bind (fin s0) = some (s0 * lN a / lN b)) ∧ ((if a5 = 0 then (if ¬ lN b = 0 then (some ((W * lN a) / lN b)) else none) else (if ¬ lN b = 0 then (some ((H * lN a) / lN b)) else none)) = some (s0 * lN a / lN b)) := by
    intro a b k1 k2 k3
    have k4 : ¬ lN b = 0 := fun h => by have := (z_eq k2).mp h; omega
    refine ⟨by rw [ob_s]; exact fin_ok s0 k1 k2 k3, ?_⟩
    rw [hs]
    by_cases c : a5 = 0
    · rw [if_pos c, if_pos k4, if_pos c]
    · rw [if_neg c, if_pos k4, if_neg c]
  have kA := kR (u * V0) (P * V1) g1 g2 g3
  -- the greatest, behind the least
  have k160 : ∃ r, (if decide (V4 = 0 ∧ V5 = 0) = true then (some (lN (u * V0), lN (P * V1))) else ((p_X5_isBelow (lN V4) (lN V5) (lN (u * V0)) (lN (P * V1))).bind (fun z172 => if z172 = true then (some (lN V4, lN V5)) else (some (lN (u * V0), lN (P * V1)))))).bind (fin s0) = some r ∧ (if lN V5 ≤ 0 then (if a5 = 0 then (if ¬ lN (P * V1) = 0 then (some (((W * lN (u * V0)) / lN (P * V1)))) else none) else (if ¬ lN (P * V1) = 0 then (some (((H * lN (u * V0)) / lN (P * V1)))) else none)) else (if (lN (u * V0) * lN V5) ≤ (lN V4 * lN (P * V1)) then (if a5 = 0 then (if ¬ lN (P * V1) = 0 then (some (((W * lN (u * V0)) / lN (P * V1)))) else none) else (if ¬ lN (P * V1) = 0 then (some (((H * lN (u * V0)) / lN (P * V1)))) else none)) else (if a5 = 0 then (if ¬ lN V5 = 0 then (some (((W * lN V4) / lN V5))) else none) else (if ¬ lN V5 = 0 then (some (((H * lN V4) / lN V5))) else none)))) = some r := by
    by_cases c1 : V5 = 0
    · have c2 : V4 = 0 := by omega
      rw [if_pos (decide_eq_true ⟨c2, c1⟩), if_pos ((z_le (by omega)).mpr c1)]
      exact ⟨_, kA.1, kA.2⟩
    · rw [if_neg (show ¬ decide (V4 = 0 ∧ V5 = 0) = true by rw [decide_eq_true_iff]; omega), if_neg (fun h => c1 ((z_le (by omega)).mp h))]
      unfold p_X5_isBelow
      by_cases c3 : (lN (u * V0) * lN V5) ≤ (lN V4 * lN (P * V1))
      · rw [if_pos c3, if_pos c3, ob_s, if_neg (by decide)]
        exact ⟨_, kA.1, kA.2⟩
      · rw [if_neg c3, if_neg c3, ob_s, if_pos rfl]
        have kB := kR V4 V5 (by omega) (by omega) (by omega)
        exact ⟨_, kB.1, kB.2⟩
  by_cases d1 : V3 = 0
  · have d2 : V2 = 0 := by omega
    rw [if_pos (decide_eq_true ⟨d2, d1⟩), if_pos ((z_le (show V3 < 4294967296 by omega)).mpr d1)]
    exact k160
  · rw [if_neg (show ¬ decide (V2 = 0 ∧ V3 = 0) = true by rw [decide_eq_true_iff]; omega), if_neg (show ¬ lN V3 ≤ 0 from fun h => d1 ((z_le (by omega)).mp h))]
    unfold p_X5_isBelow at *
    by_cases d3 : (lN V2 * lN (P * V1)) ≤ (lN (u * V0) * lN V3)
    · rw [if_pos d3, if_pos d3, ob_s, if_neg (by decide)]
      exact k160
    · rw [if_neg d3, if_neg d3, ob_s, if_pos rfl]
      have kB := kR V2 V3 (by omega) (by omega) (by omega)
      exact ⟨_, kB.1, kB.2⟩
end SW
