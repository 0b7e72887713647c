/-! octets and numbers -/
def oc (b : Int8) : Nat := b.toBitVec.toNat
def oF (f : Nat → Int8) : Nat → Nat := fun j => oc (f j)
def rv (F : Nat → Nat) (p : Nat) : Nat → Nat
  | 0 => 0
  | k + 1 => rv F p k * 256 + F (p + k)
theorem oc_lt (b : Int8) : oc b < 256 := b.toBitVec.isLt
theorem oF_lt (f : Nat → Int8) (j : Nat) : oF f j < 256 := oc_lt (f j)
theorem oc_tab : ∀ n, n < 256 → Int8.toInt32 (Int8.ofNat n) &&& 255 = nI n := by decide +kernel
theorem oc_self (b : Int8) : b = Int8.ofNat (oc b) := Int8.toBitVec_inj.mp (by show _ = BitVec.ofNat 8 _; simp [oc])
theorem oc_and (b : Int8) : Int8.toInt32 b &&& 255 = nI (oc b) := by
  have h1 := oc_tab (oc b) (oc_lt b)
  rw [← oc_self b] at h1
  exact h1
theorem rv_lt {F : Nat → Nat} (hF : ∀ j, F j < 256) (p : Nat) : ∀ k, rv F p k < 256 ^ k := by
  intro k
  induction k with
  | zero => simp [rv]
  | succ k ih =>
    have h1 := hF (p + k)
    rw [rv, Nat.pow_succ]
    omega
theorem rv4_lt {F : Nat → Nat} (hF : ∀ j, F j < 256) (p : Nat) : rv F p 4 < 4294967296 := rv_lt hF p 4
theorem rv2_lt {F : Nat → Nat} (hF : ∀ j, F j < 256) (p : Nat) : rv F p 2 < 65536 := rv_lt hF p 2
theorem rv1 (F : Nat → Nat) (p : Nat) : rv F p 1 = F p := by simp [rv]
theorem rv_congr {F G : Nat → Nat} {p q : Nat} : ∀ k, (∀ j, j < k → F (p + j) = G (q + j)) → rv F p k = rv G q k := by
  intro k
  induction k with
  | zero => intro _; rfl
  | succ k ih =>
    intro h1
    rw [rv, rv, ih (fun j hj => h1 j (by omega)), h1 k (by omega)]
theorem sh_or {a : Nat} (b : Int8) (h1 : a < 281474976710656) : (lN a <<< ((8 : Int32).toInt64 &&& 63)) ||| (Int32.toInt64 (Int8.toInt32 b &&& 255)) = lN (a * 256 + oc b) := by
  have h2 := oc_lt b
  rw [oc_and, nI_l (by omega)]
  have h3 : lN a <<< ((8 : Int32).toInt64 &&& 63) = lN (a * 2 ^ 8) := wb_shl a (k := 8) (by decide)
  rw [h3]
  exact g_or (k := 8) (p := 2 ^ 8) rfl h2 (by omega)
/-! comparisons of nI -/
theorem ix_t {x : Int32} {n : Nat} (k : Nat) (h1 : x = nI k) (h2 : k < n) (h3 : n < 2147483648) : ix x n = true := by
  subst h1
  exact decide_eq_true (nI_in h2 h3)
theorem ix_f {x : Int32} {n : Nat} (h1 : ix x n = true) (h2 : n < 2147483648) : ∃ k, k < n ∧ x = nI k := vp_in_of (ix_in h1) h2
theorem cl_nI {x : Int32} (k : Nat) (h1 : x = nI k) (h2 : k < 2147483648) : Int32.toNatClampNeg x = k := by
  subst h1
  exact nI_clamp h2
theorem i64_lt (x y : Int32) : Int32.toInt64 x < Int32.toInt64 y ↔ x < y := by
  rw [Int64.lt_iff_toInt_lt, Int32.lt_iff_toInt_lt, Int32.toInt_toInt64, Int32.toInt_toInt64]
theorem i64_le (x y : Int32) : Int32.toInt64 x ≤ Int32.toInt64 y ↔ x ≤ y := by
  rw [Int64.le_iff_toInt_le, Int32.le_iff_toInt_le, Int32.toInt_toInt64, Int32.toInt_toInt64]
theorem i64_eq (x y : Int32) : Int32.toInt64 x = Int32.toInt64 y ↔ x = y := by
  rw [← Int64.toInt_inj, ← Int32.toInt_inj, Int32.toInt_toInt64, Int32.toInt_toInt64]
theorem sub_lt_iff {a b c : Nat} (h1 : a < 1073741824) (h2 : b < 1073741824) (h3 : c < 1073741824) : nI a - nI b < nI c ↔ a < c + b := by
  rw [Int32.lt_iff_toInt_lt, pk_sub_toInt h1 h2, nI_toInt (by omega)]
  omega
theorem sub_le_iff {a b c : Nat} (h1 : a < 1073741824) (h2 : b < 1073741824) (h3 : c < 1073741824) : nI a - nI b ≤ nI c ↔ a ≤ c + b := by
  rw [Int32.le_iff_toInt_le, pk_sub_toInt h1 h2, nI_toInt (by omega)]
  omega
theorem le_sub_iff {a b c : Nat} (h1 : a < 1073741824) (h2 : b < 1073741824) (h3 : c < 1073741824) : nI c ≤ nI a - nI b ↔ c + b ≤ a := by
  rw [Int32.le_iff_toInt_le, pk_sub_toInt h1 h2, nI_toInt (by omega)]
  omega
/-! a row's parts -/
theorem q_room {l n : Nat} (h1 : l ≤ n) : p_X6_room n (nI l) = some (nI (n - l)) := by
  unfold p_X6_room
  rw [pk_sub h1]
theorem q_keep {l n : Nat} (h1 : n ≤ l) (h2 : l < 2147483648) : p_X6_keep (nI l) (nI n) = some (nI n) := by
  unfold p_X6_keep
  rw [if_neg (nI_pos (by omega)), if_neg (nI_nlt h1 h2)]
theorem q_part {a o l : Nat} {x y : Int32} (h1 : x = nI o) (h2 : y = nI l) (h3 : o + l ≤ a) (h4 : a < 1073741824) : p_X3_init (nI a) x y = some (nI o, nI l) := by
  subst h1 h2
  unfold p_X3_init
  rw [if_neg (nI_pos (by omega)), if_neg (nI_pos (by omega)), if_neg]
  rw [sub_lt_iff (by omega) (by omega) (by omega)]
  omega
theorem q_whole {a : Nat} (h4 : a < 1073741824) : p_X6_whole (nI a) = some (nI 0, nI a) := by
  unfold p_X6_whole
  rw [q_part (x := 0) (y := nI a) (o := 0) (l := a) rfl rfl (by omega) h4]
  rfl
theorem q_holds {l i n : Nat} {x y : Int32} (h1 : x = nI i) (h2 : y = nI n) (h3 : l < 1073741824) (h4 : i < 1073741824) (h5 : n < 1073741824) : p_X3_holds (nI l) x y = some (decide (i + n ≤ l)) := by
  subst h1 h2
  unfold p_X3_holds
  rw [if_neg (nI_pos (by omega))]
  have h6 := sub_lt_iff (a := l) (b := n) (c := i) h3 h5 h4
  by_cases h7 : i + n ≤ l
  · rw [if_neg (by rw [h6]; omega), decide_eq_true h7]
  · rw [if_pos (by rw [h6]; omega), decide_eq_false h7]
theorem q_number_loop (fu n : Nat) (f : Nat → Int8) {o i k : Nat} {a1 a2 q_o q_l : Int32} (h1 : q_o = nI o) (h2 : a1 = nI i) (h3 : a2 = nI k) (h4 : o + i + k ≤ n) (h5 : n < 2147483648) (h6 : k ≤ 4) : ∀ (fn j : Nat), j ≤ k → k < fn + j → p_X3_number_18 fu n q_o q_l f a1 a2 fn (lN (rv (oF f) (o + i) j)) (nI j) = some (lN (rv (oF f) (o + i) k)) := by
  subst h1 h2 h3
  intro fn
  induction fn with
  | zero => intro j h7 h8; omega
  | succ fn ih =>
    intro j h7 h8
    rw [p_X3_number_18]
    by_cases h9 : j = k
    · subst h9
      rw [if_pos (nI_le (Nat.le_refl _) (by omega))]
    · have e1 : (nI o + nI i) + nI j = nI (o + i + j) := by rw [nI_add, nI_add]
      rw [if_neg (nI_ge (by omega) (by omega)), if_pos (ix_t (o + i + j) e1 (by omega) h5), cl_nI (o + i + j) e1 (by omega)]
      have h10 : rv (oF f) (o + i) j < 281474976710656 := by
        have h11 := rv_lt (oF_lt f) (o + i) j
        have h12 : 256 ^ j ≤ 256 ^ 4 := Nat.pow_le_pow_right (by decide) (by omega)
        omega
      rw [sh_or _ h10, nI_1]
      exact ih (j + 1) (by omega) (by omega)
theorem q_number {fu n : Nat} (f : Nat → Int8) {o l i k : Nat} {x y : Int32} (h2 : x = nI i) (h3 : y = nI k) (h4 : o + l ≤ n) (h5 : n < 1073741824) (h6 : k ≤ 4) (h7 : i < 1073741824) (h8 : 5 ≤ fu) : p_X3_number fu n (nI o) (nI l) f x y = some (if i + k ≤ l then lN (rv (oF f) (o + i) k) else (-1)) := by
  unfold p_X3_number
  rw [q_holds h2 h3 (by omega) h7 (by omega)]
  show (if decide (i + k ≤ l) = true then _ else _) = _
  by_cases h9 : i + k ≤ l
  · rw [if_pos (decide_eq_true h9), if_pos h9]
    exact q_number_loop fu n f rfl h2 h3 (by omega) (by omega) h6 fu 0 (by omega) (by omega)
  · rw [if_neg (by simpa using h9), if_neg h9]
theorem q_u4 {fu n : Nat} (f : Nat → Int8) {o l i : Nat} {x : Int32} (h2 : x = nI i) (h4 : o + l ≤ n) (h5 : n < 1073741824) (h7 : i < 1073741824) (h8 : 5 ≤ fu) : p_X3_u4 fu n (nI o) (nI l) f x = some (if i + 4 ≤ l then lN (rv (oF f) (o + i) 4) else (-1)) := by
  unfold p_X3_u4
  rw [q_number (y := 4) (k := 4) f h2 rfl h4 h5 (by omega) h7 h8]
  rfl
theorem q_u2 {fu n : Nat} (f : Nat → Int8) {o l i : Nat} {x : Int32} (h2 : x = nI i) (h4 : o + l ≤ n) (h5 : n < 1073741824) (h7 : i < 1073741824) (h8 : 5 ≤ fu) : p_X3_u2 fu n (nI o) (nI l) f x = some (if i + 2 ≤ l then nI (rv (oF f) (o + i) 2) else (-1)) := by
  unfold p_X3_u2
  rw [q_number (y := 2) (k := 2) f h2 rfl h4 h5 (by omega) h7 h8]
  show some _ = some _
  by_cases h9 : i + 2 ≤ l
  · rw [if_pos h9, if_pos h9, lN_i]
  · rw [if_neg h9, if_neg h9]; rfl
theorem q_at {fu n : Nat} (f : Nat → Int8) {o l i : Nat} {x : Int32} (h2 : x = nI i) (h4 : o + l ≤ n) (h5 : n < 1073741824) (h7 : i < 1073741824) (h8 : 5 ≤ fu) : p_X3_at fu n (nI o) (nI l) f x = some (if i + 1 ≤ l then nI (oc (f (o + i))) else (-1)) := by
  unfold p_X3_at
  rw [q_number (y := 1) (k := 1) f h2 rfl h4 h5 (by omega) h7 h8]
  show some _ = some _
  by_cases h9 : i + 1 ≤ l
  · rw [if_pos h9, if_pos h9, lN_i, rv1]; rfl
  · rw [if_neg h9, if_neg h9]; rfl
