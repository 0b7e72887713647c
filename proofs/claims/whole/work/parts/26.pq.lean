/-! read: the pieces -/
def bh (F : Nat → Nat) (p : Nat) : Nat := p + 8 + rv F (p + 4) 4 + rv F (p + 4) 4 % 2
def pp (F : Nat → Nat) : Nat → Nat
  | 0 => 12
  | k + 1 => bh F (pp F k)
theorem bh_le (F : Nat → Nat) (p : Nat) : p + 8 ≤ bh F p := by
  unfold bh
  omega
theorem pp_ge (F : Nat → Nat) : ∀ k, 12 + 8 * k ≤ pp F k := by
  intro k
  induction k with
  | zero => exact Nat.le_refl 12
  | succ k ih =>
    have := bh_le F (pp F k)
    show 12 + 8 * (k + 1) ≤ bh F (pp F k)
    omega
theorem pp_lt (F : Nat → Nat) : ∀ d i, pp F i < pp F (i + d + 1) := by
  intro d
  induction d with
  | zero =>
    intro i
    have := bh_le F (pp F i)
    show pp F i < bh F (pp F i)
    omega
  | succ d ih =>
    intro i
    have h1 := ih i
    have h2 := bh_le F (pp F (i + d + 1))
    show pp F i < bh F (pp F (i + d + 1))
    omega
theorem pp_mono (F : Nat → Nat) {i j : Nat} (h : i ≤ j) : pp F i ≤ pp F j := by
  by_cases c : i = j
  · rw [c]
    exact Nat.le_refl _
  · have := pp_lt F (j - i - 1) i
    rw [show i + (j - i - 1) + 1 = j by omega] at this
    omega
theorem pp_inj (F : Nat → Nat) {i j : Nat} (h : pp F i = pp F j) : i = j := by
  by_cases c : i < j
  · have := pp_lt F (j - i - 1) i
    rw [show i + (j - i - 1) + 1 = j by omega] at this
    omega
  · by_cases c2 : j < i
    · have := pp_lt F (i - j - 1) j
      rw [show j + (i - j - 1) + 1 = i by omega] at this
      omega
    · omega
section RD
variable {fu n : Nat} {t_f : Nat → Int8} {m_t : Nat → Int32}
theorem r_u4 {i : Nat} {x : Int32} (hfu : 20000 ≤ fu) (hn : n ≤ 6000) (h1 : x = nI i) (h2 : i + 4 ≤ n) : p_X3_u4 fu 6000 (nI 0) (nI n) t_f x = some (lN (rv (oF t_f) i 4)) := by
  rw [q_u4 t_f h1 (by omega) (by decide) (by omega) (by omega), if_pos h2, Nat.zero_add]
theorem r_four {i : Nat} {x : Int32} (hn : n ≤ 6000) (hm : mr m_t t_f n) (h1 : x = nI i) (h2 : i + 4 ≤ n) : p_X10_four 6000 m_t x = some (lN (rv (oF t_f) i 4)) := q_four h1 hm h2 hn (by decide)
theorem r_kind {i : Nat} {x : Int32} (hn : n ≤ 6000) (hm : mr m_t t_f n) (h1 : x = nI i) (h2 : i + 4 ≤ n) : p_X10_kindIn 6000 m_t x = some (nI (rv (oF t_f) i 4)) := q_kindIn h1 hm h2 hn (by decide)
theorem stop_n {fa f : Int32} (x y : Int32) (hf : ¬ f = 0) : p_X10_stop fa f x y = some (fa, f) := by
  unfold p_X10_stop
  rw [if_neg hf]
theorem stop_0 (fa x y : Int32) : p_X10_stop fa 0 x y = some (y, x) := by
  unfold p_X10_stop
  rw [if_pos rfl]
theorem pt_fault {a : Nat} {av fv mp is : Int32} {W : Nat → Int32} (hn : n ≤ 6000) (hm : mr m_t t_f n) (h1 : a + 8 ≤ n) (hf : ¬ fv = 0) : p_X10_piece_82 (nI n) m_t (nI a) av fv mp is W = some (nI a, av, fv, mp, is, W) := by
  have e1 : ∀ v3 v5, p_X10_piece_128 (nI n) m_t (nI a) v3 v5 av fv mp is W = some (nI a, av, fv, mp, is, W) := fun v3 v5 => by
    unfold p_X10_piece_128 p_X10_piece_168
    rw [if_neg hf, if_neg hf]
  unfold p_X10_piece_82
  rw [r_four (x := nI a + 4) (i := a + 4) hn hm (nI_add a 4) (by omega), ob_s]
  split
  · exact e1 _ _
  · rw [stop_n _ _ hf]
    exact e1 _ _
theorem pt_60 {a : Nat} {fa mp is : Int32} {W : Nat → Int32} (hn : n ≤ 6000) (hm : mr m_t t_f n) (h1 : a + 8 ≤ n) : p_X10_piece_60 (nI n) m_t (nI a) fa 0 mp is W = some (nI a, nI a, 2, mp, is, W) := by
  unfold p_X10_piece_60
  rw [stop_0, ob_s]
  split
  · rw [stop_n (fa := nI a) (f := 2) _ _ (by decide)]
    exact pt_fault hn hm h1 (show ¬ (2 : Int32) = 0 by decide)
  · exact pt_fault hn hm h1 (show ¬ (2 : Int32) = 0 by decide)
theorem pt_ok {a m : Nat} (x j_a fa mp is : Int32) (W : Nat → Int32) (hfu : 20000 ≤ fu) (hn : n ≤ 6000) (hm : mr m_t t_f n) (h1 : a + 8 ≤ n) (hm60 : m < 60) : (∃ fv av, ¬ fv = 0 ∧ p_X1_faultOfPiece_60 fu 6000 (nI m) (nI 0) (nI n) t_f (nI a) x x j_a = some (fv, av) ∧ p_X10_piece_82 (nI n) m_t (nI a) fa 0 mp is W = some (nI a, av, fv, mp, is, W)) ∨ (p_X1_faultOfPiece_60 fu 6000 (nI m) (nI 0) (nI n) t_f (nI a) x x j_a = some (0, j_a) ∧ bh (oF t_f) a ≤ n ∧ p_X10_piece_82 (nI n) m_t (nI a) fa 0 mp is W = p_X10_piece_168 (nI n) m_t (nI a) (lN (rv (oF t_f) (a + 4) 4)) (lN (bh (oF t_f) a)) fa 0 mp is W) := by
  unfold p_X1_faultOfPiece_60 p_X10_piece_82
  rw [if_pos rfl, if_pos (show nI m < 60 from nI_lt (b := 60) hm60 (by decide)), r_u4 (x := nI a + 4) (i := a + 4) hfu hn (nI_add a 4) (by omega), r_four (x := nI a + 4) (i := a + 4) hn hm (nI_add a 4) (by omega), ob_s, ob_s]
  have hb : bh (oF t_f) a = a + 8 + rv (oF t_f) (a + 4) 4 + rv (oF t_f) (a + 4) 4 % 2 := rfl
  rw [hb]
  have g1 := rv4_lt (oF_lt t_f) (a + 4)
  generalize hL : rv (oF t_f) (a + 4) 4 = L at g1
  have e9 : lN L &&& 1 = lN (L % 2) := wb_a1 (by omega)
  have e10 : lN L - lN L / 2 * 2 = lN (L % 2) := pk_lRem (b := 2) (by omega) (by decide) (by decide)
  have e12 : nI n - nI a - 8 = nI (n - a - 8) := by
    rw [pk_sub (by omega)]
    exact pk_sub (a := n - a) (b := 8) (by omega)
  have e13 : Int32.toInt64 (nI a) + 8 + lN L + lN (L % 2) = lN (a + 8 + L + L % 2) := by
    rw [nI_l (n := a) (by omega)]
    have e14 : lN a + 8 = lN (a + 8) := lN_add a 8
    rw [e14, lN_add, lN_add]
  have e15 : nI a + 8 + (lN L).toInt32 = nI (a + 8 + L) := by
    have e16 : nI a + 8 = nI (a + 8) := nI_add a 8
    rw [lN_i, e16, nI_add]
  rw [e9, e10, e12, e13, e15, lN_add, nI_l (n := n - a - 8) (by omega), nI_l (n := n) (by omega)]
  by_cases c3 : L + L % 2 ≤ n - a - 8
  · rw [if_pos ((pk_lLE (by omega) (by omega)).mpr c3), if_pos ((pk_lLE (by omega) (by omega)).mpr (show a + 8 + L + L % 2 ≤ n by omega))]
    unfold p_X10_piece_128
    rw [if_pos rfl, e10]
    rcases Nat.mod_two_eq_zero_or_one L with c4 | c4
    · rw [c4, if_neg (by decide), if_neg (by decide)]
      exact Or.inr ⟨rfl, by omega, rfl⟩
    · have e17 : (lN (a + 8 + L + L % 2)).toInt32 - 1 = nI (a + 8 + L) := by rw [lN_i, c4, nI_pred]
      rw [e17, if_pos (ix_t (a + 8 + L) rfl (by omega) (by decide)), cl_nI (a + 8 + L) rfl (by omega), q_at (i := a + 8 + L) t_f rfl (by omega) (by decide) (by omega) (by omega), if_pos (show a + 8 + L + 1 ≤ n by omega), Nat.zero_add, hm (a + 8 + L) (by omega), c4, if_pos (show lN 1 = 1 from rfl), if_pos (show lN 1 = 1 from rfl), ob_s]
      by_cases c5 : nI (oc (t_f (a + 8 + L))) = 0
      · rw [if_pos c5, if_pos c5]
        exact Or.inr ⟨rfl, by omega, rfl⟩
      · rw [if_neg c5, if_neg c5, stop_0, ob_s]
        exact Or.inl ⟨5, _, by decide, rfl, rfl⟩
  · rw [if_neg (fun h => c3 ((pk_lLE (by omega) (by omega)).mp h)), if_neg (show ¬ lN (a + 8 + L + L % 2) ≤ lN n from fun h => by have := (pk_lLE (by omega) (by omega)).mp h; omega), stop_0, ob_s]
    exact Or.inl ⟨4, _, by decide, rfl, rfl⟩
theorem q_piece {a m : Nat} {mp : Int32} (j_a fa is : Int32) (W : Nat → Int32) (hfu : 20000 ≤ fu) (hn : n ≤ 6000) (hm : mr m_t t_f n) (ha : a ≤ n ∨ a = 12) (hi : (mp = (-1) ∧ a = 12 ∧ m = 0) ∨ (mp = nI m ∧ 12 < a ∧ m ≤ 60)) : (∃ fv av, ¬ fv = 0 ∧ p_X1_faultOfPiece fu 6000 (nI m) j_a (nI 0) (nI n) t_f (nI a) = some (fv, av) ∧ p_X10_piece (nI n) fa 0 mp is m_t W (nI a) = some (nI a, av, fv, mp, is, W)) ∨ (m < 60 ∧ p_X1_faultOfPiece fu 6000 (nI m) j_a (nI 0) (nI n) t_f (nI a) = some (0, j_a) ∧ bh (oF t_f) a ≤ n ∧ p_X10_piece (nI n) fa 0 mp is m_t W (nI a) = p_X10_piece_168 (nI n) m_t (nI a) (lN (rv (oF t_f) (a + 4) 4)) (lN (bh (oF t_f) a)) fa 0 mp is W) := by
  have e8 : nI a + 8 = nI (a + 8) := nI_add a 8
  unfold p_X1_faultOfPiece p_X10_piece
  rw [q_holds (y := 8) (n := 8) rfl rfl (by omega) (by omega) (by decide), ob_s, e8]
  by_cases c0 : a + 8 ≤ n
  · rw [if_pos (decide_eq_true c0), if_pos (nI_le c0 (by omega)), r_u4 hfu hn rfl (by omega), r_kind hn hm rfl (by omega), ob_s, ob_s, lN_i]
    generalize nI (rv (oF t_f) a 4) = kd
    unfold p_X1_faultOfPiece_38
    have hR : p_X2_isKind 1380541560 = some true := by decide +kernel
    obtain ⟨k1, b, k2⟩ := q_isKind kd
    rcases hi with ⟨i1, i2, i3⟩ | ⟨i1, i2, i3⟩
    · subst i1 i2 i3
      rw [if_neg (show ¬ (0 : Int32) ≤ -1 by decide), if_neg (show ¬ (-1 : Int32) = 60 by decide)]
      by_cases c1 : kd = 1380541560
      · subst c1
        rw [if_pos rfl, if_pos rfl, hR, ob_s, if_pos rfl, if_pos (show nI 12 = 12 from rfl)]
        rcases pt_ok (a := 12) (m := 0) 1 j_a fa (-1) is W hfu hn hm c0 (by omega) with ⟨fv, av, s1, s2, s3⟩ | ⟨s1, s2, s3⟩
        · exact Or.inl ⟨fv, av, s1, s2, s3⟩
        · exact Or.inr ⟨by omega, s1, s2, s3⟩
      · rw [if_neg c1, if_neg c1, k1, k2, ob_s, pt_60 hn hm c0, if_pos (show nI 12 = 12 from rfl)]
        refine Or.inl ⟨2, _, by decide, ?_, rfl⟩
        cases b with
        | false => rw [if_neg (by decide)]; rfl
        | true =>
          rw [if_pos rfl]
          unfold p_X1_faultOfPiece_60
          rw [if_neg (by decide)]
          rfl
    · subst i1
      have n12 : ¬ nI a = 12 := fun h => by have := (i_iff (K := 12) (k := 12) rfl (by omega) (by decide)).mp h; omega
      rw [if_pos (show (0 : Int32) ≤ nI m from nI_le (a := 0) (Nat.zero_le m) (by omega)), if_neg n12]
      by_cases c1 : kd = 1380541560
      · subst c1
        rw [if_pos rfl, if_pos rfl, hR, ob_s, if_pos rfl, pt_60 hn hm c0]
        refine Or.inl ⟨2, _, by decide, ?_, rfl⟩
        unfold p_X1_faultOfPiece_60
        rw [if_neg (by decide)]
        rfl
      · rw [if_neg c1, if_neg c1, k1, k2, ob_s, ob_s]
        cases b with
        | false =>
          rw [if_neg (by decide), if_neg (by decide), pt_60 hn hm c0]
          exact Or.inl ⟨2, _, by decide, rfl, rfl⟩
        | true =>
          rw [if_pos rfl, if_pos rfl, if_neg n12]
          by_cases c2 : m < 60
          · have n60 : ¬ nI m = 60 := fun h => by have := (i_iff (K := 60) (k := 60) rfl (by omega) (by decide)).mp h; omega
            rw [if_neg n60]
            rcases pt_ok (a := a) (m := m) 0 j_a fa (nI m) is W hfu hn hm c0 c2 with ⟨fv, av, s1, s2, s3⟩ | ⟨s1, s2, s3⟩
            · exact Or.inl ⟨fv, av, s1, s2, s3⟩
            · exact Or.inr ⟨c2, s1, s2, s3⟩
          · obtain rfl : m = 60 := by omega
            rw [if_pos (show nI 60 = 60 from rfl), stop_0, ob_s]
            refine Or.inl ⟨10, nI a, by decide, ?_, pt_fault hn hm c0 (show ¬ (10 : Int32) = 0 by decide)⟩
            unfold p_X1_faultOfPiece_60
            rw [if_pos rfl, if_neg (by decide)]
            rfl
  · rw [if_neg (show ¬ decide (a + 8 ≤ n) = true by rw [decide_eq_true_iff]; exact c0), if_neg (nI_ge (by omega) (by omega)), stop_0, ob_s]
    exact Or.inl ⟨1, _, by decide, rfl, rfl⟩
theorem go_f {fa f mp is : Int32} {W : Nat → Int32} (hfu : 20000 ≤ fu) (hf : ¬ f = 0) (v : Int32) : p_X10_goOver_126 fu (nI n) m_t fu v fa f mp is W = some (fa, f, mp, is, W) := by
  obtain ⟨k, rfl⟩ : ∃ k, fu = k + 1 := ⟨fu - 1, by omega⟩
  rw [p_X10_goOver_126, if_neg hf]
  unfold p_X10_goOver_185
  rw [if_neg hf, p_X10_goOver_208, if_pos (by decide)]
theorem r_behind {a : Nat} (hfu : 20000 ≤ fu) (hn : n ≤ 6000) (h1 : bh (oF t_f) a ≤ n) : p_X1_behindPiece fu 6000 (nI 0) (nI n) t_f (nI a) = some (nI (bh (oF t_f) a)) := by
  have h2 := bh_le (oF t_f) a
  have hb : bh (oF t_f) a = a + 8 + rv (oF t_f) (a + 4) 4 + rv (oF t_f) (a + 4) 4 % 2 := rfl
  unfold p_X1_behindPiece
  rw [r_u4 (x := nI a + 4) (i := a + 4) hfu hn (nI_add a 4) (by omega), ob_s, hb]
  rw [hb] at h1
  generalize rv (oF t_f) (a + 4) 4 = L at h1
  have e1 : nI L &&& 1 = nI (L % 2) := pk_andN (by omega) 1 (by decide)
  have e2 : nI a + 8 = nI (a + 8) := nI_add a 8
  rw [lN_i, e1, e2, nI_add, nI_add]
theorem pc_loop (j_a fa is : Int32) (hfu : 20000 ≤ fu) (hn : n ≤ 6000) (hm : mr m_t t_f n) : ∀ (d m fn fm : Nat) (P W : Nat → Int32), m + d = 60 → d + 2 < fn → d + 2 < fm → pp (oF t_f) (m + 1) ≤ n → (∀ i, i < m → P i = nI (pp (oF t_f) (i + 1)) ∧ W i = nI (pp (oF t_f) (i + 1))) → (∃ fv av jc P' mp W', ¬ fv = 0 ∧ p_X1_faultOfPieces_13 fu 6000 (nI 0) (nI n) t_f fn (nI (pp (oF t_f) m)) 0 (nI m) (nI m) j_a P = some (fv, jc, av, P') ∧ p_X10_goOver_93 fu (nI n) m_t fm (nI (pp (oF t_f) (m + 1))) fa 0 (nI m) is W = some (av, fv, mp, is, W')) ∨ (∃ m' P' W', m' ≤ 60 ∧ p_X1_faultOfPieces_13 fu 6000 (nI 0) (nI n) t_f fn (nI (pp (oF t_f) m)) 0 (nI m) (nI m) j_a P = some (0, nI m', j_a, P') ∧ p_X10_goOver_93 fu (nI n) m_t fm (nI (pp (oF t_f) (m + 1))) fa 0 (nI m) is W = p_X10_goOver_126 fu (nI n) m_t fu 0 fa 0 (nI m') is W' ∧ pp (oF t_f) (m' + 1) ≤ n ∧ (∀ i, i < m' → P' i = nI (pp (oF t_f) (i + 1)) ∧ W' i = nI (pp (oF t_f) (i + 1)))) := by
  intro d
  induction d with
  | zero =>
    intro m fn fm P W q1 q2 q3 q4 q5
    obtain ⟨fn, rfl⟩ : ∃ x, fn = x + 1 + 1 := ⟨fn - 2, by omega⟩
    obtain ⟨fm, rfl⟩ : ∃ x, fm = x + 1 + 1 := ⟨fm - 2, by omega⟩
    have hge := pp_ge (oF t_f) (m + 1)
    rw [p_X1_faultOfPieces_13, p_X10_goOver_93, if_neg (show ¬ (60 : Int32) < nI m from nI_nlt (a := 60) (by omega) (by decide)), if_pos rfl, if_pos rfl, r_behind hfu hn q4, ob_s]
    have hpp : bh (oF t_f) (pp (oF t_f) m) = pp (oF t_f) (m + 1) := rfl
    rw [hpp]
    have q4' := q4
    generalize pp (oF t_f) (m + 1) = a at q4 hge
    by_cases c0 : a < n
    · rw [if_pos (nI_lt c0 (by omega)), if_pos (nI_lt c0 (by omega))]
      rcases q_piece (a := a) (m := m) j_a fa is W hfu hn hm (Or.inl q4) (Or.inr ⟨rfl, by omega, by omega⟩) with ⟨fv, av, s1, s2, s3⟩ | ⟨s1, s2, s3, s4⟩
      · rw [s2, s3, ob_s, ob_s, if_neg s1, p_X1_faultOfPieces_13, p_X10_goOver_93, if_neg s1, if_neg s1, go_f hfu s1]
        refine Or.inl ⟨fv, av, nI m, P, nI m, W, s1, ?_, rfl⟩
        split
        · rfl
        · rfl
      · omega
    · rw [if_neg (nI_nlt (by omega) (by omega)), if_neg (nI_nlt (by omega) (by omega)), if_pos (show (0 : Int32) ≤ nI m from nI_le (a := 0) (Nat.zero_le m) (by omega))]
      exact Or.inr ⟨m, P, W, by omega, rfl, rfl, q4', q5⟩
  | succ d ih =>
    intro m fn fm P W q1 q2 q3 q4 q5
    obtain ⟨fn, rfl⟩ : ∃ x, fn = x + 1 + 1 := ⟨fn - 2, by omega⟩
    obtain ⟨fm, rfl⟩ : ∃ x, fm = x + 1 + 1 := ⟨fm - 2, by omega⟩
    have hge := pp_ge (oF t_f) (m + 1)
    have hi := ih (m + 1) (fn + 1) (fm + 1) (upd P m (nI (pp (oF t_f) (m + 1)))) (upd W m (nI (pp (oF t_f) (m + 1)))) (by omega) (by omega) (by omega)
    rw [p_X1_faultOfPieces_13, p_X10_goOver_93, if_neg (show ¬ (60 : Int32) < nI m from nI_nlt (a := 60) (by omega) (by decide)), if_pos rfl, if_pos rfl, r_behind hfu hn q4, ob_s]
    have hpp : bh (oF t_f) (pp (oF t_f) m) = pp (oF t_f) (m + 1) := rfl
    have hpq : bh (oF t_f) (pp (oF t_f) (m + 1)) = pp (oF t_f) (m + 1 + 1) := rfl
    rw [hpp]
    by_cases c0 : pp (oF t_f) (m + 1) < n
    · rw [if_pos (nI_lt c0 (by omega)), if_pos (nI_lt c0 (by omega))]
      rcases q_piece (a := pp (oF t_f) (m + 1)) (m := m) j_a fa is W hfu hn hm (Or.inl q4) (Or.inr ⟨rfl, by omega, by omega⟩) with ⟨fv, av, s1, s2, s3⟩ | ⟨s1, s2, s3, s4⟩
      · rw [s2, s3, ob_s, ob_s, if_neg s1, p_X1_faultOfPieces_13, p_X10_goOver_93, if_neg s1, if_neg s1, go_f hfu s1]
        refine Or.inl ⟨fv, av, nI m, P, nI m, W, s1, ?_, rfl⟩
        split
        · rfl
        · rfl
      · have s5 : p_X10_piece_168 (nI n) m_t (nI (pp (oF t_f) (m + 1))) (lN (rv (oF t_f) (pp (oF t_f) (m + 1) + 4) 4)) (lN (bh (oF t_f) (pp (oF t_f) (m + 1)))) fa 0 (nI m) is W = some (nI (pp (oF t_f) (m + 1 + 1)), fa, 0, nI (m + 1), is, upd W m (nI (pp (oF t_f) (m + 1)))) := by
          unfold p_X10_piece_168
          rw [if_pos rfl, if_pos (show (0 : Int32) ≤ nI m from nI_le (a := 0) (Nat.zero_le m) (by omega)), if_pos (ix_t m rfl (by omega) (by decide)), cl_nI m rfl (by omega), nI_1, lN_i, hpq]
        rw [s2, s4, s5, ob_s, ob_s, if_pos rfl, if_neg (show ¬ (60 : Int32) ≤ nI m from nI_ge (b := 60) (by omega) (by decide)), if_pos (ix_t m rfl (by omega) (by decide)), cl_nI m rfl (by omega), nI_1]
        rw [hpq] at s3
        refine hi s3 (fun i hi2 => ?_)
        by_cases c1 : i = m
        · rw [c1, pk_us, pk_us]
          exact ⟨rfl, rfl⟩
        · rw [pk_un c1, pk_un c1]
          exact q5 i (by omega)
    · rw [if_neg (nI_nlt (by omega) (by omega)), if_neg (nI_nlt (by omega) (by omega)), if_pos (show (0 : Int32) ≤ nI m from nI_le (a := 0) (Nat.zero_le m) (by omega))]
      exact Or.inr ⟨m, P, W, by omega, rfl, rfl, q4, q5⟩
end RD
