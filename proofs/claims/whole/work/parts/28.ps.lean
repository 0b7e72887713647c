/-! read: the whole judgement, then the move -/
section RF
variable {fu n m : Nat} {t_f : Nat → Int8} {m_t P W : Nat → Int32}
theorem go_g {fa f mp is : Int32} {W : Nat → Int32} (hfu : 20000 ≤ fu) (hf : ¬ f = 0) (fn : Nat) (v : Int32) : p_X10_goOver_126 fu (nI n) m_t (fn + 1) v fa f mp is W = some (fa, f, mp, is, W) := by
  obtain ⟨k, rfl⟩ : ∃ k, fu = k + 1 := ⟨fu - 1, by omega⟩
  rw [p_X10_goOver_126, if_neg hf]
  unfold p_X10_goOver_185
  rw [if_neg hf, p_X10_goOver_208, if_pos (by decide)]
theorem g93_f {fa f mp is v : Int32} {W : Nat → Int32} (hfu : 20000 ≤ fu) (hf : ¬ f = 0) : p_X10_goOver_93 fu (nI n) m_t fu v fa f mp is W = some (fa, f, mp, is, W) := by
  obtain ⟨k, rfl⟩ : ∃ k, fu = k + 1 := ⟨fu - 1, by omega⟩
  rw [p_X10_goOver_93, if_neg hf]
  exact go_f hfu hf 0
theorem g64_f {fa f mp is : Int32} {W : Nat → Int32} (hfu : 20000 ≤ fu) (hn : n ≤ 6000) (hm : mr m_t t_f n) (h12 : 12 ≤ n) (hf : ¬ f = 0) : p_X10_goOver_64 fu (nI n) m_t fa f mp is W = some (fa, f, -1, is, W) := by
  unfold p_X10_goOver_64
  rw [r_kind (x := 8) (i := 8) hn hm rfl (by omega), ob_s]
  split
  · exact g93_f hfu hf
  · rw [stop_n _ _ hf]
    exact g93_f hfu hf
theorem g38_f {fa f mp is : Int32} {W : Nat → Int32} (hfu : 20000 ≤ fu) (hn : n ≤ 6000) (hm : mr m_t t_f n) (h12 : 12 ≤ n) (hf : ¬ f = 0) : p_X10_goOver_38 fu (nI n) m_t fa f mp is W = some (fa, f, -1, is, W) := by
  unfold p_X10_goOver_38
  rw [r_four (x := 4) (i := 4) hn hm rfl (by omega), ob_s]
  split
  · exact g64_f hfu hn hm h12 hf
  · rw [stop_n _ _ hf]
    exact g64_f (mp := mp) hfu hn hm h12 hf
theorem head_all (mp0 is0 : Int32) (W0 : Nat → Int32) (hfu : 20000 ≤ fu) (hn : n ≤ 6000) (hm : mr m_t t_f n) : (∃ fv av mp is' W', ¬ fv = 0 ∧ p_X1_faultOfHead fu 6000 (-2) (nI 0) (nI n) t_f = some (fv, av) ∧ p_X10_goOver fu (nI n) (-2) 0 mp0 is0 m_t W0 = some (av, fv, mp, is', W')) ∨ (12 ≤ n ∧ p_X1_faultOfHead fu 6000 (-2) (nI 0) (nI n) t_f = some (0, -2) ∧ p_X10_goOver fu (nI n) (-2) 0 mp0 is0 m_t W0 = p_X10_goOver_93 fu (nI n) m_t fu 12 (-2) 0 (-1) is0 W0) := by
  unfold p_X1_faultOfHead p_X10_goOver
  by_cases c0 : 12 ≤ n
  · have z12 : (12 : Int32) ≤ nI n := nI_le (a := 12) c0 (by omega)
    rw [if_pos z12, if_pos z12, r_u4 (x := 0) (i := 0) hfu hn rfl (by omega), ob_s, r_kind (x := 0) (i := 0) hn hm rfl (by omega), ob_s]
    have s1 := l_iff (K := 1179603533) (k := 1179603533) (r := rv (oF t_f) 0 4) rfl (rv4_lt (oF_lt t_f) 0) (by decide)
    have s2 := i_iff (K := 1179603533) (k := 1179603533) (r := rv (oF t_f) 0 4) rfl (rv4_lt (oF_lt t_f) 0) (by decide)
    by_cases c1 : rv (oF t_f) 0 4 = 1179603533
    · rw [if_pos (s1.mpr c1), if_pos (s2.mpr c1), r_u4 (x := 4) (i := 4) hfu hn rfl (by omega), ob_s]
      unfold p_X10_goOver_38
      rw [r_four (x := 4) (i := 4) hn hm rfl (by omega), ob_s]
      by_cases c2 : lN (rv (oF t_f) 4 4) = Int32.toInt64 (nI n - 8)
      · rw [if_pos c2, if_pos c2, r_u4 (x := 8) (i := 8) hfu hn rfl (by omega), ob_s]
        unfold p_X10_goOver_64
        rw [r_kind (x := 8) (i := 8) hn hm rfl (by omega), ob_s]
        have s3 := l_iff (K := 1229345363) (k := 1229345363) (r := rv (oF t_f) 8 4) rfl (rv4_lt (oF_lt t_f) 8) (by decide)
        have s4 := i_iff (K := 1229345363) (k := 1229345363) (r := rv (oF t_f) 8 4) rfl (rv4_lt (oF_lt t_f) 8) (by decide)
        by_cases c3 : rv (oF t_f) 8 4 = 1229345363
        · rw [if_pos (s3.mpr c3), if_pos (s4.mpr c3)]
          exact Or.inr ⟨c0, rfl, rfl⟩
        · rw [if_neg (fun h => c3 (s3.mp h)), if_neg (fun h => c3 (s4.mp h)), stop_0, ob_s]
          exact Or.inl ⟨2, 8, _, _, _, by decide, rfl, g93_f hfu (show ¬ (2 : Int32) = 0 by decide)⟩
      · rw [if_neg c2, if_neg c2, stop_0, ob_s]
        exact Or.inl ⟨3, 4, _, _, _, by decide, rfl, g64_f (mp := mp0) hfu hn hm c0 (show ¬ (3 : Int32) = 0 by decide)⟩
    · rw [if_neg (fun h => c1 (s1.mp h)), if_neg (fun h => c1 (s2.mp h)), stop_0, ob_s]
      exact Or.inl ⟨2, 0, _, _, _, by decide, rfl, g38_f (mp := mp0) hfu hn hm c0 (show ¬ (2 : Int32) = 0 by decide)⟩
  · have z12 : ¬ (12 : Int32) ≤ nI n := nI_ge (b := 12) (by omega) (by decide)
    rw [if_neg z12, if_neg z12, stop_0, ob_s]
    exact Or.inl ⟨1, _, _, _, _, by decide, rfl, rfl⟩
theorem body_all (is0 : Int32) (j_p W0 : Nat → Int32) (hfu : 20000 ≤ fu) (hn : n ≤ 6000) (hm : mr m_t t_f n) : (∃ fv av jc P' mp is' W', ¬ fv = 0 ∧ p_X1_faultOfPieces fu 6000 0 (-2) j_p (nI 0) (nI n) t_f = some (fv, jc, av, P') ∧ p_X10_goOver_93 fu (nI n) m_t fu 12 (-2) 0 (-1) is0 W0 = some (av, fv, mp, is', W')) ∨ (∃ m' P' W', m' ≤ 60 ∧ p_X1_faultOfPieces fu 6000 0 (-2) j_p (nI 0) (nI n) t_f = some (0, nI m', -2, P') ∧ p_X10_goOver_93 fu (nI n) m_t fu 12 (-2) 0 (-1) is0 W0 = p_X10_goOver_126 fu (nI n) m_t fu 0 (-2) 0 (nI m') (nI (rv (oF t_f) 16 4)) W' ∧ pp (oF t_f) 1 ≤ n ∧ pp (oF t_f) (m' + 1) ≤ n ∧ (∀ i, i < m' → P' i = nI (pp (oF t_f) (i + 1)) ∧ W' i = nI (pp (oF t_f) (i + 1)))) := by
  have hq := q_piece (fu := fu) (a := 12) (m := 0) (mp := -1) (-2) (-2) is0 W0 hfu hn hm (Or.inr rfl) (Or.inl ⟨rfl, rfl, rfl⟩)
  obtain ⟨k, rfl⟩ : ∃ k, fu = k + 1 + 1 := ⟨fu - 2, by omega⟩
  unfold p_X1_faultOfPieces
  rw [p_X10_goOver_93, if_pos rfl, if_neg (show ¬ (0 : Int32) ≤ -1 by decide), ite_self]
  rcases hq with ⟨fv, av, s1, s2, s3⟩ | ⟨s1, s2, s3, s4⟩
  · have s2' : p_X1_faultOfPiece (k + 1 + 1) 6000 0 (-2) (nI 0) (nI n) t_f 12 = some (fv, av) := s2
    have s3' : p_X10_piece (nI n) (-2) 0 (-1) is0 m_t W0 12 = some (nI 12, av, fv, -1, is0, W0) := s3
    rw [s2', s3', ob_s, ob_s, p_X1_faultOfPieces_13, p_X10_goOver_93, if_neg (by decide), if_neg s1, if_neg s1, go_f hfu s1]
    exact Or.inl ⟨fv, av, _, _, _, _, _, s1, rfl, rfl⟩
  · have s2' : p_X1_faultOfPiece (k + 1 + 1) 6000 0 (-2) (nI 0) (nI n) t_f 12 = some (0, -2) := s2
    have s4' : p_X10_piece (nI n) (-2) 0 (-1) is0 m_t W0 12 = some (nI (pp (oF t_f) (0 + 1)), -2, 0, nI 0, nI (rv (oF t_f) 16 4), W0) := by
      have s5 : p_X10_piece (nI n) (-2) 0 (-1) is0 m_t W0 12 = _ := s4
      rw [s5]
      unfold p_X10_piece_168
      rw [if_pos rfl, if_neg (show ¬ (0 : Int32) ≤ -1 by decide), lN_i, lN_i]
      rfl
    have s3' : pp (oF t_f) (0 + 1) ≤ n := s3
    rw [s2', s4', ob_s, ob_s]
    rcases pc_loop (fu := k + 1 + 1) (-2) (-2) (nI (rv (oF t_f) 16 4)) hfu hn hm 60 0 (k + 1 + 1) (k + 1) j_p W0 (by omega) (by omega) (by omega) s3' (fun i hi => absurd hi (Nat.not_lt_zero i)) with ⟨fv, av, jc, P', mp, W', r1, r2, r3⟩ | ⟨m', P', W', r1, r2, r3, r4, r5⟩
    · exact Or.inl ⟨fv, av, jc, P', mp, _, W', r1, r2, r3⟩
    · exact Or.inr ⟨m', P', W', r1, r2, r3, s3', r4, r5⟩
theorem idx_all (hfu : 20000 ≤ fu) (hn : n ≤ 6000) (hm : mr m_t t_f n) (hm60 : m ≤ 60) (h1 : pp (oF t_f) 1 ≤ n) (hpp : pp (oF t_f) (m + 1) ≤ n) (hP : ∀ i, i < m → P i = nI (pp (oF t_f) (i + 1)) ∧ W i = nI (pp (oF t_f) (i + 1))) : (∃ fv av, ¬ fv = 0 ∧ p_X1_faultOfIndex fu 6000 (nI m) (-2) P (nI 0) (nI n) t_f = some (fv, av) ∧ p_X10_goOver_126 fu (nI n) m_t fu 0 (-2) 0 (nI m) (nI (rv (oF t_f) 16 4)) W = some (av, fv, nI m, nI (rv (oF t_f) 16 4), W)) ∨ (∃ cnt, cnt ≤ 40 ∧ 24 + 12 * cnt ≤ n ∧ rv (oF t_f) 20 4 = cnt ∧ (∀ i, i < cnt → EO (oF t_f) m i) ∧ p_X1_faultOfIndex fu 6000 (nI m) (-2) P (nI 0) (nI n) t_f = some (0, -2) ∧ p_X10_goOver_126 fu (nI n) m_t fu 0 (-2) 0 (nI m) (nI (rv (oF t_f) 16 4)) W = some (-2, 0, nI m, nI (4 + 12 * cnt), W)) := by
  have h1' : 12 + 8 + rv (oF t_f) 16 4 + rv (oF t_f) 16 4 % 2 ≤ n := h1
  obtain ⟨k, rfl⟩ : ∃ k, fu = k + 1 + 1 := ⟨fu - 2, by omega⟩
  unfold p_X1_faultOfIndex
  rw [p_X10_goOver_126, if_pos rfl, if_pos rfl, r_u4 (x := 16) (i := 16) hfu hn rfl (by omega), ob_s]
  generalize hL : rv (oF t_f) 16 4 = L at h1'
  have s1 : lN L < 4 ↔ L < 4 := pk_lLT (b := 4) (by omega) (by decide)
  by_cases c0 : L < 4
  · have c0' : nI L < 4 := nI_lt (b := 4) c0 (by decide)
    rw [if_pos (s1.mpr c0), if_pos c0', stop_0, ob_s, go_g hfu (show ¬ (6 : Int32) = 0 by decide)]
    exact Or.inl ⟨6, _, by decide, rfl, rfl⟩
  · have c0' : ¬ nI L < 4 := nI_nlt (b := 4) (by omega) (by omega)
    rw [if_neg (fun h => c0 (s1.mp h)), if_neg c0', r_u4 (x := 20) (i := 20) hfu hn rfl (by omega), ob_s, ob_s, r_four (x := 20) (i := 20) hn hm rfl (by omega), ob_s, nI_l (n := L) (by omega)]
    have g1 := rv4_lt (oF_lt t_f) 20
    generalize hC : rv (oF t_f) 20 4 = cnt at g1
    have e1 : (4 : Int64) + 12 * lN cnt = lN (4 + 12 * cnt) := by
      have e2 : (12 : Int64) * lN cnt = lN (12 * cnt) := lN_mul 12 cnt
      rw [e2]
      exact lN_add 4 _
    rw [e1]
    have s2 : lN L = lN (4 + 12 * cnt) ↔ L = 4 + 12 * cnt := pk_lEQ (by omega) (by omega)
    by_cases c1 : L = 4 + 12 * cnt
    · rw [if_pos (s2.mpr c1), if_pos (s2.mpr c1), p_X10_goOver_126, if_pos rfl, if_neg (by decide)]
      unfold p_X10_goOver_185
      have e3 : (nI L - 4) / 12 = nI cnt := by
        have e4 : nI L - 4 = nI (L - 4) := pk_sub (a := L) (b := 4) (by omega)
        rw [e4]
        have e5 : nI (L - 4) / 12 = nI ((L - 4) / 12) := pk_div (d := 12) (by omega) (by decide) (by decide)
        rw [e5]
        congr 1
        omega
      rw [if_pos rfl, e3]
      rcases ix_loop (fu := k + 1 + 1) (P := P) (W := W) (cnt := cnt) (-2) (-2) (nI L) hfu hn hm hm60 hpp hP (by omega) 40 0 (k + 1 + 1) (k + 1 + 1) (by omega) (by omega) (by omega) (by omega) (fun i hi => absurd hi (Nat.not_lt_zero i)) with ⟨fv, av, r1, r2, r3⟩ | ⟨r1, r2, r3, r4⟩
      · exact Or.inl ⟨fv, av, r1, r2, r3⟩
      · refine Or.inr ⟨cnt, r1, by omega, rfl, r2, r3, ?_⟩
        rw [c1] at r4
        rw [c1]
        exact r4
    · rw [if_neg (fun h => c1 (s2.mp h)), if_neg (fun h => c1 (s2.mp h)), stop_0, ob_s, go_g hfu (show ¬ (6 : Int32) = 0 by decide)]
      exact Or.inl ⟨6, _, by decide, rfl, rfl⟩
theorem go_all (j_c j_a mp0 is0 : Int32) (j_p W0 : Nat → Int32) (hfu : 20000 ≤ fu) (hn : n ≤ 6000) (hm : mr m_t t_f n) : (∃ fv av jc P' mp is' W', ¬ fv = 0 ∧ p_X1_faultOf fu 6000 j_c j_a j_p (nI 0) (nI n) t_f = some (fv, jc, av, P') ∧ p_X10_goOver fu (nI n) (-2) 0 mp0 is0 m_t W0 = some (av, fv, mp, is', W')) ∨ (∃ m cnt P' W', m ≤ 60 ∧ cnt ≤ 40 ∧ 24 + 12 * cnt ≤ n ∧ rv (oF t_f) 20 4 = cnt ∧ pp (oF t_f) (m + 1) ≤ n ∧ (∀ i, i < m → P' i = nI (pp (oF t_f) (i + 1)) ∧ W' i = nI (pp (oF t_f) (i + 1))) ∧ (∀ i, i < cnt → EO (oF t_f) m i) ∧ p_X1_faultOf fu 6000 j_c j_a j_p (nI 0) (nI n) t_f = some (0, nI m, -2, P') ∧ p_X10_goOver fu (nI n) (-2) 0 mp0 is0 m_t W0 = some (-2, 0, nI m, nI (4 + 12 * cnt), W')) := by
  unfold p_X1_faultOf
  rcases head_all (fu := fu) mp0 is0 W0 hfu hn hm with ⟨fv, av, mp, is', W', r1, r2, r3⟩ | ⟨r1, r2, r3⟩
  · rw [r2, ob_s, if_neg r1, if_neg r1]
    exact Or.inl ⟨fv, av, _, _, mp, is', W', r1, rfl, r3⟩
  · rw [r2, ob_s, if_pos rfl, r3]
    rcases body_all (fu := fu) is0 j_p W0 hfu hn hm with ⟨fv, av, jc, P', mp, is', W', s1, s2, s3⟩ | ⟨m', P', W', s1, s2, s3, s4, s5, s6⟩
    · rw [s2, ob_s, if_neg s1]
      exact Or.inl ⟨fv, av, _, _, mp, is', W', s1, rfl, s3⟩
    · rw [s2, ob_s, if_pos rfl, s3]
      rcases idx_all (fu := fu) (m := m') (P := P') (W := W') hfu hn hm s1 s4 s5 s6 with ⟨fv, av, u1, u2, u3⟩ | ⟨cnt, u1, u2, u3, u4, u5, u6⟩
      · rw [u2, ob_s]
        exact Or.inl ⟨fv, av, _, _, _, _, _, u1, rfl, u3⟩
      · rw [u5, ob_s]
        exact Or.inr ⟨m', cnt, P', W', s1, u1, u2, u3, s5, s6, u4, rfl, u6⟩
end RF
