/-! steps of calls that look, and mean -/
theorem nI_n2 {k : Nat} (h1 : k < 2147483648) : ¬ nI k = (-2) := by
  intro h2
  have h3 := nI_toInt h1
  rw [h2] at h3
  have h4 : (-2 : Int32).toInt = -2 := by decide
  rw [h4] at h3
  omega
theorem q_holds1_f {l : Nat} {x : Int32} (h1 : x < 0 ∨ nI l ≤ x) (h2 : l < 1073741824) : p_X3_holds (nI l) x 1 = some false := by
  unfold p_X3_holds
  by_cases h3 : x < 0
  · rw [if_pos h3]
  · rw [if_neg h3, if_pos]
    have h4 := h1.resolve_left h3
    rw [Int32.le_iff_toInt_le, nI_toInt (by omega)] at h4
    rw [Int32.lt_iff_toInt_lt]
    have h5 : (nI l - 1).toInt = (l : Int) - 1 := pk_sub_toInt (a := l) (b := 1) h2 (by decide)
    rw [h5]
    omega
theorem q_isName (u : Int32) (w : Int64) : p_X9_isName u w = (p_X10_isUse u).bind (fun a => (p_X10_isNumber w).bind (fun b => some (a && b))) := by
  have h1 : p_X9_isNumber w = p_X10_isNumber w := by
    unfold p_X9_isNumber p_X10_isNumber p_X10_in
    by_cases h2 : w < 0
    · rw [if_pos h2]; rfl
    · rw [if_neg h2]
      by_cases h3 : 4294967295 < w
      · rw [if_pos h3]; rfl
      · rw [if_neg h3]; rfl
  have h4 : p_X2_isUse u = p_X10_isUse u := rfl
  unfold p_X9_isName
  rw [h1, h4]
  rcases hu : p_X10_isUse u with _ | a
  · rfl
  · rcases hn : p_X10_isNumber w with _ | b
    · cases a
      · exfalso
        unfold p_X10_isNumber at hn
        rw [q_in] at hn
        cases hn
      · rfl
    · cases a <;> cases b <;> rfl
theorem q_num (w : Int64) : p_X10_isNumber w = some (decide (0 ≤ w ∧ w ≤ 4294967295)) := by
  unfold p_X10_isNumber
  rw [q_in]
  rfl
theorem q_use_t {u : Int32} (h1 : isU u) : p_X10_isUse u = some true := by
  unfold p_X10_isUse
  rcases h1 with h2 | h2 | h2 | h2 <;> subst h2 <;> decide
theorem q_use_f {u : Int32} (h1 : ¬ isU u) : p_X10_isUse u = some false := by
  unfold p_X10_isUse
  rw [if_neg (fun h2 => h1 (Or.inl h2)), if_neg (fun h2 => h1 (Or.inr (Or.inl h2))), if_neg (fun h2 => h1 (Or.inr (Or.inr (Or.inl h2)))), if_neg (fun h2 => h1 (Or.inr (Or.inr (Or.inr h2))))]
section ST
variable {fu : Nat} {t_l : Int32} {t_f : Nat → Int8} {m_tl : Int32} {m_t : Nat → Int32} {o_l : Int32} {o_f : Nat → Int8} {m_ol : Int32} {m_o : Nat → Int32}
variable {h_c h_e d_l : Int32} {d_f : Nat → Int8} {h_k h_s h_u : Nat → Int32} {h_n : Nat → Int64} {h_g : Nat → Int32} {m_dl : Int32} {m_d m_k m_s : Nat → Int32} {m_c : Int32} {m_u : Nat → Int32} {m_n : Nat → Int64} {m_m : Nat → Int32} {m_e : Int32}
theorem st_told (h1 : RT t_l t_f m_tl m_t) (h2 : RO o_l o_f m_ol m_o) (h3 : RH h_c h_e d_l d_f h_k h_s h_u h_n h_g m_dl m_d m_k m_s m_c m_u m_n m_m m_e) (a1 : Int32) : ∃ r, p_X9_told t_l o_l h_c h_e d_l a1 = some r ∧ p_X10_told m_tl m_dl m_c m_e m_ol a1 = some r := by
  obtain ⟨n, -, b1, b2, -⟩ := h1
  obtain ⟨o, -, b3, b4, -⟩ := h2
  obtain ⟨c, e, st, g, -, -, ⟨b5, b6, b7, b8, b9, b10⟩, -⟩ := h3
  subst b1 b2 b3 b4 b5 b6 b7 b8 b9 b10
  have h4 : p_X9_told (nI n) (nI o) (nI c) (nI e) (nI (st c)) a1 = p_X10_told (nI n) (nI (st c)) (nI c) (nI e) (nI o) a1 := rfl
  rw [h4]
  unfold p_X10_told
  split
  · exact ⟨_, rfl, rfl⟩
  · split
    · exact ⟨_, rfl, rfl⟩
    · split
      · exact ⟨_, rfl, rfl⟩
      · split
        · exact ⟨_, rfl, rfl⟩
        · split
          · exact ⟨_, rfl, rfl⟩
          · exact ⟨_, rfl, rfl⟩
theorem st_out (hfu : 20000 ≤ fu) (h2 : RO o_l o_f m_ol m_o) (a1 : Int32) : ∃ r, p_X9_out fu o_l o_f a1 = some r ∧ p_X10_out m_ol m_o a1 = some r := by
  obtain ⟨n, b0, b3, b4, b5⟩ := h2
  subst b3 b4
  unfold p_X9_out p_X10_out
  rw [q_whole (by omega), ob_s]
  have h3 : a1 < 0 ∨ nI n ≤ a1 ∨ ∃ j, j < n ∧ a1 = nI j := pk_ix a1 (by omega)
  rcases h3 with h4 | h4 | ⟨j, h5, rfl⟩
  · rw [q_holds1_f (Or.inl h4) (by omega), in_f (Or.inl h4) (by omega)]
    exact ⟨_, rfl, rfl⟩
  · rw [q_holds1_f (Or.inr h4) (by omega), in_f (Or.inr h4) (by omega)]
    exact ⟨_, rfl, rfl⟩
  · rw [q_holds (y := 1) (n := 1) rfl rfl (by omega) (by omega) (by decide), in_t h5 (by omega), ob_s, ob_s, if_pos (decide_eq_true (show j + 1 ≤ n by omega)), if_pos rfl, if_pos (ix_t j rfl (by omega) (by decide)), cl_nI j rfl (by omega), b5 j h5]
    rw [q_at (o := 0) (l := n) o_f rfl (by omega) (by decide) (by omega) (by omega), if_pos (by omega), Nat.zero_add]
    exact ⟨_, rfl, rfl⟩
theorem st_chunk (hfu : 20000 ≤ fu) (h3 : RH h_c h_e d_l d_f h_k h_s h_u h_n h_g m_dl m_d m_k m_s m_c m_u m_n m_m m_e) (a1 a2 : Int32) : ∃ r, p_X9_chunk fu h_c h_e h_k h_s h_g a1 a2 = some r ∧ p_X10_chunk fu m_c m_e m_k m_s m_m a1 a2 = some r := by
  obtain ⟨c, e, st, g, h4, h5, ⟨b5, b6, b7, b8, b9, b10⟩, h6, h7, h8, h9, h10⟩ := h3
  subst b5 b6 b7 b8 b9 b10
  have h11 := h4.1
  have h12 := h5.1
  unfold p_X9_chunk p_X10_chunk
  rcases pk_ix a1 (n := c) (by omega) with h13 | h13 | ⟨k, h14, rfl⟩
  · rw [q_hasChunk_f (Or.inl h13), q_isChunk_f (Or.inl h13) h11]
    exact ⟨_, rfl, rfl⟩
  · rw [q_hasChunk_f (Or.inr h13), q_isChunk_f (Or.inr h13) h11]
    exact ⟨_, rfl, rfl⟩
  · rw [q_hasChunk_t h14 h11, q_isChunk_t h14 h11, ob_s, ob_s, if_pos rfl, if_pos rfl, q_in32 (q := 0) (r := 3) a2 0 3 rfl rfl rfl, ob_s]
    by_cases c0 : a2 = 0
    · subst c0
      rw [if_pos rfl, if_pos (by decide), if_pos rfl, q_kindOf h14 h11, if_pos (ix_t k rfl (by omega) (by decide)), cl_nI k rfl (by omega), h7 k h14]
      exact ⟨_, rfl, rfl⟩
    · by_cases c1 : a2 = 1
      · subst c1
        rw [if_neg (by decide), if_pos rfl, if_pos (by decide), if_neg (by decide), if_pos rfl, q_lengthOf h4 h14 h8, if_pos (ix_t k rfl (by omega) (by decide)), cl_nI k rfl (by omega), h9 k h14]
        exact ⟨_, rfl, rfl⟩
      · by_cases c2 : a2 = 2
        · subst c2
          rw [if_neg (by decide), if_neg (by decide), if_pos rfl, if_pos (by decide), if_neg (by decide), if_neg (by decide), if_pos rfl, q_placeOf hfu h4 (by omega) h8, q_mplaceOf hfu h4 (by omega) h9]
          exact ⟨_, rfl, rfl⟩
        · by_cases c3 : a2 = 3
          · subst c3
            rw [if_neg (by decide), if_neg (by decide), if_neg (by decide), if_pos rfl, if_pos (by decide), if_neg (by decide), if_neg (by decide), if_neg (by decide), q_means hfu h12 h11 h14 (fun i hi => (h10 i hi).2.2.1) (fun i hi => (h5.2.1 i hi).1), q_meant hfu h12 h11 h14 (fun i hi => (h10 i hi).2.2.2) (fun i hi => (h5.2.1 i hi).1)]
            exact ⟨_, rfl, rfl⟩
          · rw [if_neg c0, if_neg c1, if_neg c2, if_neg c3, if_neg]
            · exact ⟨_, rfl, rfl⟩
            · rw [decide_eq_true_iff]
              intro h15
              obtain ⟨j, h16, rfl⟩ := nI_of2 (M := 3) (n := 3) (by decide) (Int32.not_lt.mpr h15.1) h15.2
              rcases (show j = 0 ∨ j = 1 ∨ j = 2 ∨ j = 3 by omega) with h17 | h17 | h17 | h17 <;> subst h17
              · exact c0 rfl
              · exact c1 rfl
              · exact c2 rfl
              · exact c3 rfl
theorem st_octet (hfu : 20000 ≤ fu) (h3 : RH h_c h_e d_l d_f h_k h_s h_u h_n h_g m_dl m_d m_k m_s m_c m_u m_n m_m m_e) (a1 a2 : Int32) : ∃ r, p_X9_octet fu h_c d_l d_f h_s a1 a2 = some r ∧ p_X10_octet fu m_c m_d m_s a1 a2 = some r := by
  obtain ⟨c, e, st, g, h4, h5, ⟨b5, b6, b7, b8, b9, b10⟩, h6, h7, h8, h9, h10⟩ := h3
  subst b5 b6 b7 b8 b9 b10
  have h11 := h4.1
  have h12 := h4.2.2.2
  unfold p_X9_octet p_X10_octet
  have bad : a1 < 0 ∨ nI c ≤ a1 → ∃ r, ((p_X0_dataOf (nI c) (nI (st c)) h_s a1).bind (fun z5 => (p_X3_holds z5.2 a2 1).bind (fun z12 => if z12 = true then ((p_X3_at fu 12000 z5.1 z5.2 d_f a2).bind (fun z20 => some (z20))) else (some ((-1)))))) = some r ∧ ((p_X10_isChunk (nI c) a1).bind (fun z2 => if z2 = true then (if ix a1 61 = true then ((p_X10_in (Int32.toInt64 a2) 0 (Int32.toInt64 ((m_s (Int32.toNatClampNeg a1)) - 1))).bind (fun z20 => if z20 = true then ((p_X10_fromOf fu m_s a1).bind (fun z32 => if ix (z32 + a2) 12000 = true then (some ((m_d (Int32.toNatClampNeg (z32 + a2))))) else none)) else (some ((-1))))) else none) else (some ((-1))))) = some r := by
    intro h13
    rw [q_dataOf_f h13 (by omega), q_isChunk_f h13 h11, ob_s]
    have h14 : a2 < 0 ∨ nI 0 ≤ a2 := by
      rcases Int32.lt_or_le a2 0 with h15 | h15
      · exact Or.inl h15
      · exact Or.inr h15
    rw [q_holds1_f h14 (by decide)]
    exact ⟨_, rfl, rfl⟩
  rcases pk_ix a1 (n := c) (by omega) with h13 | h13 | ⟨k, h14, rfl⟩
  · exact bad (Or.inl h13)
  · exact bad (Or.inr h13)
  · have h15 := st_le h4 (show k + 1 ≤ c by omega) (Nat.le_refl c)
    have h16 := h4.2.2.1 k h14
    rw [q_dataOf h4 h14 h8, q_isChunk_t h14 h11, ob_s, ob_s, if_pos rfl, if_pos (ix_t k rfl (by omega) (by decide)), cl_nI k rfl (by omega), h9 k h14]
    rcases pk_ix a2 (n := st (k + 1) - st k) (by omega) with h17 | h17 | ⟨i, h18, rfl⟩
    · rw [q_holds1_f (Or.inl h17) (by omega), in_f (Or.inl h17) (by omega)]
      exact ⟨_, rfl, rfl⟩
    · rw [q_holds1_f (Or.inr h17) (by omega), in_f (Or.inr h17) (by omega)]
      exact ⟨_, rfl, rfl⟩
    · rw [q_holds (y := 1) (n := 1) rfl rfl (by omega) (by omega) (by decide), in_t h18 (by omega), ob_s, ob_s, if_pos (decide_eq_true (show i + 1 ≤ st (k + 1) - st k by omega)), if_pos rfl, q_fromOf hfu h4 (by omega) h9, ob_s, nI_add, if_pos (ix_t (st k + i) rfl (by omega) (by decide)), cl_nI (st k + i) rfl (by omega), h6 (st k + i) (by omega)]
      rw [q_at (o := st k) (l := st (k + 1) - st k) d_f rfl (by omega) (by decide) (by omega) (by omega), if_pos (by omega)]
      exact ⟨_, rfl, rfl⟩
theorem st_find (hfu : 20000 ≤ fu) (h3 : RH h_c h_e d_l d_f h_k h_s h_u h_n h_g m_dl m_d m_k m_s m_c m_u m_n m_m m_e) (a1 : Int32) (a2 : Int64) : ∃ r, p_X9_find fu h_e h_u h_n h_g a1 a2 = some r ∧ p_X10_find fu m_e m_u m_n m_m a1 a2 = some r := by
  obtain ⟨c, e, st, g, h4, h5, ⟨b5, b6, b7, b8, b9, b10⟩, h6, h7, h8, h9, h10⟩ := h3
  subst b5 b6 b7 b8 b9 b10
  have h11 := h4.1
  have h12 := h5.1
  unfold p_X9_find p_X10_find
  rw [q_isName]
  by_cases hu : isU a1
  · rw [q_use_t hu, ob_s, ob_s, q_num, ob_s, if_pos rfl, ob_s, ob_s]
    by_cases hw : decide (0 ≤ a2 ∧ a2 ≤ 4294967295) = true
    · rw [if_pos (show (true && decide (0 ≤ a2 ∧ a2 ≤ 4294967295)) = true by rw [hw]; rfl), if_pos hw]
      obtain ⟨r1, c1, c2⟩ := q_entryOf hfu h12 h_u h_n a1 a2
      obtain ⟨r2, c3, c4⟩ := q_entryFor hfu h12 (fun i hi => ⟨(h10 i hi).1, (h10 i hi).2.1⟩) h5.2.2 a1 a2
      have c5 := FI_u c2 c4
      subst c5
      rw [c1, c3, ob_s, ob_s]
      rcases c2 with ⟨k, d1, d2, d3, d4⟩ | ⟨d1, d2⟩
      · subst d2
        rw [q_hasEntry_t d1 (by omega), ob_s, if_pos rfl, if_pos (ix_t k rfl (by omega) (by decide)), if_neg (nI_n2 (by omega)), if_pos (ix_t k rfl (by omega) (by decide)), cl_nI k rfl (by omega), (h10 k d1).2.2.1, (h10 k d1).2.2.2]
        exact ⟨_, rfl, rfl⟩
      · subst d1
        rw [q_hasEntry_f (Or.inl (by decide)), ob_s, if_neg (by decide), if_pos rfl]
        exact ⟨_, rfl, rfl⟩
    · rw [if_neg (show ¬ (true && decide (0 ≤ a2 ∧ a2 ≤ 4294967295)) = true by simpa using hw), if_neg hw]
      exact ⟨_, rfl, rfl⟩
  · rw [q_use_f hu, ob_s, ob_s, q_num]
    exact ⟨_, rfl, rfl⟩
theorem st_front (hfu : 20000 ≤ fu) (h3 : RH h_c h_e d_l d_f h_k h_s h_u h_n h_g m_dl m_d m_k m_s m_c m_u m_n m_m m_e) : ∃ r, p_X9_front fu h_c d_l d_f h_k h_s = some r ∧ p_X10_front fu m_c m_d m_k m_s = some r := by
  obtain ⟨c, e, st, g, h4, h5, ⟨b5, b6, b7, b8, b9, b10⟩, h6, h7, h8, h9, h10⟩ := h3
  subst b5 b6 b7 b8 b9 b10
  have h11 := h4.1
  have h12 := h4.2.2.2
  unfold p_X9_front p_X10_front
  obtain ⟨r1, c1, c2⟩ := q_firstWith (y := 4) (len := 4) hfu h4 h8 h_k 1181970531 rfl (by decide)
  obtain ⟨r2, c3, c4⟩ := q_first_gen hfu h11 (m_k := m_k) (m_s := m_s) 1181970531 4 (fun k => h_k k = 1181970531 ∧ st (k + 1) - st k = 4) (by
    intro k hk
    have h13 := st_le h4 (show k + 1 ≤ c by omega) (Nat.le_refl c)
    rw [h7 k hk, h9 k hk]
    have h14 : nI (st (k + 1) - st k) = 4 ↔ st (k + 1) - st k = 4 := nI_eq (b := 4) (by omega) (by decide)
    rw [h14]
    have h15 : ¬ (4 : Int32) < 0 := by decide
    simp only [h15, false_or])
  have c5 := FI_u c2 c4
  subst c5
  rw [c1, c3, ob_s, ob_s]
  rcases c2 with ⟨k, d1, d2, ⟨d3, d5⟩, d4⟩ | ⟨d1, d2⟩
  · subst d2
    have h13 := st_le h4 (show k + 1 ≤ c by omega) (Nat.le_refl c)
    rw [q_hasChunk_t d1 h11, ob_s, if_pos rfl, q_dataOf h4 d1 h8, ob_s, if_neg (nI_n2 (by omega)), q_fromOf hfu h4 (by omega) h9, ob_s, q_four rfl h6 (by omega) h12 (by decide), ob_s, q_u4 (x := 0) (i := 0) d_f rfl (by omega) (by decide) (by decide) (by omega), if_pos (by omega), ob_s]
    exact ⟨_, rfl, rfl⟩
  · subst d1
    rw [q_hasChunk_f (Or.inl (by decide)), ob_s, if_neg (by decide), if_pos rfl]
    exact ⟨_, rfl, rfl⟩
theorem st_release (hfu : 20000 ≤ fu) (h3 : RH h_c h_e d_l d_f h_k h_s h_u h_n h_g m_dl m_d m_k m_s m_c m_u m_n m_m m_e) : ∃ r, p_X9_release fu h_c d_l d_f h_k h_s = some r ∧ p_X10_release fu m_c m_d m_k m_s = some r := by
  obtain ⟨c, e, st, g, h4, h5, ⟨b5, b6, b7, b8, b9, b10⟩, h6, h7, h8, h9, h10⟩ := h3
  subst b5 b6 b7 b8 b9 b10
  have h11 := h4.1
  have h12 := h4.2.2.2
  unfold p_X9_release p_X10_release
  obtain ⟨r1, c1, c2⟩ := q_firstWith (y := 2) (len := 2) hfu h4 h8 h_k 1382378574 rfl (by decide)
  obtain ⟨r2, c3, c4⟩ := q_first_gen hfu h11 (m_k := m_k) (m_s := m_s) 1382378574 2 (fun k => h_k k = 1382378574 ∧ st (k + 1) - st k = 2) (by
    intro k hk
    have h13 := st_le h4 (show k + 1 ≤ c by omega) (Nat.le_refl c)
    rw [h7 k hk, h9 k hk]
    have h14 : nI (st (k + 1) - st k) = 2 ↔ st (k + 1) - st k = 2 := nI_eq (b := 2) (by omega) (by decide)
    rw [h14]
    have h15 : ¬ (2 : Int32) < 0 := by decide
    simp only [h15, false_or])
  have c5 := FI_u c2 c4
  subst c5
  rw [c1, c3, ob_s, ob_s]
  rcases c2 with ⟨k, d1, d2, ⟨d3, d5⟩, d4⟩ | ⟨d1, d2⟩
  · subst d2
    have h13 := st_le h4 (show k + 1 ≤ c by omega) (Nat.le_refl c)
    rw [q_hasChunk_t d1 h11, ob_s, if_pos rfl, q_dataOf h4 d1 h8, ob_s, if_neg (nI_n2 (by omega)), q_fromOf hfu h4 (by omega) h9, ob_s, q_two rfl h6 (by omega) h12 (by decide), ob_s, q_u2 (x := 0) (i := 0) d_f rfl (by omega) (by decide) (by decide) (by omega), if_pos (by omega), ob_s]
    exact ⟨_, rfl, rfl⟩
  · subst d1
    rw [q_hasChunk_f (Or.inl (by decide)), ob_s, if_neg (by decide), if_pos rfl]
    exact ⟨_, rfl, rfl⟩
end ST
