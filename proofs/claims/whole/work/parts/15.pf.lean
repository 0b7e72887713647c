/-! steps: colour, mean, entry -/
theorem lN_lit3 (i : Nat) : (3 : Int64) * lN i + 3 = lN (3 * i + 3) := by
  have e1 : (3 : Int64) * lN i = lN (3 * i) := lN_mul 3 i
  rw [e1]
  exact lN_add (3 * i) 3
theorem l_iff {r k : Nat} {K : Int64} (h1 : K = lN k) (h2 : r < 4294967296) (h3 : k < 4294967296) : lN r = K ↔ r = k := by
  subst h1
  exact pk_lEQ (by omega) (by omega)
theorem i_iff {r k : Nat} {K : Int32} (h1 : K = nI k) (h2 : r < 4294967296) (h3 : k < 4294967296) : nI r = K ↔ r = k := by
  subst h1
  refine ⟨fun h4 => ?_, fun h4 => by rw [h4]⟩
  have h5 := pk_tn h2
  rw [h4, pk_tn h3] at h5
  exact h5.symm
section ST
variable {fu : Nat} {h_c h_e d_l : Int32} {d_f : Nat → Int8} {h_k h_s h_u : Nat → Int32} {h_n : Nat → Int64} {h_g : Nat → Int32} {m_dl : Int32} {m_d m_k m_s : Nat → Int32} {m_c : Int32} {m_u : Nat → Int32} {m_n : Nat → Int64} {m_m : Nat → Int32} {m_e : Int32}
theorem q_first_kind {c : Nat} (hfu : 20000 ≤ fu) (h1 : c ≤ 60) (h7 : ∀ k, k < c → m_k k = h_k k) (kd : Int32) : ∃ r, p_X0_firstOf fu (nI c) h_k kd = some r ∧ p_X10_first fu (nI c) m_k m_s kd (-1) = some r ∧ FI c (fun k => h_k k = kd) r := by
  obtain ⟨r1, c1, c2⟩ := q_firstOf hfu h1 h_k kd
  obtain ⟨r2, c3, c4⟩ := q_first_gen hfu h1 (m_k := m_k) (m_s := m_s) kd (-1) (fun k => h_k k = kd) (by
    intro k hk
    rw [h7 k hk]
    have h15 : (-1 : Int32) < 0 := by decide
    simp only [h15, true_or, and_true])
  have c5 := FI_u c2 c4
  subst c5
  exact ⟨_, c1, c3, c2⟩
theorem st_colour (hfu : 20000 ≤ fu) (h3 : RH h_c h_e d_l d_f h_k h_s h_u h_n h_g m_dl m_d m_k m_s m_c m_u m_n m_m m_e) (a1 : Int32) : ∃ r, p_X9_colour fu h_c d_l d_f h_k h_s a1 = some r ∧ p_X10_colour fu m_c m_d m_k m_s a1 = some r := by
  obtain ⟨c, e, st, g, h4, h5, ⟨b5, b6, b7, b8, b9, b10⟩, h6, h7, h8, h9, h10⟩ := h3
  subst b5 b6 b7 b8 b9 b10
  have h11 := h4.1
  have h12 := h4.2.2.2
  unfold p_X9_colour p_X10_colour
  by_cases h13 : 0 ≤ a1
  · rw [if_pos h13, if_pos h13]
    obtain ⟨i, h14, rfl⟩ := nI_of (Int32.not_lt.mpr h13)
    obtain ⟨r, c1, c2, c3⟩ := q_first_kind (m_s := m_s) hfu h11 h7 1349284965
    rw [c1, c2, ob_s, ob_s]
    rcases c3 with ⟨k, d1, d2, d3, d4⟩ | ⟨d1, d2⟩
    · subst d2
      have h15 := st_le h4 (show k + 1 ≤ c by omega) (Nat.le_refl c)
      have h16 := h4.2.2.1 k d1
      have e1 : nI (st (k + 1) - st k) / 3 = nI ((st (k + 1) - st k) / 3) := pk_div (d := 3) (by omega) (by decide) (by decide)
      rw [q_dataOf h4 d1 h8, ob_s, e1, if_neg (nI_n2 (by omega)), if_pos (ix_t k rfl (by omega) (by decide)), cl_nI k rfl (by omega), h9 k d1, nI_l h14, lN_lit3, nI_l (n := st (k + 1) - st k) (by omega)]
      by_cases h17 : 3 * i + 3 ≤ st (k + 1) - st k
      · have e2 : (3 : Int32) * nI i = nI (3 * i) := pk_mul 3 i
        have e3 : nI (3 * i) + 2 = nI (3 * i + 2) := nI_add (3 * i) 2
        rw [if_pos (nI_lt (by omega) (by omega)), if_pos ((pk_lLE (by omega) (by omega)).mpr h17), e2, e3]
        rw [q_u2 (i := 3 * i) d_f rfl (by omega) (by decide) (by omega) (by omega), ob_s, q_at (i := 3 * i + 2) d_f rfl (by omega) (by decide) (by omega) (by omega), ob_s, if_pos (by omega), if_pos (by omega)]
        have e4 : nI (st k) + nI (3 * i) = nI (st k + 3 * i) := nI_add _ _
        have e5 : nI (st k + 3 * i) + 1 = nI (st k + 3 * i + 1) := nI_1 _
        have e6 : nI (st k + 3 * i) + 2 = nI (st k + 3 * i + 2) := nI_add _ 2
        rw [q_fromOf hfu h4 (by omega) h9, ob_s, e4, e5, e6, if_pos (ix_t (st k + 3 * i) rfl (by omega) (by decide)), if_pos (ix_t (st k + 3 * i + 1) rfl (by omega) (by decide)), if_pos (ix_t (st k + 3 * i + 2) rfl (by omega) (by decide)), cl_nI _ rfl (by omega), cl_nI _ rfl (by omega), cl_nI _ rfl (by omega), h6 (st k + 3 * i) (by omega), h6 (st k + 3 * i + 1) (by omega), h6 (st k + 3 * i + 2) (by omega), or3 (oc_lt _) (oc_lt _) (oc_lt _)]
        rw [or2 (rv2_lt (oF_lt d_f) _) (oc_lt _), rv2_eq]
        refine ⟨_, rfl, ?_⟩
        rfl
      · rw [if_neg (nI_nlt (by omega) (by omega)), if_neg (fun h18 => h17 ((pk_lLE (by omega) (by omega)).mp h18))]
        exact ⟨_, rfl, rfl⟩
    · subst d1
      rw [q_dataOf_f (Or.inl (by decide)) (by omega), ob_s, if_pos rfl, if_neg]
      · exact ⟨_, rfl, rfl⟩
      · have e1 : nI 0 / (3 : Int32) = nI 0 := by decide
        rw [e1]
        exact nI_nlt (by omega) h14
  · rw [if_neg h13, if_neg h13]
    exact ⟨_, rfl, rfl⟩
theorem st_mean (hfu : 20000 ≤ fu) (h3 : RH h_c h_e d_l d_f h_k h_s h_u h_n h_g m_dl m_d m_k m_s m_c m_u m_n m_m m_e) (a1 : Int32) (a2 : Int64) (a4 : Int32) : ∃ zx zm, p_X9_mean fu h_c h_e h_u h_n h_g a1 a2 a4 = some zx ∧ p_X10_mean fu m_c m_e m_u m_n m_m a1 a2 a4 = some zm ∧ zx.1 = zm.1 ∧ RH h_c zx.2.1 d_l d_f h_k h_s zx.2.2.1 zx.2.2.2.1 zx.2.2.2.2 m_dl m_d m_k m_s m_c zm.2.2.1 zm.2.2.2.1 zm.2.2.2.2 zm.2.1 := by
  have h3' := h3
  obtain ⟨c, e, st, g, h4, h5, ⟨b5, b6, b7, b8, b9, b10⟩, h6, h7, h8, h9, h10⟩ := h3
  subst b5 b6 b7 b8 b9 b10
  have h11 := h4.1
  have h12 := h5.1
  unfold p_X9_mean p_X10_mean
  rw [q_isName]
  by_cases hu : isU a1
  · rw [q_use_t hu, ob_s, ob_s, q_num, ob_s, if_pos rfl, ob_s, ob_s]
    by_cases hw : decide (0 ≤ a2 ∧ a2 ≤ 4294967295) = true
    · rw [if_pos (show (true && decide (0 ≤ a2 ∧ a2 ≤ 4294967295)) = true by rw [hw]; rfl), if_pos hw]
      rcases pk_ix a4 (n := c) (by omega) with h13 | h13 | ⟨k, h14, rfl⟩
      · rw [q_hasChunk_f (Or.inl h13), q_isChunk_f (Or.inl h13) h11]
        exact ⟨_, _, rfl, rfl, rfl, h3'⟩
      · rw [q_hasChunk_f (Or.inr h13), q_isChunk_f (Or.inr h13) h11]
        exact ⟨_, _, rfl, rfl, rfl, h3'⟩
      · rw [q_hasChunk_t h14 h11, q_isChunk_t h14 h11, ob_s, ob_s, if_pos rfl, if_pos rfl]
        obtain ⟨r1, c1, c2⟩ := q_entryOf hfu h12 h_u h_n a1 a2
        obtain ⟨r2, c3, c4⟩ := q_entryFor hfu h12 (fun i hi => ⟨(h10 i hi).1, (h10 i hi).2.1⟩) h5.2.2 a1 a2
        have c5 := FI_u c2 c4
        subst c5
        rw [c1, c3, ob_s, ob_s]
        rcases c2 with ⟨i, d1, d2, d3, d4⟩ | ⟨d1, d2⟩
        · subst d2
          rw [q_hasEntry_t d1 (by omega), ob_s, if_pos rfl, if_neg (nI_n2 (by omega))]
          exact ⟨_, _, rfl, rfl, rfl, h3'⟩
        · subst d1
          rw [q_hasEntry_f (Or.inl (by decide)), ob_s, if_neg (by decide), if_pos rfl]
          by_cases h15 : e = 40
          · subst h15
            rw [if_neg (by decide), if_pos (by decide)]
            exact ⟨_, _, rfl, rfl, rfl, h3'⟩
          · have e1 : nI e + 1 - 1 = nI e := by rw [nI_1, nI_pred]
            have h16 : ¬ nI e = 40 := fun h17 => h15 ((nI_eq (b := 40) (by omega) (by decide)).mp h17)
            rw [if_pos (show nI e < 40 from nI_lt (b := 40) (by omega) (by decide)), if_neg h16, if_pos (ix_t e rfl (by omega) (by decide)), if_pos (ix_t e rfl (by omega) (by decide)), if_pos (ix_t e rfl (by omega) (by decide)), cl_nI e rfl (by omega)]
            have e2 : p_X0_addEntry (nI e) h_u h_n h_g a1 a2 (nI k) = some (nI e + 1, upd h_u e a1, vp_updL h_n e a2, upd h_g e (nI k)) := by
              unfold p_X0_addEntry
              rw [if_pos (show nI e < 40 from nI_lt (b := 40) (by omega) (by decide)), if_pos (ix_t e rfl (by omega) (by decide)), if_pos (ix_t e rfl (by omega) (by decide)), if_pos (ix_t e rfl (by omega) (by decide)), cl_nI e rfl (by omega)]
            rw [e2, ob_s]
            refine ⟨_, _, rfl, rfl, rfl, c, e + 1, st, (fun i => if i = e then k else g i), h4, ⟨by omega, ?_, ?_⟩, ⟨rfl, rfl, nI_1 e, nI_1 e, rfl, rfl⟩, h6, h7, h8, h9, ?_⟩
            · intro i hi
              by_cases h18 : i = e
              · subst h18
                show (if i = i then k else g i) < c ∧ isU (upd h_u i a1 i)
                rw [if_pos rfl, pk_us]
                exact ⟨h14, hu⟩
              · show (if i = e then k else g i) < c ∧ isU (upd h_u e a1 i)
                rw [if_neg h18, pk_un h18]
                exact h5.2.1 i (by omega)
            · intro i j hi hj h19 h20
              have h19' : upd h_u e a1 i = upd h_u e a1 j := h19
              have h20' : vp_updL h_n e a2 i = vp_updL h_n e a2 j := h20
              by_cases h21 : i = e
              · by_cases h22 : j = e
                · omega
                · rw [h21, pk_us, pk_un h22] at h19'
                  rw [h21, pk_uLs, pk_uLn h22] at h20'
                  exact absurd ⟨h19'.symm, h20'.symm⟩ (d2 j (by omega))
              · by_cases h22 : j = e
                · rw [h22, pk_us, pk_un h21] at h19'
                  rw [h22, pk_uLs, pk_uLn h21] at h20'
                  exact absurd ⟨h19', h20'⟩ (d2 i (by omega))
                · rw [pk_un h21, pk_un h22] at h19'
                  rw [pk_uLn h21, pk_uLn h22] at h20'
                  exact h5.2.2 i j (by omega) (by omega) h19' h20'
            · intro i hi
              show upd m_u e a1 i = upd h_u e a1 i ∧ vp_updL m_n e a2 i = vp_updL h_n e a2 i ∧ upd h_g e (nI k) i = nI (if i = e then k else g i) ∧ upd m_m e (nI k) i = nI (if i = e then k else g i)
              by_cases h18 : i = e
              · subst h18
                rw [if_pos rfl, pk_us, pk_us, pk_us, pk_us, pk_uLs, pk_uLs]
                exact ⟨rfl, rfl, rfl, rfl⟩
              · rw [if_neg h18, pk_un h18, pk_un h18, pk_un h18, pk_un h18, pk_uLn h18, pk_uLn h18]
                exact h10 i (by omega)
    · rw [if_neg (show ¬ (true && decide (0 ≤ a2 ∧ a2 ≤ 4294967295)) = true by simpa using hw), if_neg hw]
      exact ⟨_, _, rfl, rfl, rfl, h3'⟩
  · rw [q_use_f hu, ob_s, ob_s, q_num]
    exact ⟨_, _, rfl, rfl, rfl, h3'⟩
theorem q_goes {c k : Nat} {st : Nat → Nat} {u : Int32} (hfu : 20000 ≤ fu) (h4 : HC c st) (h6 : mr m_d d_f (st c)) (h7 : m_k k = h_k k) (h9 : ∀ k, k < c → m_s k = nI (st (k + 1) - st k)) (h14 : k < c) (hu : isU u) : ∃ b, p_X2_goTogether fu 12000 (nI (st k)) (nI (st (k + 1) - st k)) d_f u (h_k k) = some b ∧ p_X10_goes fu m_d m_k m_s u (nI k) = some b := by
  have h11 := h4.1
  have h12 := h4.2.2.2
  have h15 := st_le h4 (show k + 1 ≤ c by omega) (Nat.le_refl c)
  have h16 := h4.2.2.1 k h14
  unfold p_X2_goTogether p_X10_goes
  rw [if_pos (ix_t k rfl (by omega) (by decide)), cl_nI k rfl (by omega), h7]
  rcases hu with h2 | h2 | h2 | h2 <;> subst h2
  · rw [if_neg (by decide), if_neg (by decide), if_pos rfl, if_pos rfl]
    split
    · exact ⟨_, rfl, rfl⟩
    · split
      · exact ⟨_, rfl, rfl⟩
      · split
        · exact ⟨_, rfl, rfl⟩
        · exact ⟨_, rfl, rfl⟩
  · rw [if_neg (by decide), if_neg (by decide), if_neg (by decide), if_pos rfl, if_neg (show ¬ (1399743520 : Int32) = 1349084020 by decide), if_pos rfl]
    unfold p_X10_goes_76
    by_cases hF : h_k k = 1179603533
    · rw [hF, if_neg (show ¬ (1179603533 : Int32) = 1330071382 by decide), if_neg (show ¬ (1179603533 : Int32) = 1297040416 by decide), if_neg (show ¬ (1179603533 : Int32) = 1397706311 by decide), if_pos rfl, if_pos rfl, if_pos (ix_t k rfl (by omega) (by decide)), h9 k h14]
      rw [q_u4 (x := 0) (i := 0) d_f rfl (by omega) (by decide) (by decide) (by omega), ob_s]
      by_cases h17 : 4 ≤ st (k + 1) - st k
      · have h18 : ¬ nI (st (k + 1) - st k) < 4 := nI_nlt (b := 4) h17 (by omega)
        rw [if_pos (show 0 + 4 ≤ st (k + 1) - st k by omega), if_neg h18, q_fromOf hfu h4 (by omega) h9, ob_s, q_kindIn rfl h6 (by omega) h12 (by decide), ob_s, Nat.add_zero]
        have h19 := rv4_lt (oF_lt d_f) (st k)
        by_cases h20 : rv (oF d_f) (st k) 4 = 1095321158
        · rw [h20, if_pos (by decide), if_pos (by decide)]
          exact ⟨_, rfl, rfl⟩
        · rw [if_neg (fun h21 => h20 ((l_iff (K := 1095321158) (k := 1095321158) rfl h19 (by decide)).mp h21)), if_neg (fun h21 => h20 ((i_iff (K := 1095321158) (k := 1095321158) rfl h19 (by decide)).mp h21))]
          exact ⟨_, rfl, rfl⟩
      · have h18 : nI (st (k + 1) - st k) < 4 := nI_lt (b := 4) (by omega) (by decide)
        rw [if_neg (show ¬ 0 + 4 ≤ st (k + 1) - st k by omega), if_pos h18, if_neg (by decide)]
        exact ⟨_, rfl, rfl⟩
    · rw [if_neg hF, if_neg hF]
      split
      · exact ⟨_, rfl, rfl⟩
      · split
        · exact ⟨_, rfl, rfl⟩
        · split
          · exact ⟨_, rfl, rfl⟩
          · exact ⟨_, rfl, rfl⟩
  · rw [if_pos rfl, if_neg (show ¬ (1147237473 : Int32) = 1349084020 by decide), if_neg (show ¬ (1147237473 : Int32) = 1399743520 by decide), if_pos rfl]
    split
    · exact ⟨_, rfl, rfl⟩
    · split
      · exact ⟨_, rfl, rfl⟩
      · split
        · exact ⟨_, rfl, rfl⟩
        · exact ⟨_, rfl, rfl⟩
  · rw [if_neg (by decide), if_pos rfl, if_neg (show ¬ (1165518179 : Int32) = 1349084020 by decide), if_neg (show ¬ (1165518179 : Int32) = 1399743520 by decide), if_neg (show ¬ (1165518179 : Int32) = 1147237473 by decide)]
    split
    · exact ⟨_, rfl, rfl⟩
    · split
      · exact ⟨_, rfl, rfl⟩
      · exact ⟨_, rfl, rfl⟩
theorem st_entry (hfu : 20000 ≤ fu) (h3 : RH h_c h_e d_l d_f h_k h_s h_u h_n h_g m_dl m_d m_k m_s m_c m_u m_n m_m m_e) (a1 a2 : Int32) : ∃ r, p_X9_entry fu h_c h_e d_l d_f h_k h_s h_u h_n h_g a1 a2 = some r ∧ p_X10_entry fu m_e m_d m_k m_s m_u m_n m_m a1 a2 = some r := by
  obtain ⟨c, e, st, g, h4, h5, ⟨b5, b6, b7, b8, b9, b10⟩, h6, h7, h8, h9, h10⟩ := h3
  subst b5 b6 b7 b8 b9 b10
  have h11 := h4.1
  have h12 := h5.1
  unfold p_X9_entry p_X10_entry
  rcases pk_ix a1 (n := e) (by omega) with h13 | h13 | ⟨i, h14, rfl⟩
  · rw [q_hasEntry_f (Or.inl h13), in_f (Or.inl h13) (by omega)]
    exact ⟨_, rfl, rfl⟩
  · rw [q_hasEntry_f (Or.inr h13), in_f (Or.inr h13) (by omega)]
    exact ⟨_, rfl, rfl⟩
  · obtain ⟨f1, f2, f3, f4⟩ := h10 i h14
    obtain ⟨f5, f6⟩ := h5.2.1 i h14
    rw [q_hasEntry_t h14 (by omega), in_t h14 (by omega), ob_s, ob_s, if_pos rfl, if_pos rfl, q_in32 (q := 0) (r := 3) a2 0 3 rfl rfl rfl, ob_s, cl_nI i rfl (by omega)]
    have hx40 : ix (nI i) 40 = true := ix_t i rfl (by omega) (by decide)
    have hx41 : ix (nI i) 41 = true := ix_t i rfl (by omega) (by decide)
    simp only [hx40, hx41, eq_self, if_true]
    by_cases c0 : a2 = 0
    · subst c0
      rw [if_pos rfl, if_pos (by decide), if_pos rfl, f1]
      exact ⟨_, rfl, rfl⟩
    · by_cases c1 : a2 = 1
      · subst c1
        rw [if_neg (by decide), if_pos rfl, if_pos (by decide), if_neg (by decide), if_pos rfl, f2]
        exact ⟨_, rfl, rfl⟩
      · by_cases c2 : a2 = 2
        · subst c2
          rw [if_neg (by decide), if_neg (by decide), if_pos rfl, if_pos (by decide), if_neg (by decide), if_neg (by decide), if_pos rfl, f3, f4]
          exact ⟨_, rfl, rfl⟩
        · by_cases c3 : a2 = 3
          · subst c3
            obtain ⟨b, g1, g2⟩ := q_goes (h_k := h_k) hfu h4 h6 (h7 _ f5) h9 f5 f6
            have e1 : p_X0_goes fu (nI c) (nI e) (nI (st c)) d_f h_k h_s h_u h_g (nI i) = some b := by
              unfold p_X0_goes
              rw [q_hasEntry_t h14 (by omega), ob_s, if_pos rfl, if_pos (ix_t i rfl (by omega) (by decide)), if_pos (ix_t i rfl (by omega) (by decide)), cl_nI i rfl (by omega), f3, q_kindOf f5 h11, ob_s, q_dataOf h4 f5 h8, ob_s, g1]
              rfl
            rw [if_neg (by decide), if_neg (by decide), if_neg (by decide), if_pos rfl, if_pos (by decide), if_neg (by decide), if_neg (by decide), if_neg (by decide), e1, f1, f4, g2]
            cases b <;> exact ⟨_, rfl, rfl⟩
          · rw [if_neg c0, if_neg c1, if_neg c2, if_neg c3, if_neg]
            · exact ⟨_, rfl, rfl⟩
            · rw [decide_eq_true_iff]
              intro h15
              obtain ⟨j, h16, rfl⟩ := nI_of2 (M := 3) (n := 3) (by decide) (Int32.not_lt.mpr h15.1) h15.2
              rcases (show j = 0 ∨ j = 1 ∨ j = 2 ∨ j = 3 by omega) with h17 | h17 | h17 | h17 <;> subst h17
              · exact c0 rfl
              · exact c1 rfl
              · exact c2 rfl
              · exact c3 rfl
end ST
