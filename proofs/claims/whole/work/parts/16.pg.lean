/-! pictures' measures -/
theorem sa_tab : ∀ m, m < 256 → p_X4_standsAlone (nI m) = some (decide (m = 1 ∨ (208 ≤ m ∧ m ≤ 215))) := by decide +kernel
theorem nm_tab : ∀ m, m < 256 → p_X4_hasNoMeasure (nI m) = some (decide (m = 216 ∨ m = 217 ∨ m = 0)) := by decide +kernel
theorem fr_tab : ∀ m, m < 256 → p_X4_isFrame (nI m) = some (decide (192 ≤ m ∧ m ≤ 207 ∧ ¬ m = 196 ∧ ¬ m = 200 ∧ ¬ m = 204)) := by decide +kernel
theorem in1_tab : ∀ m, m < 256 → p_X10_in (Int32.toInt64 (nI m)) 192 207 = some (decide (192 ≤ m ∧ m ≤ 207)) := by decide +kernel
theorem in2_tab : ∀ m, m < 256 → p_X10_in (Int32.toInt64 (nI m)) 208 215 = some (decide (208 ≤ m ∧ m ≤ 215)) := by decide +kernel
section JP
variable {fu : Nat} {d_f : Nat → Int8} {m_d : Nat → Int32} {o l L ax : Nat} {a3 : Int32}
theorem jp_fill (hfu : 20000 ≤ fu) (h1 : mr m_d d_f L) (h2 : o + l ≤ L) (h3 : L ≤ 12000) (K : Int32 → Option Int64) : ∀ (d p : Nat), p + d = l → ∃ q, p ≤ q ∧ q ≤ l ∧ (q < l → ¬ oc (d_f (o + q)) = 255) ∧ (p < l → oc (d_f (o + p)) = 255 → p < q) ∧ (∀ (fn : Nat) (a1 : Int32), d < fn → p_X4_behindFill_2 fu 12000 (nI o) (nI l) d_f a1 fn (nI p) = some (nI q)) ∧ (∀ fn, d < fn → p_X10_jpeg_59 fu m_d (nI o) (nI l) a3 K fn (nI p) = p_X10_jpeg_105 fu m_d (nI o) (nI l) a3 K (nI q) (if q < l then nI (oc (d_f (o + q))) else 0)) := by
  intro d
  induction d with
  | zero =>
    intro p hp
    have e1 : p = l := by omega
    subst e1
    refine ⟨p, Nat.le_refl _, Nat.le_refl _, fun h => absurd h (Nat.lt_irrefl _), fun h => absurd h (Nat.lt_irrefl _), ?_, ?_⟩
    · intro fn a1 hf
      cases fn with
      | zero => omega
      | succ fn => rw [p_X4_behindFill_2, if_pos (nI_le (Nat.le_refl _) (by omega))]
    · intro fn hf
      cases fn with
      | zero => omega
      | succ fn => rw [p_X10_jpeg_59, if_pos (nI_le (Nat.le_refl _) (by omega)), if_pos (nI_le (Nat.le_refl _) (by omega)), if_neg (Nat.lt_irrefl _)]
  | succ d ih =>
    intro p hp
    have hpl : p < l := by omega
    have e2 : nI o + nI p = nI (o + p) := nI_add o p
    by_cases h5 : oc (d_f (o + p)) = 255
    · obtain ⟨q, a1, a2, a3', a4, a5, a6⟩ := ih (p + 1) (by omega)
      refine ⟨q, by omega, a2, a3', fun _ _ => by omega, ?_, ?_⟩
      · intro fn x hf
        cases fn with
        | zero => omega
        | succ fn =>
          rw [p_X4_behindFill_2, if_neg (nI_ge hpl (by omega)), q_at (i := p) d_f rfl (by omega) (by decide) (by omega) (by omega), ob_s, if_pos (show p + 1 ≤ l by omega), h5, if_pos (by decide), nI_1]
          exact a5 fn x (by omega)
      · intro fn hf
        cases fn with
        | zero => omega
        | succ fn =>
          rw [p_X10_jpeg_59, if_neg (nI_ge hpl (by omega)), e2, if_pos (ix_t (o + p) rfl (by omega) (by decide)), cl_nI (o + p) rfl (by omega), h1 (o + p) (by omega), h5, if_pos (by decide), nI_1]
          exact a6 fn (by omega)
    · have h6 := oc_lt (d_f (o + p))
      refine ⟨p, Nat.le_refl _, by omega, fun _ => h5, fun _ h => absurd h h5, ?_, ?_⟩
      · intro fn x hf
        cases fn with
        | zero => omega
        | succ fn =>
          rw [p_X4_behindFill_2, if_neg (nI_ge hpl (by omega)), q_at (i := p) d_f rfl (by omega) (by decide) (by omega) (by omega), ob_s, if_pos (show p + 1 ≤ l by omega), if_neg (fun h7 => h5 ((i_iff (K := 255) (k := 255) rfl (by omega) (by decide)).mp h7))]
      · intro fn hf
        cases fn with
        | zero => omega
        | succ fn =>
          rw [p_X10_jpeg_59, if_neg (nI_ge hpl (by omega)), e2, if_pos (ix_t (o + p) rfl (by omega) (by decide)), cl_nI (o + p) rfl (by omega), h1 (o + p) (by omega), if_neg (fun h7 => h5 ((i_iff (K := 255) (k := 255) rfl (by omega) (by decide)).mp h7)), if_neg (nI_ge hpl (by omega)), if_pos (ix_t (o + p) rfl (by omega) (by decide)), if_pos hpl]
theorem jp_105 {m : Nat} (h1 : m < 256) (K : Int32 → Option Int64) (a1 a2 v4 : Int32) : p_X10_jpeg_105 fu m_d a1 a2 a3 K v4 (nI m) = if m = 0 ∨ m = 216 ∨ m = 217 then some (-2) else if m = 1 ∨ (208 ≤ m ∧ m ≤ 215) then K (v4 + 1) else (if a2 < ((v4 + 1) + 2) then (p_X10_jpeg_179 fu m_d a1 a2 a3 K (v4 + 1) (nI m) 0) else ((p_X10_two 12000 m_d (a1 + (v4 + 1))).bind (fun z172 => p_X10_jpeg_179 fu m_d a1 a2 a3 K (v4 + 1) (nI m) z172))) := by
  unfold p_X10_jpeg_105
  have e0 := i_iff (K := 0) (k := 0) (r := m) rfl (by omega) (by decide)
  have e1 := i_iff (K := 216) (k := 216) (r := m) rfl (by omega) (by decide)
  have e2 := i_iff (K := 217) (k := 217) (r := m) rfl (by omega) (by decide)
  have e3 := i_iff (K := 1) (k := 1) (r := m) rfl (by omega) (by decide)
  by_cases c0 : m = 0
  · rw [if_pos (e0.mpr c0), if_pos (Or.inl c0)]
  · rw [if_neg (fun h => c0 (e0.mp h))]
    by_cases c1 : m = 216
    · rw [if_pos (e1.mpr c1), if_pos (Or.inr (Or.inl c1))]
    · rw [if_neg (fun h => c1 (e1.mp h))]
      by_cases c2 : m = 217
      · rw [if_pos (e2.mpr c2), if_pos (Or.inr (Or.inr c2))]
      · rw [if_neg (fun h => c2 (e2.mp h)), if_neg (show ¬ (m = 0 ∨ m = 216 ∨ m = 217) by omega)]
        by_cases c3 : m = 1
        · rw [if_pos (e3.mpr c3), if_pos (Or.inl c3)]
        · rw [if_neg (fun h => c3 (e3.mp h)), in2_tab m h1, ob_s]
          by_cases c4 : 208 ≤ m ∧ m ≤ 215
          · rw [if_pos (decide_eq_true c4), if_pos (Or.inr c4)]
          · rw [if_neg (by simpa using c4), if_neg (show ¬ (m = 1 ∨ (208 ≤ m ∧ m ≤ 215)) from fun h => h.elim c3 c4)]
theorem jp_loop (hfu : 20000 ≤ fu) (h1 : mr m_d d_f L) (h2 : o + l ≤ L) (h3 : L ≤ 12000) (hax : a3 = 0 ∨ a3 = 1) : ∀ (N p left fc fm : Nat), l + 2 ≤ p + left → l + 2 - p ≤ N → left < fc → l + 2 - p < fm → p < 100000 → left < 20000 → ∃ r, p_X4_ofJpeg_21 fu 12000 (nI o) (nI l) d_f a3 fc (nI p) (nI left) = some r ∧ p_X10_jpeg_38 fu m_d (nI o) (nI l) a3 fm (nI p) = some r := by
  intro N
  induction N with
  | zero =>
    intro p left fc fm b1 b2 b3 b4 b5 b6
    cases fc with
    | zero => omega
    | succ fc =>
      cases fm with
      | zero => omega
      | succ fm =>
        rw [p_X4_ofJpeg_21, p_X10_jpeg_38, if_pos (show nI l ≤ nI p from nI_le (by omega) (by omega))]
        by_cases c1 : left = 0
        · subst c1
          rw [if_pos (by decide)]
          exact ⟨_, rfl, rfl⟩
        · rw [if_neg (nI_nle (by omega) (by omega)), q_at (i := p) d_f rfl (by omega) (by decide) (by omega) (by omega), ob_s, if_neg (show ¬ p + 1 ≤ l by omega), if_neg (by decide)]
          exact ⟨_, rfl, rfl⟩
  | succ N ih =>
    intro p left fc fm b1 b2 b3 b4 b5 b6
    cases fc with
    | zero => omega
    | succ fc =>
      cases fm with
      | zero => omega
      | succ fm =>
        rw [p_X4_ofJpeg_21, p_X10_jpeg_38]
        by_cases c0 : l ≤ p
        · rw [if_pos (show nI l ≤ nI p from nI_le c0 (by omega))]
          by_cases c1 : left = 0
          · subst c1
            rw [if_pos (by decide)]
            exact ⟨_, rfl, rfl⟩
          · rw [if_neg (nI_nle (by omega) (by omega)), q_at (i := p) d_f rfl (by omega) (by decide) (by omega) (by omega), ob_s, if_neg (show ¬ p + 1 ≤ l by omega), if_neg (by decide)]
            exact ⟨_, rfl, rfl⟩
        · have e2 : nI o + nI p = nI (o + p) := nI_add o p
          have h6 := oc_lt (d_f (o + p))
          rw [if_neg (nI_nle (show 0 < left by omega) (by omega)), if_neg (show ¬ nI l ≤ nI p from nI_ge (by omega) (by omega)), q_at (i := p) d_f rfl (by omega) (by decide) (by omega) (by omega), ob_s, if_pos (show p + 1 ≤ l by omega), e2, if_pos (ix_t (o + p) rfl (by omega) (by decide)), cl_nI (o + p) rfl (by omega), h1 (o + p) (by omega)]
          by_cases c5 : oc (d_f (o + p)) = 255
          · rw [if_pos (by rw [c5]; decide), if_pos (by rw [c5]; decide)]
            obtain ⟨left', rfl⟩ : ∃ x, left = x + 1 := ⟨left - 1, by omega⟩
            obtain ⟨q, d1, d2, d3, d4, d5, d6⟩ := jp_fill (a3 := a3) hfu h1 h2 h3 (p_X10_jpeg_38 fu m_d (nI o) (nI l) a3 fm) (l - p) p (by omega)
            have d7 := d4 (by omega) c5
            have e3 : p_X4_behindFill fu 12000 (nI o) (nI l) d_f (nI p) = some (nI q) := by
              unfold p_X4_behindFill
              exact d5 fu _ (by omega)
            rw [e3, ob_s, d6 fu (by omega), pk_m1, nI_1, q_at (i := q) d_f rfl (by omega) (by decide) (by omega) (by omega), ob_s, q_u2 (i := q + 1) d_f rfl (by omega) (by decide) (by omega) (by omega)]
            by_cases c6 : q < l
            · have h7 := oc_lt (d_f (o + q))
              rw [if_pos (show q + 1 ≤ l by omega), if_pos c6, sa_tab _ h7, ob_s, jp_105 h7, nm_tab _ h7, fr_tab _ h7, ob_s, ob_s, ob_s]
              generalize hm : oc (d_f (o + q)) = m at h7
              by_cases c7 : m = 1 ∨ (208 ≤ m ∧ m ≤ 215)
              · rw [if_pos (decide_eq_true c7), if_neg (show ¬ (m = 0 ∨ m = 216 ∨ m = 217) by omega), if_pos c7, nI_1]
                exact ih (q + 1) left' fc fm (by omega) (by omega) (by omega) (by omega) (by omega) (by omega)
              · rw [if_neg (by simpa using c7)]
                by_cases c8 : m = 0 ∨ m = 216 ∨ m = 217
                · rw [if_pos (decide_eq_true (show m = 216 ∨ m = 217 ∨ m = 0 by omega)), if_pos c8]
                  exact ⟨_, rfl, rfl⟩
                · rw [if_neg (show ¬ decide (m = 216 ∨ m = 217 ∨ m = 0) = true by rw [decide_eq_true_iff]; omega), if_neg c8, if_neg c7]
                  have e4 : nI q + 1 + 2 = nI (q + 3) := by rw [nI_1]; exact nI_add (q + 1) 2
                  rw [e4, nI_1]
                  by_cases c9 : q + 3 ≤ l
                  · rw [if_pos (show q + 1 + 2 ≤ l by omega), if_neg (show ¬ nI l < nI (q + 3) from nI_nlt c9 (by omega)), nI_add o (q + 1), q_two rfl h1 (by omega) h3 (by decide), ob_s]
                    unfold p_X10_jpeg_179
                    have h8 := rv2_lt (oF_lt d_f) (o + (q + 1))
                    generalize hs : rv (oF d_f) (o + (q + 1)) 2 = sv at h8
                    by_cases c10 : 2 ≤ sv
                    · have c10' : (2 : Int32) ≤ nI sv := nI_le (a := 2) c10 (by omega)
                      rw [if_pos c10', if_pos c10', in1_tab m h7, ob_s]
                      by_cases c11 : 192 ≤ m ∧ m ≤ 207 ∧ ¬ m = 196 ∧ ¬ m = 200 ∧ ¬ m = 204
                      · rw [if_pos (decide_eq_true c11), if_pos (decide_eq_true (show 192 ≤ m ∧ m ≤ 207 by omega)), if_neg (fun h => c11.2.2.1 ((i_iff (K := 196) (k := 196) rfl (by omega) (by decide)).mp h)), if_neg (fun h => c11.2.2.2.1 ((i_iff (K := 200) (k := 200) rfl (by omega) (by decide)).mp h)), if_neg (fun h => c11.2.2.2.2 ((i_iff (K := 204) (k := 204) rfl (by omega) (by decide)).mp h))]
                        unfold p_X4_ofFrame
                        rw [q_u2 (i := q + 1) d_f rfl (by omega) (by decide) (by omega) (by omega), ob_s, if_pos (show q + 1 + 2 ≤ l by omega), hs]
                        by_cases c12 : sv < 7
                        · have c12' : nI sv < 7 := nI_lt (b := 7) c12 (by decide)
                          rw [if_pos c12', if_pos c12']
                          exact ⟨_, rfl, rfl⟩
                        · have c12' : ¬ nI sv < 7 := nI_nlt (b := 7) (by omega) (by omega)
                          have e5 : nI (q + 1) + 7 = nI (q + 8) := nI_add (q + 1) 7
                          rw [if_neg c12', if_neg c12', q_holds (y := 7) (n := 7) rfl rfl (by omega) (by omega) (by decide), ob_s, e5]
                          by_cases c13 : q + 8 ≤ l
                          · rw [if_pos (decide_eq_true (show q + 1 + 7 ≤ l by omega)), if_neg (show ¬ nI l < nI (q + 8) from nI_nlt c13 (by omega))]
                            rcases hax with hx | hx <;> subst hx
                            · have e6 : nI (q + 1) + 5 = nI (q + 6) := nI_add (q + 1) 5
                              have e7 : nI (o + (q + 1)) + 5 = nI (o + (q + 6)) := nI_add (o + (q + 1)) 5
                              rw [if_pos rfl, if_pos rfl, e6, nI_add o (q + 1), e7, q_u2 (i := q + 6) d_f rfl (by omega) (by decide) (by omega) (by omega), q_two rfl h1 (by omega) h3 (by decide), ob_s, ob_s, if_pos (by omega)]
                              exact ⟨_, rfl, rfl⟩
                            · have e6 : nI (q + 1) + 3 = nI (q + 4) := nI_add (q + 1) 3
                              have e7 : nI (o + (q + 1)) + 3 = nI (o + (q + 4)) := nI_add (o + (q + 1)) 3
                              rw [if_neg (by decide), if_neg (by decide), e6, nI_add o (q + 1), e7, q_u2 (i := q + 4) d_f rfl (by omega) (by decide) (by omega) (by omega), q_two rfl h1 (by omega) h3 (by decide), ob_s, ob_s, if_pos (by omega)]
                              exact ⟨_, rfl, rfl⟩
                          · rw [if_neg (show ¬ decide (q + 1 + 7 ≤ l) = true by rw [decide_eq_true_iff]; omega), if_pos (show nI l < nI (q + 8) from nI_lt (by omega) (by omega))]
                            exact ⟨_, rfl, rfl⟩
                      · rw [if_neg (by simpa using c11), nI_add]
                        have h9 := ih (q + 1 + sv) left' fc fm (by omega) (by omega) (by omega) (by omega) (by omega) (by omega)
                        by_cases c14 : 192 ≤ m ∧ m ≤ 207
                        · rw [if_pos (decide_eq_true c14)]
                          by_cases c15 : m = 196
                          · rw [if_pos ((i_iff (K := 196) (k := 196) rfl (by omega) (by decide)).mpr c15)]
                            exact h9
                          · rw [if_neg (fun h => c15 ((i_iff (K := 196) (k := 196) rfl (by omega) (by decide)).mp h))]
                            by_cases c16 : m = 200
                            · rw [if_pos ((i_iff (K := 200) (k := 200) rfl (by omega) (by decide)).mpr c16)]
                              exact h9
                            · rw [if_neg (fun h => c16 ((i_iff (K := 200) (k := 200) rfl (by omega) (by decide)).mp h)), if_pos ((i_iff (K := 204) (k := 204) rfl (by omega) (by decide)).mpr (show m = 204 by omega))]
                              exact h9
                        · rw [if_neg (by simpa using c14)]
                          exact h9
                    · have c10' : ¬ (2 : Int32) ≤ nI sv := nI_ge (b := 2) (by omega) (by decide)
                      rw [if_neg c10', if_neg c10']
                      exact ⟨_, rfl, rfl⟩
                  · rw [if_neg (show ¬ q + 1 + 2 ≤ l by omega), if_pos (show nI l < nI (q + 3) from nI_lt (by omega) (by omega))]
                    unfold p_X10_jpeg_179
                    rw [if_neg (by decide), if_neg (by decide)]
                    exact ⟨_, rfl, rfl⟩
            · rw [if_neg (show ¬ q + 1 ≤ l by omega), if_neg c6]
              have e8 : p_X4_standsAlone (-1) = some false := by decide
              have e9 : p_X4_hasNoMeasure (-1) = some true := by decide
              have e10 := jp_105 (fu := fu) (m_d := m_d) (a3 := a3) (m := 0) (by decide) (p_X10_jpeg_38 fu m_d (nI o) (nI l) a3 fm) (nI o) (nI l) (nI q)
              rw [if_pos (Or.inl rfl)] at e10
              rw [e8, ob_s, if_neg (by decide), ob_s, e9, ob_s, if_pos rfl]
              exact ⟨_, rfl, e10⟩
          · rw [if_neg (fun h => c5 ((i_iff (K := 255) (k := 255) rfl (by omega) (by decide)).mp h)), if_neg (fun h => c5 ((i_iff (K := 255) (k := 255) rfl (by omega) (by decide)).mp h))]
            exact ⟨_, rfl, rfl⟩
theorem q_jpeg (hfu : 20000 ≤ fu) (h1 : mr m_d d_f L) (h2 : o + l ≤ L) (h3 : L ≤ 12000) (hax : a3 = 0 ∨ a3 = 1) : ∃ r, p_X4_ofJpeg fu 12000 (nI o) (nI l) d_f a3 = some r ∧ p_X10_jpeg fu m_d (nI o) (nI l) a3 = some r := by
  unfold p_X4_ofJpeg p_X10_jpeg
  rw [q_u2 (x := 0) (i := 0) d_f rfl (by omega) (by decide) (by decide) (by omega), ob_s]
  by_cases c1 : l < 2
  · rw [if_neg (show ¬ 0 + 2 ≤ l by omega), if_neg (by decide), if_pos (show nI l < 2 from nI_lt (b := 2) c1 (by decide))]
    exact ⟨_, rfl, rfl⟩
  · have h6 := oc_lt (d_f o)
    have h7 := oc_lt (d_f (o + 1))
    have e1 : nI o + 1 = nI (o + 1) := nI_1 o
    rw [if_pos (show 0 + 2 ≤ l by omega), if_neg (show ¬ nI l < 2 from nI_nlt (b := 2) (by omega) (by omega)), if_pos (ix_t o rfl (by omega) (by decide)), e1, if_pos (ix_t (o + 1) rfl (by omega) (by decide)), cl_nI o rfl (by omega), cl_nI (o + 1) rfl (by omega), h1 o (by omega), h1 (o + 1) (by omega), Nat.add_zero, rv2_eq]
    show ∃ r, (if nI (oc (d_f o) * 256 + oc (d_f (o + 1))) = 65496 then _ else _) = some r ∧ _
    by_cases c2 : oc (d_f o) = 255
    · by_cases c3 : oc (d_f (o + 1)) = 216
      · rw [c2, c3, if_pos (by decide), if_pos (by decide), if_pos (by decide)]
        exact jp_loop hfu h1 h2 h3 hax (l + 2) 2 l fu fu (by omega) (by omega) (by omega) (by omega) (by omega) (by omega)
      · rw [if_neg (fun h => c3 (by have := (i_iff (K := 65496) (k := 65496) rfl (by omega) (by decide)).mp h; omega)), if_pos (by rw [c2]; decide), if_neg (fun h => c3 ((i_iff (K := 216) (k := 216) rfl (by omega) (by decide)).mp h))]
        exact ⟨_, rfl, rfl⟩
    · rw [if_neg (fun h => c2 (by have := (i_iff (K := 65496) (k := 65496) rfl (by omega) (by decide)).mp h; omega)), if_neg (fun h => c2 ((i_iff (K := 255) (k := 255) rfl (by omega) (by decide)).mp h))]
      exact ⟨_, rfl, rfl⟩
theorem q_rect (hfu : 20000 ≤ fu) (h1 : mr m_d d_f L) (h2 : o + l ≤ L) (h3 : L ≤ 12000) (hax : a3 = 0 ∨ a3 = 1) : ∃ r, p_X4_ofRect fu 12000 (nI o) (nI l) d_f a3 = some r ∧ (if nI l < 8 then (some ((-2))) else ((p_X10_four 12000 m_d (nI o + (4 * a3))).bind (fun z37 => some (z37)))) = some r := by
  unfold p_X4_ofRect
  by_cases c1 : l < 8
  · have c1' : nI l < 8 := nI_lt (b := 8) c1 (by decide)
    rw [if_pos c1', if_pos c1']
    exact ⟨_, rfl, rfl⟩
  · have c1' : ¬ nI l < 8 := nI_nlt (b := 8) (by omega) (by omega)
    obtain ⟨a, ha, e1⟩ : ∃ a : Nat, a ≤ 4 ∧ (4 : Int32) * a3 = nI a := by
      rcases hax with hx | hx <;> subst hx
      · exact ⟨0, by omega, by decide⟩
      · exact ⟨4, by omega, by decide⟩
    rw [if_neg c1', if_neg c1', e1, nI_add, q_u4 (i := a) d_f rfl (by omega) (by decide) (by omega) (by omega), q_four rfl h1 (by omega) h3 (by decide), ob_s, ob_s, if_pos (by omega)]
    exact ⟨_, rfl, rfl⟩
theorem q_png (hfu : 20000 ≤ fu) (h1 : mr m_d d_f L) (h2 : o + l ≤ L) (h3 : L ≤ 12000) (hax : a3 = 0 ∨ a3 = 1) : ∃ r, p_X4_ofPng fu 12000 (nI o) (nI l) d_f a3 = some r ∧ (p_X10_isPng m_d (nI o) (nI l)).bind (fun z66 => if z66 = true then ((p_X10_four 12000 m_d ((nI o + 16) + (4 * a3))).bind (fun z84 => some (z84))) else (some ((-2)))) = some r := by
  unfold p_X4_ofPng p_X10_isPng
  have e0 : ∀ x, p_X4_ofPng_51 fu 12000 (nI o) (nI l) d_f x 0 = some (-2) := fun x => by unfold p_X4_ofPng_51; rw [if_pos rfl]
  by_cases c1 : l < 24
  · have c1' : nI l < 24 := nI_lt (b := 24) c1 (by decide)
    rw [if_pos c1', if_pos c1', e0]
    exact ⟨_, rfl, rfl⟩
  · have c1' : ¬ nI l < 24 := nI_nlt (b := 24) (by omega) (by omega)
    have e4 : nI o + 4 = nI (o + 4) := nI_add o 4
    have e12 : nI o + 12 = nI (o + 12) := nI_add o 12
    have g0 := rv4_lt (oF_lt d_f) o
    have g4 := rv4_lt (oF_lt d_f) (o + 4)
    have g12 := rv4_lt (oF_lt d_f) (o + 12)
    rw [if_neg c1', if_neg c1', e4, e12, q_kindIn rfl h1 (by omega) h3 (by decide), q_kindIn rfl h1 (by omega) h3 (by decide), q_kindIn rfl h1 (by omega) h3 (by decide), q_u4 (x := 0) (i := 0) d_f rfl (by omega) (by decide) (by omega) (by omega), q_u4 (x := 4) (i := 4) d_f rfl (by omega) (by decide) (by omega) (by omega), q_u4 (x := 12) (i := 12) d_f rfl (by omega) (by decide) (by omega) (by omega), if_pos (show 0 + 4 ≤ l by omega), if_pos (show 4 + 4 ≤ l by omega), if_pos (show 12 + 4 ≤ l by omega), ob_s, ob_s, ob_s, ob_s, ob_s, ob_s, Nat.add_zero, e0]
    have s0 := l_iff (K := 2303741511) (k := 2303741511) rfl g0 (by decide)
    have s1 := i_iff (K := (-1991225785)) (k := 2303741511) (by decide) g0 (by decide)
    have s2 := l_iff (K := 218765834) (k := 218765834) rfl g4 (by decide)
    have s3 := i_iff (K := 218765834) (k := 218765834) rfl g4 (by decide)
    have s4 := l_iff (K := 1229472850) (k := 1229472850) rfl g12 (by decide)
    have s5 := i_iff (K := 1229472850) (k := 1229472850) rfl g12 (by decide)
    by_cases d0 : rv (oF d_f) o 4 = 2303741511
    · rw [if_pos (s0.mpr d0), if_pos (s1.mpr d0)]
      by_cases d1 : rv (oF d_f) (o + 4) 4 = 218765834
      · rw [if_pos (s2.mpr d1), if_pos (s3.mpr d1)]
        by_cases d2 : rv (oF d_f) (o + 12) 4 = 1229472850
        · rw [if_pos (s4.mpr d2), if_pos (s5.mpr d2), ob_s, if_pos rfl]
          unfold p_X4_ofPng_51
          obtain ⟨a, ha, e1⟩ : ∃ a : Nat, a ≤ 4 ∧ (4 : Int32) * a3 = nI a := by
            rcases hax with hx | hx <;> subst hx
            · exact ⟨0, by omega, by decide⟩
            · exact ⟨4, by omega, by decide⟩
          have e2 : (16 : Int32) + nI a = nI (16 + a) := nI_add 16 a
          have e3 : nI o + 16 + nI a = nI (o + (16 + a)) := by
            have e5 : nI o + 16 = nI (o + 16) := nI_add o 16
            rw [e5, nI_add, Nat.add_assoc]
          rw [if_neg (by decide), e1, e2, e3, q_u4 (i := 16 + a) d_f rfl (by omega) (by decide) (by omega) (by omega), q_four rfl h1 (by omega) h3 (by decide), ob_s, ob_s, if_pos (by omega)]
          exact ⟨_, rfl, rfl⟩
        · rw [if_neg (fun h => d2 (s4.mp h)), if_neg (fun h => d2 (s5.mp h))]
          exact ⟨_, rfl, rfl⟩
      · rw [if_neg (fun h => d1 (s2.mp h)), if_neg (fun h => d1 (s3.mp h))]
        exact ⟨_, rfl, rfl⟩
    · rw [if_neg (fun h => d0 (s0.mp h)), if_neg (fun h => d0 (s1.mp h))]
      exact ⟨_, rfl, rfl⟩
theorem q_size {c k : Nat} {st : Nat → Nat} {h_k m_k m_s : Nat → Int32} (hfu : 20000 ≤ fu) (h4 : HC c st) (h6 : mr m_d d_f (st c)) (h7 : m_k k = h_k k) (h9 : ∀ k, k < c → m_s k = nI (st (k + 1) - st k)) (h14 : k < c) (hax : a3 = 0 ∨ a3 = 1) : ∃ r, p_X4_measure fu 12000 (nI (st k)) (nI (st (k + 1) - st k)) d_f (h_k k) a3 = some r ∧ p_X10_sizeOf fu m_d m_k m_s (nI k) a3 = some r := by
  have h11 := h4.1
  have h12 := h4.2.2.2
  have h15 := st_le h4 (show k + 1 ≤ c by omega) (Nat.le_refl c)
  have h16 := h4.2.2.1 k h14
  have hx : ix (nI k) 61 = true := ix_t k rfl (by omega) (by decide)
  unfold p_X4_measure p_X10_sizeOf
  rw [q_fromOf hfu h4 (by omega) h9, ob_s]
  simp only [hx, eq_self, if_true]
  rw [cl_nI k rfl (by omega), h7, h9 k h14]
  by_cases k1 : h_k k = 1246774599
  · obtain ⟨r, r1, r2⟩ := q_jpeg (a3 := a3) (o := st k) (l := st (k + 1) - st k) hfu h6 (by omega) h12 hax
    rw [k1, if_pos rfl, if_neg (show ¬ (1246774599 : Int32) = 1382376308 by decide), if_neg (show ¬ (1246774599 : Int32) = 1347307296 by decide), if_pos rfl, r1, r2]
    exact ⟨_, rfl, rfl⟩
  · rw [if_neg k1, if_neg k1]
    by_cases k2 : h_k k = 1347307296
    · obtain ⟨r, r1, r2⟩ := q_png (a3 := a3) (o := st k) (l := st (k + 1) - st k) hfu h6 (by omega) h12 hax
      rw [k2, if_pos rfl, if_neg (show ¬ (1347307296 : Int32) = 1382376308 by decide), if_pos rfl, r1, r2]
      exact ⟨_, rfl, rfl⟩
    · rw [if_neg k2, if_neg k2]
      by_cases k3 : h_k k = 1382376308
      · obtain ⟨r, r1, r2⟩ := q_rect (a3 := a3) (o := st k) (l := st (k + 1) - st k) hfu h6 (by omega) h12 hax
        rw [k3, if_pos rfl, if_pos rfl, r1, r2]
        exact ⟨_, rfl, rfl⟩
      · rw [if_neg k3, if_neg k3]
        exact ⟨_, rfl, rfl⟩
end JP
