/-! sizes and sounds -/
section SZ
variable {fu : Nat} {h_c h_e d_l : Int32} {d_f : Nat → Int8} {h_k h_s h_u : Nat → Int32} {h_n : Nat → Int64} {h_g : Nat → Int32} {m_dl : Int32} {m_d m_k m_s : Nat → Int32} {m_c : Int32} {m_u : Nat → Int32} {m_n : Nat → Int64} {m_m : Nat → Int32} {m_e : Int32}
theorem q_axis (x : Int32) : (x = 0 ∨ x = 1) ∧ p_X9_isAxis x = some true ∧ p_X10_in (Int32.toInt64 x) 0 1 = some true ∨ p_X9_isAxis x = some false ∧ p_X10_in (Int32.toInt64 x) 0 1 = some false := by
  rw [q_in32 (q := 0) (r := 1) x 0 1 rfl rfl rfl]
  unfold p_X9_isAxis
  by_cases c0 : x = 0
  · subst c0
    exact Or.inl ⟨Or.inl rfl, by decide, by decide⟩
  · by_cases c1 : x = 1
    · subst c1
      exact Or.inl ⟨Or.inr rfl, by decide, by decide⟩
    · refine Or.inr ⟨by rw [if_neg c0, if_neg c1], ?_⟩
      congr 1
      refine decide_eq_false (fun h => ?_)
      obtain ⟨j, h16, rfl⟩ := nI_of2 (M := 1) (n := 1) (by decide) (Int32.not_lt.mpr h.1) h.2
      rcases (show j = 0 ∨ j = 1 by omega) with h17 | h17 <;> subst h17
      · exact c0 rfl
      · exact c1 rfl
theorem st_size (hfu : 20000 ≤ fu) (h3 : RH h_c h_e d_l d_f h_k h_s h_u h_n h_g m_dl m_d m_k m_s m_c m_u m_n m_m m_e) (a1 a2 : Int32) : ∃ r, p_X9_size fu h_c d_l d_f h_k h_s a1 a2 = some r ∧ p_X10_size fu m_c m_d m_k m_s a1 a2 = some r := by
  obtain ⟨c, e, st, g, h4, h5, ⟨b5, b6, b7, b8, b9, b10⟩, h6, h7, h8, h9, h10⟩ := h3
  subst b5 b6 b7 b8 b9 b10
  have h11 := h4.1
  unfold p_X9_size p_X10_size
  rcases pk_ix a1 (n := c) (by omega) with h13 | h13 | ⟨k, h14, rfl⟩
  · rw [q_hasChunk_f (Or.inl h13), q_isChunk_f (Or.inl h13) h11]
    exact ⟨_, rfl, rfl⟩
  · rw [q_hasChunk_f (Or.inr h13), q_isChunk_f (Or.inr h13) h11]
    exact ⟨_, rfl, rfl⟩
  · rw [q_hasChunk_t h14 h11, q_isChunk_t h14 h11, ob_s, ob_s, if_pos rfl, if_pos rfl]
    rcases q_axis a2 with ⟨hax, x1, x2⟩ | ⟨x1, x2⟩
    · obtain ⟨r, r1, r2⟩ := q_size (h_k := h_k) (a3 := a2) hfu h4 h6 (h7 k h14) h9 h14 hax
      rw [x1, x2, ob_s, ob_s, if_pos rfl, if_pos rfl, q_kindOf h14 h11, ob_s, q_dataOf h4 h14 h8, ob_s, r1, r2]
      exact ⟨_, rfl, rfl⟩
    · rw [x1, x2]
      exact ⟨_, rfl, rfl⟩
theorem lN_ad {x y : Int64} {a b : Nat} (h1 : x = lN a) (h2 : y = lN b) : x + y = lN (a + b) := by subst h1 h2; exact lN_add a b
theorem comm_loop {o l L : Nat} {c k : Nat} (what : Int32) (hfu : 20000 ≤ fu) (h1 : mr m_d d_f L) (h2 : o + l ≤ L) (h3 : L ≤ 12000) (hk : k < c) (hc : c ≤ 60) (hs : m_s k = nI l) : ∀ (N p left fc fm : Nat), l ≤ p + left → l + 1 - p ≤ N → left < fc → l + 1 - p < fm → p < 30000 → left < 20000 → ∃ r, p_X10_commOf_47 fu m_d m_k m_s (nI k) fm (nI o) (lN p) = some r ∧ ((r = (-2) ∧ p_X7_measure_23 fu 12000 (nI o) (nI l) d_f what fc (nI p) (nI left) = some (-2)) ∨ (∃ q, r = nI (o + q) ∧ q + 18 ≤ l ∧ p_X7_measure_23 fu 12000 (nI o) (nI l) d_f what fc (nI p) (nI left) = (p_X7_ofComm fu 12000 (nI o) (nI l) d_f (nI q) what).bind (fun z => some z))) := by
  intro N
  induction N with
  | zero =>
    intro p left fc fm b1 b2 b3 b4 b5 b6
    cases fc with
    | zero => omega
    | succ fc =>
      cases fm with
      | zero => omega
      | succ fm =>
        have e1 : lN p + 8 = lN (p + 8) := lN_add p 8
        rw [p_X7_measure_23, p_X10_commOf_47, if_pos (ix_t k rfl (by omega) (by decide)), cl_nI k rfl (by omega), hs, nI_l (by omega), e1, if_pos ((pk_lLT (by omega) (by omega)).mpr (by omega))]
        refine ⟨_, rfl, Or.inl ⟨rfl, ?_⟩⟩
        by_cases c1 : left = 0
        · subst c1
          rw [if_pos (by decide)]
        · rw [if_neg (nI_nle (by omega) (by omega)), q_holds (y := 8) (n := 8) rfl rfl (by omega) (by omega) (by decide), ob_s, if_neg (show ¬ decide (p + 8 ≤ l) = true by rw [decide_eq_true_iff]; omega)]
  | succ N ih =>
    intro p left fc fm b1 b2 b3 b4 b5 b6
    cases fc with
    | zero => omega
    | succ fc =>
      cases fm with
      | zero => omega
      | succ fm =>
        have e1 : lN p + 8 = lN (p + 8) := lN_add p 8
        have hx : ix (nI k) 61 = true := ix_t k rfl (by omega) (by decide)
        rw [p_X7_measure_23, p_X10_commOf_47]
        simp only [hx, eq_self, if_true]
        rw [cl_nI k rfl (by omega), hs, nI_l (n := l) (by omega), e1]
        by_cases c2 : p + 8 ≤ l
        · obtain ⟨left', rfl⟩ : ∃ x, left = x + 1 := ⟨left - 1, by omega⟩
          have e2 : nI p + 4 = nI (p + 4) := nI_add p 4
          have e3 : nI p + 8 - 8 = nI p := by
            have e4 : nI p + 8 = nI (p + 8) := nI_add p 8
            rw [e4]
            exact pk_sub (a := p + 8) (b := 8) (by omega)
          have e5 : nI o + (lN p).toInt32 = nI (o + p) := by rw [lN_i]; exact nI_add o p
          have e6 : nI (o + p) + 4 = nI (o + p + 4) := nI_add (o + p) 4
          have e7 : nI l - nI p - 8 = nI (l - p - 8) := by
            rw [pk_sub (by omega)]
            exact pk_sub (a := l - p) (b := 8) (by omega)
          rw [if_neg (nI_nle (by omega) (by omega)), q_holds (y := 8) (n := 8) rfl rfl (by omega) (by omega) (by decide), ob_s, if_pos (decide_eq_true c2), if_neg (show ¬ lN l < lN (p + 8) from fun h => by have := (pk_lLT (by omega) (by omega)).mp h; omega), e2, e3, e5, e6, e7, pk_m1, q_u4 (i := p + 4) d_f rfl (by omega) (by decide) (by omega) (by omega), ob_s, q_u4 (i := p) d_f rfl (by omega) (by decide) (by omega) (by omega), ob_s, if_pos (show p + 4 + 4 ≤ l by omega), if_pos (show p + 4 ≤ l by omega), q_four rfl h1 (by omega) h3 (by decide), ob_s, q_kindIn rfl h1 (by omega) h3 (by decide), ob_s, nI_l (n := l - p - 8) (by omega), show o + (p + 4) = o + p + 4 by omega]
          have g1 := rv4_lt (oF_lt d_f) (o + p + 4)
          have g2 := rv4_lt (oF_lt d_f) (o + p)
          generalize hn : rv (oF d_f) (o + p + 4) 4 = n at g1
          generalize hd : rv (oF d_f) (o + p) 4 = kd at g2
          have e8 : lN (p + 8) + lN n = lN (p + 8 + n) := lN_add _ _
          rw [e8]
          by_cases c3 : n ≤ l - p - 8
          · rw [if_pos ((pk_lLE (by omega) (by omega)).mpr c3), if_pos ((pk_lLE (by omega) (by omega)).mpr (show p + 8 + n ≤ l by omega))]
            have e9 : lN n &&& 1 = lN (n % 2) := wb_a1 (by omega)
            have e10 : lN n - lN n / 2 * 2 = lN (n % 2) := pk_lRem (b := 2) (by omega) (by decide) (by decide)
            have e11 : nI p + 8 + (lN n + lN (n % 2)).toInt32 = nI (p + 8 + n + n % 2) := by
              rw [lN_add, lN_i]
              have e12 : nI p + 8 = nI (p + 8) := nI_add p 8
              rw [e12, nI_add, Nat.add_assoc (p + 8)]
            have e13 : lN p + (8 + lN n + lN (n % 2)) = lN (p + 8 + n + n % 2) := by
              have e14 : (8 : Int64) + lN n = lN (8 + n) := lN_add 8 n
              rw [e14, lN_add, lN_add]
              congr 1
              omega
            have e15 : nI (o + p) + 8 = nI (o + (p + 8)) := nI_add (o + p) 8
            have e16 : nI p + 8 = nI (p + 8) := nI_add p 8
            rw [e9, e10, e11, e13, e15, e16]
            have h9 := ih (p + 8 + n + n % 2) left' fc fm (by omega) (by omega) (by omega) (by omega) (by omega) (by omega)
            have s1 := l_iff (K := 1129270605) (k := 1129270605) (r := kd) rfl g2 (by decide)
            have s2 := i_iff (K := 1129270605) (k := 1129270605) (r := kd) rfl g2 (by decide)
            by_cases c4 : kd = 1129270605
            · rw [if_pos (s1.mpr c4), if_pos (s2.mpr c4)]
              by_cases c5 : n < 18
              · have c5' : lN n < 18 := (pk_lLT (b := 18) (by omega) (by decide)).mpr c5
                rw [if_pos c5', if_pos c5']
                exact h9
              · have c5' : ¬ lN n < 18 := fun h => c5 ((pk_lLT (b := 18) (by omega) (by decide)).mp h)
                rw [if_neg c5', if_neg c5']
                exact ⟨_, rfl, Or.inr ⟨p + 8, rfl, by omega, rfl⟩⟩
            · rw [if_neg (fun h => c4 (s1.mp h)), if_neg (fun h => c4 (s2.mp h))]
              exact h9
          · rw [if_neg (fun h => c3 ((pk_lLE (by omega) (by omega)).mp h)), if_neg (show ¬ lN (p + 8 + n) ≤ lN l from fun h => by have := (pk_lLE (by omega) (by omega)).mp h; omega)]
            exact ⟨_, rfl, Or.inl ⟨rfl, rfl⟩⟩
        · rw [if_pos (show lN l < lN (p + 8) from (pk_lLT (by omega) (by omega)).mpr (by omega))]
          refine ⟨_, rfl, Or.inl ⟨rfl, ?_⟩⟩
          by_cases c1 : left = 0
          · subst c1
            rw [if_pos (by decide)]
          · rw [if_neg (nI_nle (by omega) (by omega)), q_holds (y := 8) (n := 8) rfl rfl (by omega) (by omega) (by decide), ob_s, if_neg (show ¬ decide (p + 8 ≤ l) = true by rw [decide_eq_true_iff]; omega)]
theorem st_sound (hfu : 20000 ≤ fu) (h3 : RH h_c h_e d_l d_f h_k h_s h_u h_n h_g m_dl m_d m_k m_s m_c m_u m_n m_m m_e) (a1 a2 : Int32) : ∃ r, p_X9_sound fu h_c d_l d_f h_k h_s a1 a2 = some r ∧ p_X10_sound fu m_c m_d m_k m_s a1 a2 = some r := by
  obtain ⟨c, e, st, g, h4, h5, ⟨b5, b6, b7, b8, b9, b10⟩, h6, h7, h8, h9, h10⟩ := h3
  subst b5 b6 b7 b8 b9 b10
  have h11 := h4.1
  have h12 := h4.2.2.2
  unfold p_X9_sound p_X10_sound
  rcases pk_ix a1 (n := c) (by omega) with h13 | h13 | ⟨k, h14, rfl⟩
  · rw [q_hasChunk_f (Or.inl h13), q_isChunk_f (Or.inl h13) h11]
    exact ⟨_, rfl, rfl⟩
  · rw [q_hasChunk_f (Or.inr h13), q_isChunk_f (Or.inr h13) h11]
    exact ⟨_, rfl, rfl⟩
  · have h15 := st_le h4 (show k + 1 ≤ c by omega) (Nat.le_refl c)
    have h16 := h4.2.2.1 k h14
    have hx : ix (nI k) 61 = true := ix_t k rfl (by omega) (by decide)
    rw [q_hasChunk_t h14 h11, q_isChunk_t h14 h11, ob_s, ob_s, if_pos rfl, if_pos rfl, q_in32 (q := 0) (r := 3) a2 0 3 rfl rfl rfl, ob_s]
    by_cases w0 : a2 < 0
    · rw [if_pos w0, if_neg (by rw [decide_eq_true_iff]; exact fun h => absurd w0 (Int32.not_lt.mpr h.1))]
      exact ⟨_, rfl, rfl⟩
    · rw [if_neg w0]
      by_cases w1 : a2 ≤ 3
      · rw [if_pos w1, if_pos (decide_eq_true ⟨Int32.not_lt.mp w0, w1⟩), q_kindOf h14 h11, ob_s]
        have ec : ∃ r, p_X10_commOf fu m_d m_k m_s (nI k) = some r ∧ ((r = (-2) ∧ (if h_k k = 1179603533 then ((p_X0_dataOf (nI c) (nI (st c)) h_s (nI k)).bind (fun z42 => (p_X7_measure fu 12000 z42.1 z42.2 d_f a2).bind (fun z46 => some (z46)))) else (some ((-2)))) = some (-2)) ∨ (∃ q, r = nI (st k + q) ∧ q + 18 ≤ st (k + 1) - st k ∧ (if h_k k = 1179603533 then ((p_X0_dataOf (nI c) (nI (st c)) h_s (nI k)).bind (fun z42 => (p_X7_measure fu 12000 z42.1 z42.2 d_f a2).bind (fun z46 => some (z46)))) else (some ((-2)))) = p_X7_ofComm fu 12000 (nI (st k)) (nI (st (k + 1) - st k)) d_f (nI q) a2)) := by
          unfold p_X10_commOf
          rw [q_fromOf hfu h4 (by omega) h9, ob_s]
          simp only [hx, eq_self, if_true]
          rw [cl_nI k rfl (by omega), h7 k h14, h9 k h14]
          by_cases k1 : h_k k = 1179603533
          · rw [if_pos k1, if_pos k1, q_dataOf h4 h14 h8, ob_s]
            unfold p_X7_measure
            rw [q_u4 (x := 0) (i := 0) d_f rfl (by omega) (by decide) (by decide) (by omega), ob_s]
            by_cases k2 : 4 ≤ st (k + 1) - st k
            · rw [if_pos (show 0 + 4 ≤ st (k + 1) - st k by omega), if_neg (show ¬ nI (st (k + 1) - st k) < 4 from nI_nlt (b := 4) k2 (by omega)), q_kindIn rfl h6 (by omega) h12 (by decide), ob_s, Nat.add_zero]
              have g2 := rv4_lt (oF_lt d_f) (st k)
              have s1 := l_iff (K := 1095321158) (k := 1095321158) rfl g2 (by decide)
              have s2 := i_iff (K := 1095321158) (k := 1095321158) rfl g2 (by decide)
              by_cases k3 : rv (oF d_f) (st k) 4 = 1095321158
              · rw [if_pos (s1.mpr k3), if_pos (s2.mpr k3)]
                obtain ⟨r, r1, r2⟩ := comm_loop (m_k := m_k) a2 hfu h6 (show st k + (st (k + 1) - st k) ≤ st c by omega) h12 h14 h11 (h9 k h14) (st (k + 1) - st k + 1) 4 (st (k + 1) - st k) fu fu (by omega) (by omega) (by omega) (by omega) (by omega) (by omega)
                refine ⟨r, r1, ?_⟩
                have r2' : (r = -2 ∧ p_X7_measure_23 fu 12000 (nI (st k)) (nI (st (k + 1) - st k)) d_f a2 fu 4 (nI (st (k + 1) - st k)) = some (-2)) ∨ (∃ q, r = nI (st k + q) ∧ q + 18 ≤ st (k + 1) - st k ∧ p_X7_measure_23 fu 12000 (nI (st k)) (nI (st (k + 1) - st k)) d_f a2 fu 4 (nI (st (k + 1) - st k)) = (p_X7_ofComm fu 12000 (nI (st k)) (nI (st (k + 1) - st k)) d_f (nI q) a2).bind (fun z => some z)) := r2
                rcases r2' with ⟨t1, t2⟩ | ⟨q, t1, t2, t3⟩
                · exact Or.inl ⟨t1, by rw [t2]; rfl⟩
                · refine Or.inr ⟨q, t1, t2, ?_⟩
                  rw [t3]
                  cases p_X7_ofComm fu 12000 (nI (st k)) (nI (st (k + 1) - st k)) d_f (nI q) a2 <;> rfl
              · rw [if_neg (fun h => k3 (s1.mp h)), if_neg (fun h => k3 (s2.mp h))]
                exact ⟨_, rfl, Or.inl ⟨rfl, rfl⟩⟩
            · rw [if_neg (show ¬ 0 + 4 ≤ st (k + 1) - st k by omega), if_pos (show nI (st (k + 1) - st k) < 4 from nI_lt (b := 4) (by omega) (by decide))]
              exact ⟨_, rfl, Or.inl ⟨rfl, rfl⟩⟩
          · rw [if_neg k1, if_neg k1]
            exact ⟨_, rfl, Or.inl ⟨rfl, rfl⟩⟩
        obtain ⟨r, r1, r2⟩ := ec
        rw [r1, ob_s]
        rcases r2 with ⟨t1, t2⟩ | ⟨q, t1, t2, t3⟩
        · rw [t2, t1, if_pos rfl]
          exact ⟨_, rfl, rfl⟩
        · rw [t3, t1, if_neg (nI_n2 (by omega))]
          unfold p_X7_ofComm
          obtain ⟨w, w2, rfl⟩ := nI_of2 (M := 3) (n := 3) (by decide) w0 w1
          have a2e : nI q + 2 = nI (q + 2) := nI_add q 2
          have a6e : nI q + 6 = nI (q + 6) := nI_add q 6
          have a8e : nI q + 8 = nI (q + 8) := nI_add q 8
          have m2e : nI (st k + q) + 2 = nI (st k + (q + 2)) := nI_add (st k + q) 2
          have m6e : nI (st k + q) + 6 = nI (st k + (q + 6)) := nI_add (st k + q) 6
          have m8e : nI (st k + q) + 8 = nI (st k + (q + 8)) := nI_add (st k + q) 8
          have m10e : nI (st k + q) + 10 = nI (st k + (q + 10)) := nI_add (st k + q) 10
          have m14e : nI (st k + q) + 14 = nI (st k + (q + 14)) := nI_add (st k + q) 14
          rcases (show w = 0 ∨ w = 1 ∨ w = 2 ∨ w = 3 by omega) with h17 | h17 | h17 | h17 <;> subst h17
          · rw [if_pos (show nI 0 = 0 from rfl), if_neg (show ¬ (3 : Int32) ≤ nI 0 by decide), if_pos (show nI 0 = 0 from rfl), q_u2 (i := q) d_f rfl (by omega) (by decide) (by omega) (by omega), ob_s, if_pos (by omega), q_two rfl h6 (by omega) h12 (by decide), ob_s]
            exact ⟨_, rfl, rfl⟩
          · rw [if_neg (show ¬ nI 1 = 0 by decide), if_pos (show nI 1 = 1 from rfl), if_neg (show ¬ (3 : Int32) ≤ nI 1 by decide), if_neg (show ¬ nI 1 = 0 by decide), if_pos (show nI 1 = 1 from rfl), a2e, m2e, q_u4 (i := q + 2) d_f rfl (by omega) (by decide) (by omega) (by omega), ob_s, if_pos (by omega), q_four rfl h6 (by omega) h12 (by decide), ob_s]
            exact ⟨_, rfl, rfl⟩
          · rw [if_neg (show ¬ nI 2 = 0 by decide), if_neg (show ¬ nI 2 = 1 by decide), if_pos (show nI 2 = 2 from rfl), if_neg (show ¬ (3 : Int32) ≤ nI 2 by decide), if_neg (show ¬ nI 2 = 0 by decide), if_neg (show ¬ nI 2 = 1 by decide), a6e, m6e, q_u2 (i := q + 6) d_f rfl (by omega) (by decide) (by omega) (by omega), ob_s, if_pos (by omega), q_two rfl h6 (by omega) h12 (by decide), ob_s]
            exact ⟨_, rfl, rfl⟩
          · rw [if_neg (show ¬ nI 3 = 0 by decide), if_neg (show ¬ nI 3 = 1 by decide), if_neg (show ¬ nI 3 = 2 by decide), if_pos (show nI 3 = 3 from rfl), if_pos (show (3 : Int32) ≤ nI 3 by decide), a8e, m8e, m10e, m14e]
            unfold p_X7_rate
            have a10e : nI (q + 8) + 2 = nI (q + 10) := nI_add (q + 8) 2
            have a14e : nI (q + 8) + 6 = nI (q + 14) := nI_add (q + 8) 6
            rw [a10e, a14e, q_u2 (i := q + 8) d_f rfl (by omega) (by decide) (by omega) (by omega), ob_s, if_pos (show q + 8 + 2 ≤ st (k + 1) - st k by omega), q_u4 (i := q + 10) d_f rfl (by omega) (by decide) (by omega) (by omega), ob_s, q_u4 (i := q + 14) d_f rfl (by omega) (by decide) (by omega) (by omega), ob_s, if_pos (show q + 10 + 4 ≤ st (k + 1) - st k by omega), if_pos (show q + 14 + 4 ≤ st (k + 1) - st k by omega), q_two rfl h6 (by omega) h12 (by decide), ob_s, q_four rfl h6 (by omega) h12 (by decide), ob_s, q_four rfl h6 (by omega) h12 (by decide), ob_s]
            have g3 := rv2_lt (oF_lt d_f) (st k + (q + 8))
            generalize hv : rv (oF d_f) (st k + (q + 8)) 2 = ev at g3
            have s1 : nI ev ≤ 16445 ↔ ev ≤ 16445 := nI_leI (b := 16445) (by omega) (by decide)
            have s2 : (1 : Int32) ≤ 16446 - nI ev ↔ 1 + ev ≤ 16446 := le_sub_iff (a := 16446) (b := ev) (c := 1) (by decide) (by omega) (by decide)
            by_cases w5 : ev ≤ 16445
            · rw [if_pos (s1.mpr w5), if_pos (s2.mpr (by omega))]
              split
              · exact ⟨_, rfl, rfl⟩
              · exact ⟨_, rfl, rfl⟩
            · rw [if_neg (fun h => w5 (s1.mp h)), if_neg (fun h => w5 (by have := s2.mp h; omega))]
              exact ⟨_, rfl, rfl⟩
      · rw [if_neg w1, if_neg (by rw [decide_eq_true_iff]; exact fun h => w1 h.2)]
        exact ⟨_, rfl, rfl⟩
end SZ
