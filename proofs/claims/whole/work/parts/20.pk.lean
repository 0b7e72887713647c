/-! scaled -/
section SY
variable {fu : Nat} {h_c h_e d_l : Int32} {d_f : Nat → Int8} {h_k h_s h_u : Nat → Int32} {h_n : Nat → Int64} {h_g : Nat → Int32} {m_dl : Int32} {m_d m_k m_s : Nat → Int32} {m_c : Int32} {m_u : Nat → Int32} {m_n : Nat → Int64} {m_m : Nat → Int32} {m_e : Int32}
theorem q_side (x : Int32) : (∃ j, 1 ≤ j ∧ j ≤ 65535 ∧ x = nI j) ∧ p_X9_isSide (Int32.toInt64 x) = some true ∧ p_X10_in (Int32.toInt64 x) 1 65535 = some true ∨ p_X9_isSide (Int32.toInt64 x) = some false ∧ p_X10_in (Int32.toInt64 x) 1 65535 = some false := by
  have h1 : p_X9_isSide (Int32.toInt64 x) = p_X10_in (Int32.toInt64 x) 1 65535 := rfl
  rw [h1, q_in32 (q := 1) (r := 65535) x 1 65535 rfl rfl rfl]
  by_cases c : 1 ≤ x ∧ x ≤ 65535
  · refine Or.inl ⟨?_, by rw [decide_eq_true c], by rw [decide_eq_true c]⟩
    have h2 : ¬ x < 0 := Int32.not_lt.mpr (Int32.le_trans (by decide) c.1)
    obtain ⟨j, h3, rfl⟩ := nI_of2 (M := 65535) (n := 65535) (by decide) h2 c.2
    have h4 : 1 ≤ j := (nI_leI (a := 1) (by decide) (by omega)).mp c.1
    exact ⟨j, h4, h3, rfl⟩
  · exact Or.inr ⟨by rw [decide_eq_false c], by rw [decide_eq_false c]⟩
theorem q_meas {c k : Nat} {st : Nat → Nat} (hfu : 20000 ≤ fu) (h4 : HC c st) (h6 : mr m_d d_f (st c)) (h7 : ∀ k, k < c → m_k k = h_k k) (h8 : ∀ k, k ≤ c → h_s k = nI (st k)) (h9 : ∀ k, k < c → m_s k = nI (st (k + 1) - st k)) (h14 : k < c) (a3 : Int32) (hax : a3 = 0 ∨ a3 = 1) {β : Type} (f : Int64 → Option β) : ∃ r, (p_X0_kindOf (nI c) h_k (nI k)).bind (fun z82 => (p_X0_dataOf (nI c) (nI (st c)) h_s (nI k)).bind (fun z91 => (p_X4_measure fu 12000 z91.1 z91.2 d_f z82 a3).bind f)) = f r ∧ p_X10_sizeOf fu m_d m_k m_s (nI k) a3 = some r := by
  obtain ⟨r, r1, r2⟩ := q_size (h_k := h_k) (a3 := a3) hfu h4 h6 (h7 k h14) h9 h14 hax
  refine ⟨r, ?_, r2⟩
  rw [q_kindOf h14 h4.1, ob_s, q_dataOf h4 h14 h8, ob_s, r1, ob_s]
theorem sc_tail {c : Nat} {st : Nat → Nat} {x y : Nat} (hfu : 20000 ≤ fu) (h4 : HC c st) (h6 : mr m_d d_f (st c)) (h7 : ∀ k, k < c → m_k k = h_k k) (h8 : ∀ k, k ≤ c → h_s k = nI (st k)) (h9 : ∀ k, k < c → m_s k = nI (st (k + 1) - st k)) (hx : x ≤ 65535) (hy : y ≤ 65535) (a1 : Int64) (a5 : Int32) (W H s0 : Int64) (hs : s0 = if a5 = 0 then W else H) : ∃ r, p_X9_scaled_154 fu (nI c) h_e (nI (st c)) d_f h_k h_s h_u h_n h_g a1 (nI x) (nI y) a5 W H s0 = some r ∧ ((p_X10_ratiosOf fu (nI c) m_d m_k m_s a1).bind (fun z115 => if z115 = (-2) then (if a5 = 0 then (some (W)) else (some (H))) else ((p_X10_first fu (nI c) m_k m_s 1382380399 (-1)).bind (fun z145 => (p_X10_fromOf fu m_s z145).bind (fun z148 => (p_X10_four 12000 m_d z148).bind (fun z159 => (p_X10_four 12000 m_d (z148 + 4)).bind (fun z172 => (p_X10_in z159 1 65535).bind (fun z183 => if z183 = true then ((p_X10_in z172 1 65535).bind (fun z195 => if z195 = true then (if 65535 < W then (p_X10_scaled_229 fu (nI c) m_e m_d m_k m_s m_u m_n m_m a1 (nI x) (nI y) a5 fu W H z115 z159 z172 0 0) else (if 65535 < H then (p_X10_scaled_229 fu (nI c) m_e m_d m_k m_s m_u m_n m_m a1 (nI x) (nI y) a5 fu W H z115 z159 z172 0 0) else (p_X10_scaled_229 fu (nI c) m_e m_d m_k m_s m_u m_n m_m a1 (nI x) (nI y) a5 fu W H z115 z159 z172 1 0))) else (p_X10_scaled_229 fu (nI c) m_e m_d m_k m_s m_u m_n m_m a1 (nI x) (nI y) a5 fu W H z115 z159 z172 0 0))) else (p_X10_scaled_229 fu (nI c) m_e m_d m_k m_s m_u m_n m_m a1 (nI x) (nI y) a5 fu W H z115 z159 z172 0 0))))))))) = some r := by
  have h11 := h4.1
  have h12 := h4.2.2.2
  have hW : (if a5 = 0 then (some W) else (some H)) = some s0 := by
    rw [hs]; split <;> rfl
  unfold p_X9_scaled_154 p_X10_ratiosOf
  obtain ⟨r, c1, c2, c3⟩ := q_first_kind (m_s := m_s) hfu h11 h7 1382380399
  rw [c1, c2, ob_s, ob_s]
  rcases c3 with ⟨k, d1, d2, d3, d4⟩ | ⟨d1, d2⟩
  · subst d2
    have h15 := st_le h4 (show k + 1 ≤ c by omega) (Nat.le_refl c)
    have h16 := h4.2.2.1 k d1
    have hxk : ix (nI k) 61 = true := ix_t k rfl (by omega) (by decide)
    rw [q_dataOf h4 d1 h8, ob_s, if_neg (nI_n2 (by omega))]
    simp only [hxk, eq_self, if_true]
    rw [cl_nI k rfl (by omega), h9 k d1]
    unfold p_X8_rowOf
    by_cases k1 : st (k + 1) - st k < 24
    · have k1' : nI (st (k + 1) - st k) < 24 := nI_lt (b := 24) k1 (by decide)
      rw [if_pos k1', if_pos k1', ob_s, ob_s, if_neg (by decide), if_pos rfl, hW]
      exact ⟨_, rfl, rfl⟩
    · have k1' : ¬ nI (st (k + 1) - st k) < 24 := nI_nlt (b := 24) (by omega) (by omega)
      have e1 : nI (st (k + 1) - st k) - 24 = nI (st (k + 1) - st k - 24) := pk_sub (b := 24) (by omega)
      have e2 : nI (st (k + 1) - st k - 24) - nI (st (k + 1) - st k - 24) / 28 * 28 = nI ((st (k + 1) - st k - 24) % 28) := pk_rem (d := 28) (by omega) (by decide) (by decide)
      rw [if_neg k1', if_neg k1', e1, e2]
      have s1 : nI ((st (k + 1) - st k - 24) % 28) = 0 ↔ (st (k + 1) - st k - 24) % 28 = 0 := nI_eq (b := 0) (by omega) (by decide)
      by_cases k2 : (st (k + 1) - st k - 24) % 28 = 0
      · rw [if_pos (s1.mpr k2), if_pos (s1.mpr k2), q_fromOf hfu h4 (by omega) h9, ob_s]
        obtain ⟨r, r1, r2⟩ := row_loop (m_c := nI c) (m_k := m_k) a1 hfu h6 (show st k + (st (k + 1) - st k) ≤ st c by omega) h12 d1 h11 (h9 k d1) ((st (k + 1) - st k - 24) / 28) 24 fu fu (by omega) (by omega) (by omega) (by omega)
        have r1' : p_X8_rowOf_28 fu 12000 (nI (st k)) (nI (st (k + 1) - st k)) d_f a1 fu 24 = some r := r1
        rw [r1', ob_s]
        rcases r2 with ⟨t1, t2⟩ | ⟨j, t1, t2, t3, t4⟩
        · have t2' : p_X10_ratiosOf_54 fu (nI c) m_d m_k m_s a1 fu (nI k) (nI (st k)) 24 = some (-2) := t2
          rw [t2', t1, ob_s, if_neg (by decide), if_pos rfl, hW]
          exact ⟨_, rfl, rfl⟩
        · have t4' : p_X10_ratiosOf_54 fu (nI c) m_d m_k m_s a1 fu (nI k) (nI (st k)) 24 = some (nI (st k + j + 4)) := t4
          have e4 : nI (st k) + 4 = nI (st k + 4) := nI_add (st k) 4
          rw [t4', t1, ob_s, if_pos (nI_pos' (by omega)), if_neg (nI_n2 (by omega)), ob_s, q_fromOf hfu h4 (show k ≤ c by omega) h9, ob_s, q_four rfl h6 (show st k + 4 ≤ st c by omega) h12 (by decide), ob_s, e4, q_four rfl h6 (by omega) h12 (by decide), ob_s]
          have eP := rv4_lt (oF_lt d_f) (st k)
          have eQ := rv4_lt (oF_lt d_f) (st k + 4)
          generalize hP : rv (oF d_f) (st k) 4 = P at eP
          generalize hQ : rv (oF d_f) (st k + 4) 4 = Q at eQ
          generalize f0 : rv (oF d_f) (st k + j + 4) 4 = V0
          generalize f1 : rv (oF d_f) (st k + j + 4 + 4) 4 = V1
          generalize f2 : rv (oF d_f) (st k + j + 4 + 8) 4 = V2
          generalize f3 : rv (oF d_f) (st k + j + 4 + 12) 4 = V3
          generalize f4 : rv (oF d_f) (st k + j + 4 + 16) 4 = V4
          generalize f5 : rv (oF d_f) (st k + j + 4 + 20) 4 = V5
          have M := fun b => m229 (fu := fu) (m_c := nI c) (m_e := m_e) (m_k := m_k) (m_s := m_s) (m_u := m_u) (m_n := m_n) (m_m := m_m) (a1 := a1) (a5 := a5) (r := st k + j + 4) W H (lN P) (lN Q) (nI x) (nI y) h6 (by omega) h12 6 fu b (by omega) (by omega)
          have E := fun b => m229_end (fu := fu) (m_c := nI c) (m_e := m_e) (m_k := m_k) (m_s := m_s) (m_u := m_u) (m_n := m_n) (m_m := m_m) (a1 := a1) (a5 := a5) (r := st k + j + 4) W H (lN P) (lN Q) (nI x) (nI y) h6 (by omega) h12 f0 f1 f2 f3 f4 f5 b _ Iff.rfl
          have no0 : p_X10_scaled_229 fu (nI c) m_e m_d m_k m_s m_u m_n m_m a1 (nI x) (nI y) a5 fu W H (nI (st k + j + 4)) (lN P) (lN Q) 0 0 = some (-2) := by
            have h20 := M false
            rw [Bool.false_and, (E false).2 (fun h => by have := h.1; cases this)] at h20
            exact h20
          have iP : p_X10_in (lN P) 1 65535 = some (decide (0 < P ∧ P ≤ 65535)) := by
            rw [q_in]
            congr 1
            exact decide_eq_decide.mpr (and_congr (pk_lLE (a := 1) (by decide) (by omega)) (pk_lLE (b := 65535) (by omega) (by decide)))
          have iQ : p_X10_in (lN Q) 1 65535 = some (decide (0 < Q ∧ Q ≤ 65535)) := by
            rw [q_in]
            congr 1
            exact decide_eq_decide.mpr (and_congr (pk_lLE (a := 1) (by decide) (by omega)) (pk_lLE (b := 65535) (by omega) (by decide)))
          have R := q_ratioOn (x := x) (y := y) (q := j) hfu (show st k + (st (k + 1) - st k) ≤ 12000 by omega) t2 (by omega) hx hy hP hQ (V0 := V0) (V1 := V1) (V2 := V2) (V3 := V3) (V4 := V4) (V5 := V5) (by rw [← f0]; congr 1) (by rw [← f1]; congr 1) (by rw [← f2]; congr 1) (by rw [← f3]; congr 1) (by rw [← f4]; congr 1) (by rw [← f5]; congr 1) _ Iff.rfl
          rw [no0, iP, iQ, ob_s, ob_s]
          have noC : ∀ z : Option (Int64 × Int64), z = some (lN 0, lN 0) → z.bind (fun z219 => (p_X5_isProper z219.1 z219.2).bind (fun z226 => if z226 = true then ((p_X5_of z219.1 z219.2 s0).bind (fun z236 => some (z236))) else (some ((-2))))) = some (-2) := by
            intro z hz
            rw [hz]
            rfl
          by_cases w1 : 65535 < W
          · rw [if_pos w1, if_pos w1]
            refine ⟨_, rfl, ?_⟩
            split
            · split
              · rfl
              · rfl
            · rfl
          · by_cases w2 : 65535 < H
            · rw [if_neg w1, if_neg w1, if_pos w2, if_neg (show ¬ H ≤ 65535 from Int64.not_le.mpr w2)]
              refine ⟨_, rfl, ?_⟩
              split
              · split
                · rfl
                · rfl
              · rfl
            · rw [if_neg w1, if_neg w1, if_neg w2, if_pos (show H ≤ 65535 from Int64.not_lt.mp w2)]
              have h21 := M true
              rw [Bool.true_and] at h21
              have h21' : p_X10_scaled_229 fu (nI c) m_e m_d m_k m_s m_u m_n m_m a1 (nI x) (nI y) a5 fu W H (nI (st k + j + 4)) (lN P) (lN Q) 1 0 = p_X10_scaled_229 fu (nI c) m_e m_d m_k m_s m_u m_n m_m a1 (nI x) (nI y) a5 1 W H (nI (st k + j + 4)) (lN P) (lN Q) (bI (al (fun i => rv (oF d_f) (st k + j + 4 + 4 * i) 4) 6)) (nI 6) := h21
              rw [h21']
              have hal : al (fun i => rv (oF d_f) (st k + j + 4 + 4 * i) 4) 6 = true ↔ V0 ≤ 65535 ∧ V1 ≤ 65535 ∧ V2 ≤ 65535 ∧ V3 ≤ 65535 ∧ V4 ≤ 65535 ∧ V5 ≤ 65535 := by
                simp only [al, Bool.and_eq_true, decide_eq_true_iff, and_true]
                show rv (oF d_f) (st k + j + 4 + 0) 4 ≤ 65535 ∧ rv (oF d_f) (st k + j + 4 + 4) 4 ≤ 65535 ∧ rv (oF d_f) (st k + j + 4 + 8) 4 ≤ 65535 ∧ rv (oF d_f) (st k + j + 4 + 12) 4 ≤ 65535 ∧ rv (oF d_f) (st k + j + 4 + 16) 4 ≤ 65535 ∧ rv (oF d_f) (st k + j + 4 + 20) 4 ≤ 65535 ↔ _
                rw [Nat.add_zero, f0, f1, f2, f3, f4, f5]
              generalize hb : al (fun i => rv (oF d_f) (st k + j + 4 + 4 * i) 4) 6 = b at hal
              have Eb := E b
              by_cases kP : 0 < P ∧ P ≤ 65535
              · rw [if_pos (decide_eq_true kP)]
                by_cases kQ : 0 < Q ∧ Q ≤ 65535
                · rw [if_pos (decide_eq_true kQ)]
                  by_cases kG : b = true ∧ 0 < V1 ∧ (0 < V3 ∨ V2 = 0) ∧ (0 < V5 ∨ V4 = 0)
                  · obtain ⟨z0, z1, z2, z3, z4, z5⟩ := hal.mp kG.1
                    have kC : (0 < P ∧ P ≤ 65535) ∧ (0 < Q ∧ Q ≤ 65535) ∧ (0 < V1 ∧ V0 ≤ 65535 ∧ V1 ≤ 65535) ∧ lim V2 V3 ∧ lim V4 V5 := by
                      refine ⟨kP, kQ, ⟨kG.2.1, z0, z1⟩, ?_, ?_⟩
                      · rcases Nat.eq_zero_or_pos V3 with y1 | y1
                        · exact Or.inl ⟨kG.2.2.1.resolve_left (by omega), y1⟩
                        · exact Or.inr ⟨y1, z2, z3⟩
                      · rcases Nat.eq_zero_or_pos V5 with y1 | y1
                        · exact Or.inl ⟨kG.2.2.2.resolve_left (by omega), y1⟩
                        · exact Or.inr ⟨y1, z4, z5⟩
                    rw [R.1 kC, Eb.1 kG]
                    unfold p_X10_scaled_400 p_X10_scaled_431
                    have n10 : ¬ (1 : Int32) = 0 := by decide
                    simp only [n10, eq_self, if_true, if_false]
                    rw [nI_l (n := x) (by omega), nI_l (n := y) (by omega)]
                    by_cases kB : (lN x * lN Q) ≤ (lN y * lN P)
                    · rw [if_pos kB, if_neg (show ¬ lN y * lN P < lN x * lN Q from Int64.not_lt.mpr kB)]
                      exact sc_end (v := 0) (w := 0) W H s0 hs hx kP.2 kP.1 z0 z1 kG.2.1 z2 z3 z4 z5 kG.2.2.1 kG.2.2.2 _ _ _ _ _
                    · rw [if_neg kB, if_pos (show lN y * lN P < lN x * lN Q from Int64.not_le.mp kB)]
                      exact sc_end (v := 0) (w := 0) W H s0 hs hy kQ.2 kQ.1 z0 z1 kG.2.1 z2 z3 z4 z5 kG.2.2.1 kG.2.2.2 _ _ _ _ _
                  · rw [Eb.2 kG, noC _ (R.2 (fun kC => kG ?_))]
                    · exact ⟨_, rfl, rfl⟩
                    · obtain ⟨-, -, y1, y2, y3⟩ := kC
                      have y2' : (V2 = 0 ∧ V3 = 0) ∨ (0 < V3 ∧ V2 ≤ 65535 ∧ V3 ≤ 65535) := y2
                      have y3' : (V4 = 0 ∧ V5 = 0) ∨ (0 < V5 ∧ V4 ≤ 65535 ∧ V5 ≤ 65535) := y3
                      exact ⟨hal.mpr (by omega), y1.1, by omega, by omega⟩
                · rw [if_neg (show ¬ decide (0 < Q ∧ Q ≤ 65535) = true by rw [decide_eq_true_iff]; exact kQ), noC _ (R.2 (fun kC => kQ kC.2.1))]
                  exact ⟨_, rfl, rfl⟩
              · rw [if_neg (show ¬ decide (0 < P ∧ P ≤ 65535) = true by rw [decide_eq_true_iff]; exact kP), noC _ (R.2 (fun kC => kP kC.1))]
                exact ⟨_, rfl, rfl⟩
      · rw [if_neg (fun h => k2 (s1.mp h)), if_neg (fun h => k2 (s1.mp h)), ob_s, ob_s, if_neg (by decide), if_pos rfl, hW]
        exact ⟨_, rfl, rfl⟩
  · subst d1
    rw [q_dataOf_f (Or.inl (by decide)) (by omega), ob_s, if_pos rfl]
    have e1 : p_X8_rowOf fu 12000 (nI 0) (nI 0) d_f a1 = some (-2) := by
      unfold p_X8_rowOf
      rw [if_pos (by decide)]
    rw [e1, ob_s, ob_s, if_neg (by decide), if_pos rfl, hW]
    exact ⟨_, rfl, rfl⟩
theorem st_scaled (hfu : 20000 ≤ fu) (h3 : RH h_c h_e d_l d_f h_k h_s h_u h_n h_g m_dl m_d m_k m_s m_c m_u m_n m_m m_e) (a1 : Int64) (a3 a4 a5 : Int32) : ∃ r, p_X9_scaled fu h_c h_e d_l d_f h_k h_s h_u h_n h_g a1 a3 a4 a5 = some r ∧ p_X10_scaled fu m_c m_e m_d m_k m_s m_u m_n m_m a1 a3 a4 a5 = some r := by
  obtain ⟨c, e, st, g, h4, h5, ⟨b5, b6, b7, b8, b9, b10⟩, h6, h7, h8, h9, h10⟩ := h3
  subst b5 b6 b7 b8 b9 b10
  have h11 := h4.1
  have h12 := h5.1
  have hnum : p_X9_isNumber a1 = p_X10_isNumber a1 := by
    unfold p_X9_isNumber p_X10_isNumber p_X10_in
    by_cases h2 : a1 < 0
    · rw [if_pos h2]; rfl
    · rw [if_neg h2]
      by_cases h3 : 4294967295 < a1
      · rw [if_pos h3]; rfl
      · rw [if_neg h3]; rfl
  unfold p_X9_scaled p_X10_scaled
  rw [hnum, q_num, ob_s, ob_s]
  by_cases n1 : decide (0 ≤ a1 ∧ a1 ≤ 4294967295) = true
  · rw [if_pos n1, if_pos n1]
    rcases q_side a3 with ⟨⟨x, x0, x1, rfl⟩, x2, x3⟩ | ⟨x2, x3⟩
    · rw [x2, x3, ob_s, ob_s, if_pos rfl, if_pos rfl]
      rcases q_side a4 with ⟨⟨y, y0, y1, rfl⟩, y2, y3⟩ | ⟨y2, y3⟩
      · rw [y2, y3, ob_s, ob_s, if_pos rfl, if_pos rfl]
        rcases q_axis a5 with ⟨hax, z1, z2⟩ | ⟨z1, z2⟩
        · rw [z1, z2, ob_s, ob_s, if_pos rfl, if_pos rfl]
          obtain ⟨r1, c1, c2⟩ := q_entryOf hfu h12 h_u h_n 1349084020 a1
          obtain ⟨r2, c3, c4⟩ := q_entryFor hfu h12 (fun i hi => ⟨(h10 i hi).1, (h10 i hi).2.1⟩) h5.2.2 1349084020 a1
          have c5 := FI_u c2 c4
          subst c5
          rw [c1, c3, ob_s, ob_s]
          rcases c2 with ⟨i, d1, d2, d3, d4⟩ | ⟨d1, d2⟩
          · subst d2
            have f5 := (h5.2.1 i d1).1
            have hx40 : ix (nI i) 40 = true := ix_t i rfl (by omega) (by decide)
            have hx41 : ix (nI i) 41 = true := ix_t i rfl (by omega) (by decide)
            rw [q_hasEntry_t d1 (by omega), ob_s, if_pos rfl, if_neg (nI_n2 (by omega))]
            simp only [hx40, hx41, eq_self, if_true]
            rw [cl_nI i rfl (by omega), (h10 i d1).2.2.1, (h10 i d1).2.2.2]
            obtain ⟨W, W1, W2⟩ := q_meas (h_k := h_k) (h_s := h_s) (m_k := m_k) (m_s := m_s) hfu h4 h6 h7 h8 h9 f5 0 (Or.inl rfl) (fun z95 => (p_X0_kindOf (nI c) h_k (nI (g i))).bind (fun z106 => (p_X0_dataOf (nI c) (nI (st c)) h_s (nI (g i))).bind (fun z115 => (p_X4_measure fu 12000 z115.1 z115.2 d_f z106 1).bind (fun z119 => if z95 ≤ 0 then (some ((-2))) else (if 0 < z119 then (if a5 = 0 then (p_X9_scaled_154 fu (nI c) (nI e) (nI (st c)) d_f h_k h_s h_u h_n h_g a1 (nI x) (nI y) a5 z95 z119 z95) else (p_X9_scaled_154 fu (nI c) (nI e) (nI (st c)) d_f h_k h_s h_u h_n h_g a1 (nI x) (nI y) a5 z95 z119 z119)) else (some ((-2)))))))) 
            rw [W1, W2, ob_s]
            obtain ⟨H, H1, H2⟩ := q_meas (h_k := h_k) (h_s := h_s) (m_k := m_k) (m_s := m_s) hfu h4 h6 h7 h8 h9 f5 1 (Or.inr rfl) (fun z119 => if W ≤ 0 then (some ((-2))) else (if 0 < z119 then (if a5 = 0 then (p_X9_scaled_154 fu (nI c) (nI e) (nI (st c)) d_f h_k h_s h_u h_n h_g a1 (nI x) (nI y) a5 W z119 W) else (p_X9_scaled_154 fu (nI c) (nI e) (nI (st c)) d_f h_k h_s h_u h_n h_g a1 (nI x) (nI y) a5 W z119 z119)) else (some ((-2)))))
            rw [H1, H2, ob_s]
            by_cases w1 : W ≤ 0
            · rw [if_pos w1, if_pos w1]
              exact ⟨_, rfl, rfl⟩
            · rw [if_neg w1, if_neg w1]
              by_cases w2 : 0 < H
              · rw [if_pos w2, if_pos w2]
                obtain ⟨r, r1, r2⟩ := sc_tail (h_e := nI e) (h_u := h_u) (h_n := h_n) (h_g := h_g) (m_u := m_u) (m_n := m_n) (m_m := m_m) (m_e := nI e) hfu h4 h6 h7 h8 h9 x1 y1 a1 a5 W H (if a5 = 0 then W else H) rfl
                refine ⟨r, ?_, r2⟩
                by_cases w3 : a5 = 0
                · rw [if_pos w3] at r1 ⊢
                  exact r1
                · rw [if_neg w3] at r1 ⊢
                  exact r1
              · rw [if_neg w2, if_neg w2]
                exact ⟨_, rfl, rfl⟩
          · subst d1
            rw [q_hasEntry_f (Or.inl (by decide)), ob_s, if_neg (by decide), if_pos rfl]
            exact ⟨_, rfl, rfl⟩
        · rw [z1, z2]
          exact ⟨_, rfl, rfl⟩
      · rw [y2, y3]
        exact ⟨_, rfl, rfl⟩
    · rw [x2, x3]
      exact ⟨_, rfl, rfl⟩
  · rw [if_neg n1, if_neg n1]
    exact ⟨_, rfl, rfl⟩
end SY
