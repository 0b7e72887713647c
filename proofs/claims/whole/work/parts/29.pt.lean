/-! read: the move, and read -/
def sl (F : Nat → Nat) : Nat → Nat
  | 0 => 0
  | k + 1 => sl F k + rv F (pp F (k + 1) + 4) 4
theorem sl_le (F : Nat → Nat) : ∀ k, sl F k + 12 ≤ pp F (k + 1) := by
  intro k
  induction k with
  | zero =>
    have := pp_ge F 1
    show 0 + 12 ≤ pp F 1
    omega
  | succ k ih =>
    show sl F k + rv F (pp F (k + 1) + 4) 4 + 12 ≤ bh F (pp F (k + 1))
    unfold bh
    omega
section RG
variable {fu n m : Nat} {t_f : Nat → Int8} {m_t P W : Nat → Int32} {m_p m_is : Int32}
theorem t66 {k p len B : Nat} (K15 : Int32 → Int32 → Int32 → Int32 → (Nat → Int32) → (Nat → Int32) → (Nat → Int32) → (Nat → Int32) → (Nat → Int64) → (Nat → Int32) → Option (Int32 × Int32 × Int32 × (Nat → Int32) × (Nat → Int32) × (Nat → Int32) × (Nat → Int32) × (Nat → Int64) × (Nat → Int32))) (mc me : Int32) (Mk Ms Mu : Nat → Int32) (Mn : Nat → Int64) (Mm : Nat → Int32) (hk : k < 60) (hw : W k = nI p) (hs : Ms k = nI len) (h1 : p + 8 + len ≤ 6000) (h2 : B + len ≤ 12000) : ∀ (d fn i : Nat) (Dm : Nat → Int32), i + d = len → d < fn → ∃ Dm', p_X10_take_66 fu m_p m_is m_t W K15 fn (nI k) (nI i) (nI (B + i)) mc me Dm Mk Ms Mu Mn Mm = K15 (nI (k + 1)) (nI (B + len)) mc me Dm' Mk Ms Mu Mn Mm ∧ ∀ j, Dm' j = if B + i ≤ j ∧ j < B + len then m_t (p + 8 + (j - B)) else Dm j := by
  intro d
  induction d with
  | zero =>
    intro fn i Dm h5 h6
    obtain ⟨fn, rfl⟩ : ∃ x, fn = x + 1 := ⟨fn - 1, by omega⟩
    obtain rfl : i = len := by omega
    refine ⟨Dm, ?_, fun j => by rw [if_neg (by omega)]⟩
    rw [p_X10_take_66, if_pos (ix_t k rfl (by omega) (by decide)), cl_nI k rfl (by omega), hs, if_pos (nI_le (Nat.le_refl i) (by omega)), nI_1]
  | succ d ih =>
    intro fn i Dm h5 h6
    obtain ⟨fn, rfl⟩ : ∃ x, fn = x + 1 := ⟨fn - 1, by omega⟩
    obtain ⟨Dm', s1, s2⟩ := ih fn (i + 1) (upd Dm (B + i) (m_t (p + 8 + i))) (by omega) (by omega)
    have e1 : nI p + 8 + nI i = nI (p + 8 + i) := by
      have e2 : nI p + 8 = nI (p + 8) := nI_add p 8
      rw [e2, nI_add]
    refine ⟨Dm', ?_, fun j => ?_⟩
    · rw [p_X10_take_66, if_pos (ix_t k rfl (by omega) (by decide)), cl_nI k rfl (by omega), hs, if_neg (nI_ge (by omega) (by omega)), if_pos (ix_t k rfl (by omega) (by decide)), hw, e1, if_pos (ix_t (p + 8 + i) rfl (by omega) (by decide)), if_pos (ix_t (B + i) rfl (by omega) (by decide)), cl_nI (p + 8 + i) rfl (by omega), cl_nI (B + i) rfl (by omega), nI_1, nI_1]
      exact s1
    · rw [s2 j]
      by_cases c1 : j = B + i
      · rw [c1, if_neg (by omega), if_pos (by omega), pk_us, show B + i - B = i by omega]
      · rw [pk_un c1]
        by_cases c2 : B + (i + 1) ≤ j ∧ j < B + len
        · rw [if_pos c2, if_pos (by omega)]
        · rw [if_neg c2, if_neg (by omega)]
theorem mv_loop (me : Int32) (U Mu : Nat → Int32) (N Mn : Nat → Int64) (G Mm : Nat → Int32) (hfu : 20000 ≤ fu) (hn : n ≤ 6000) (hm : mr m_t t_f n) (hm60 : m ≤ 60) (hpp : pp (oF t_f) (m + 1) ≤ n) (hP : ∀ i, i < m → P i = nI (pp (oF t_f) (i + 1)) ∧ W i = nI (pp (oF t_f) (i + 1))) : ∀ (d fn fm k : Nat) (D : Nat → Int8) (Dm K S Mk Ms : Nat → Int32), k + d = m → d < fn → d < fm → mr Dm D (sl (oF t_f) k) → (∀ i, i < k → Mk i = K i) → (∀ i, i ≤ k → S i = nI (sl (oF t_f) i)) → (∀ i, i < k → Ms i = nI (sl (oF t_f) (i + 1) - sl (oF t_f) i)) → ∃ D' Dm' K' S' Mk' Ms', p_X1_moveInto_6 fu 6000 (nI m) P (nI 0) (nI n) (nI n) t_f fn (nI k) (nI k) 0 (nI (sl (oF t_f) k)) D K S U N G = (p_X3_u4 fu 6000 (nI 0) (nI n) t_f 20).bind (fun z80 => p_X1_moveInto_87 fu 6000 (nI m) P (nI 0) (nI n) (nI n) t_f fu z80 0 (nI m) 0 (nI (sl (oF t_f) m)) D' K' S' U N G) ∧ p_X10_take_15 fu m_p m_is m_t W fm (nI k) (nI (sl (oF t_f) k)) (nI m) me Dm Mk Ms Mu Mn Mm = p_X10_take_138 fu m_p m_is m_t W fu 0 (nI (sl (oF t_f) m)) (nI m) ((m_is - 4) / 12) Dm' Mk' Ms' Mu Mn Mm ∧ mr Dm' D' (sl (oF t_f) m) ∧ (∀ i, i < m → Mk' i = K' i) ∧ (∀ i, i ≤ m → S' i = nI (sl (oF t_f) i)) ∧ (∀ i, i < m → Ms' i = nI (sl (oF t_f) (i + 1) - sl (oF t_f) i)) := by
  intro d
  induction d with
  | zero =>
    intro fn fm k D Dm K S Mk Ms q1 q2 q3 q4 q5 q6 q7
    obtain ⟨fn, rfl⟩ : ∃ x, fn = x + 1 := ⟨fn - 1, by omega⟩
    obtain ⟨fm, rfl⟩ : ∃ x, fm = x + 1 := ⟨fm - 1, by omega⟩
    obtain rfl : k = m := by omega
    rw [p_X1_moveInto_6, p_X10_take_15, if_pos (nI_le (Nat.le_refl k) (by omega)), if_pos (nI_le (Nat.le_refl k) (by omega))]
    exact ⟨D, Dm, K, S, Mk, Ms, rfl, rfl, q4, q5, q6, q7⟩
  | succ d ih =>
    intro fn fm k D Dm K S Mk Ms q1 q2 q3 q4 q5 q6 q7
    obtain ⟨fn, rfl⟩ : ∃ x, fn = x + 1 := ⟨fn - 1, by omega⟩
    obtain ⟨fm, rfl⟩ : ∃ x, fm = x + 1 := ⟨fm - 1, by omega⟩
    have hk : k < m := by omega
    have h20 := pp_mono (oF t_f) (show k + 1 + 1 ≤ m + 1 by omega)
    have h21 : pp (oF t_f) (k + 1 + 1) = pp (oF t_f) (k + 1) + 8 + rv (oF t_f) (pp (oF t_f) (k + 1) + 4) 4 + rv (oF t_f) (pp (oF t_f) (k + 1) + 4) 4 % 2 := rfl
    have h22 := sl_le (oF t_f) k
    have h23 : sl (oF t_f) (k + 1) = sl (oF t_f) k + rv (oF t_f) (pp (oF t_f) (k + 1) + 4) 4 := rfl
    obtain ⟨hp1, hp2⟩ := hP k hk
    have hi := fun D' Dm' K' S' Mk' Ms' => ih fn fm (k + 1) D' Dm' K' S' Mk' Ms' (by omega) (by omega) (by omega)
    rw [h21] at h20
    rw [h23] at hi
    generalize hp : pp (oF t_f) (k + 1) = p at h20 h22 hp1 hp2 hi h23
    generalize hl : rv (oF t_f) (p + 4) 4 = len at h20 hi h23
    generalize hB : sl (oF t_f) k = B at q4 h22 hi h23
    have hix : ix (nI k) 60 = true := ix_t k rfl (by omega) (by decide)
    have hix1 : ix (nI k) 61 = true := ix_t k rfl (by omega) (by decide)
    have e1 : nI 0 + nI p + 8 = nI (p + 8) := by
      rw [nI_add, Nat.zero_add]
      exact nI_add p 8
    obtain ⟨Dm', s1, s2⟩ := t66 (fu := fu) (m_t := m_t) (W := W) (m_p := m_p) (m_is := m_is) (k := k) (p := p) (len := len) (B := B) (p_X10_take_15 fu m_p m_is m_t W fm) (nI m) me (upd Mk k (nI (rv (oF t_f) p 4))) (upd Ms k (nI len)) Mu Mn Mm (by omega) hp2 pk_us (by omega) (by omega) len fu 0 Dm (by omega) (by omega)
    have s1' : p_X10_take_66 fu m_p m_is m_t W (p_X10_take_15 fu m_p m_is m_t W fm) fu (nI k) 0 (nI B) (nI m) me Dm (upd Mk k (nI (rv (oF t_f) p 4))) (upd Ms k (nI len)) Mu Mn Mm = _ := s1
    obtain ⟨D9, Dm9, K9, S9, Mk9, Ms9, t1, t2, t3⟩ := hi (va_cpy t_f (va_cpy D D B (B + len) 0) (p + 8) B len) Dm' (upd K k (nI (rv (oF t_f) p 4))) (upd (upd S k (nI B)) (k + 1) (nI (B + len))) (upd Mk k (nI (rv (oF t_f) p 4))) (upd Ms k (nI len)) (by
      intro j hj
      rw [s2 j, va_cpy]
      by_cases c1 : B ≤ j
      · rw [if_pos (by omega), if_pos (by omega)]
        exact hm (p + 8 + (j - B)) (by omega)
      · rw [if_neg (by omega), if_neg (by omega), va_cpy, if_neg (by omega)]
        exact q4 j (by omega)) (by
      intro i hi2
      by_cases c1 : i = k
      · rw [c1, pk_us, pk_us]
      · rw [pk_un c1, pk_un c1]
        exact q5 i (by omega)) (by
      intro i hi2
      by_cases c1 : i = k + 1
      · rw [c1, pk_us, h23]
      · rw [pk_un c1]
        by_cases c2 : i = k
        · rw [c2, pk_us, hB]
        · rw [pk_un c2]
          exact q6 i (by omega)) (by
      intro i hi2
      by_cases c1 : i = k
      · rw [c1, pk_us, h23, hB]
        congr 1
        omega
      · rw [pk_un c1]
        exact q7 i (by omega))
    refine ⟨D9, Dm9, K9, S9, Mk9, Ms9, ?_, ?_, t3⟩
    · rw [p_X1_moveInto_6, if_neg (nI_ge (by omega) (by omega)), if_pos hix, cl_nI k rfl (by omega), hp1, r_u4 (x := nI p + 4) (i := p + 4) hfu hn (nI_add p 4) (by omega), ob_s, hl, q_part (o := p + 8) (l := len) e1 (lN_i len) (by omega) (by omega), ob_s, r_u4 (x := nI p) (i := p) hfu hn rfl (by omega), ob_s, lN_i, q_addChunk (so := p + 8) (nI (rv (oF t_f) p 4)) (by omega) (by omega) (by omega) (by decide), ob_s, nI_1]
      exact t1
    · rw [p_X10_take_15, if_neg (nI_ge (by omega) (by omega)), if_pos hix1, cl_nI k rfl (by omega), hp2, r_kind (x := nI p) (i := p) hn hm rfl (by omega), ob_s, if_pos hix1, if_pos hix1, r_four (x := nI p + 4) (i := p + 4) hn hm (nI_add p 4) (by omega), ob_s, if_pos hix1, hl, lN_i, s1']
      exact t2
theorem t186 {i q : Nat} (K138 : Int32 → Int32 → Int32 → Int32 → (Nat → Int32) → (Nat → Int32) → (Nat → Int32) → (Nat → Int32) → (Nat → Int64) → (Nat → Int32) → Option (Int32 × Int32 × Int32 × (Nat → Int32) × (Nat → Int32) × (Nat → Int32) × (Nat → Int32) × (Nat → Int64) × (Nat → Int32))) (dl me : Int32) (Dm Mk Ms Mu : Nat → Int32) (Mn : Nat → Int64) (hn : n ≤ 6000) (hm : mr m_t t_f n) (hm60 : m ≤ 60) (hpp : pp (oF t_f) (m + 1) ≤ n) (hW : ∀ i, i < m → W i = nI (pp (oF t_f) (i + 1))) (hi : i < 40) (hin : 24 + 12 * i + 12 ≤ n) (hq : q < m) (hqe : pp (oF t_f) (q + 1) = ep (oF t_f) i) : ∀ (d fn v : Nat) (Mm : Nat → Int32), v + d = m → d < fn → ∃ Mm', p_X10_take_186 fu m_p m_is m_t W K138 fn (nI i) (24 + (12 * nI i)) (nI v) dl (nI m) me Dm Mk Ms Mu Mn Mm = K138 (nI (i + 1)) dl (nI m) me Dm Mk Ms Mu Mn Mm' ∧ (Mm' i = if v ≤ q then nI q else Mm i) ∧ ∀ j, ¬ j = i → Mm' j = Mm j := by
  have hep : ep (oF t_f) i < 4294967296 := rv4_lt (oF_lt t_f) _
  intro d
  induction d with
  | zero =>
    intro fn v Mm h5 h6
    obtain ⟨fn, rfl⟩ : ∃ x, fn = x + 1 := ⟨fn - 1, by omega⟩
    refine ⟨Mm, ?_, by rw [if_neg (by omega)], fun j _ => rfl⟩
    rw [p_X10_take_186, if_pos (nI_le (by omega) (by omega)), nI_1]
  | succ d ih =>
    intro fn v Mm h5 h6
    obtain ⟨fn, rfl⟩ : ∃ x, fn = x + 1 := ⟨fn - 1, by omega⟩
    have hxi : ix (nI i) 41 = true := ix_t i rfl (by omega) (by decide)
    have h12 := pp_mono (oF t_f) (show v + 1 ≤ m + 1 by omega)
    have hep' : rv (oF t_f) (32 + 12 * i) 4 = ep (oF t_f) i := rfl
    rw [p_X10_take_186, if_neg (nI_ge (by omega) (by omega)), if_pos (ix_t v rfl (by omega) (by decide)), r_four (x := (24 + (12 * nI i)) + 8) (i := 32 + 12 * i) hn hm (e_8 i) (by omega), ob_s, cl_nI v rfl (by omega), hW v (by omega), nI_l (n := pp (oF t_f) (v + 1)) (by omega), hep', if_pos hxi, if_pos hxi, if_pos hxi, cl_nI i rfl (by omega), nI_1]
    by_cases c1 : pp (oF t_f) (v + 1) = ep (oF t_f) i
    · have hvq : v = q := by
        have := pp_inj (oF t_f) (c1.trans hqe.symm)
        omega
      obtain ⟨Mm', s1, s2, s3⟩ := ih fn (v + 1) (upd Mm i (nI v)) (by omega) (by omega)
      rw [if_pos (by rw [c1])]
      refine ⟨Mm', s1, ?_, fun j hj => by rw [s3 j hj, pk_un hj]⟩
      rw [s2, if_neg (by omega), if_pos (by omega), pk_us, hvq]
    · obtain ⟨Mm', s1, s2, s3⟩ := ih fn (v + 1) (upd Mm i (Mm i)) (by omega) (by omega)
      rw [if_neg (fun h => c1 ((pk_lEQ (by omega) (by omega)).mp h))]
      refine ⟨Mm', s1, ?_, fun j hj => by rw [s3 j hj, pk_un hj]⟩
      have hne : ¬ v = q := fun h => c1 (by rw [h]; exact hqe)
      rw [s2, pk_us]
      by_cases c2 : v ≤ q
      · rw [if_pos (by omega), if_pos c2]
      · rw [if_neg (by omega), if_neg c2]
theorem me_loop {cnt : Nat} {gx : Nat → Nat} (dl : Int32) (D : Nat → Int8) (K S Dm Mk Ms : Nat → Int32) (hfu : 20000 ≤ fu) (hn : n ≤ 6000) (hm : mr m_t t_f n) (hm60 : m ≤ 60) (hpp : pp (oF t_f) (m + 1) ≤ n) (hP : ∀ i, i < m → P i = nI (pp (oF t_f) (i + 1)) ∧ W i = nI (pp (oF t_f) (i + 1))) (hc40 : cnt ≤ 40) (hc : 24 + 12 * cnt ≤ n) (hgx : ∀ k, k < cnt → gx k < m ∧ pp (oF t_f) (gx k + 1) = ep (oF t_f) k) : ∀ (d fn fm i : Nat) (U : Nat → Int32) (N : Nat → Int64) (G Mu : Nat → Int32) (Mn : Nat → Int64) (Mm : Nat → Int32), i + d = cnt → d < fn → d < fm → (∀ j, j < i → (Mu j = U j ∧ Mn j = N j ∧ G j = nI (gx j) ∧ Mm j = nI (gx j)) ∧ U j = nI (eu (oF t_f) j) ∧ N j = lN (en (oF t_f) j)) → ∃ U' N' G' Mu' Mn' Mm', p_X1_moveInto_87 fu 6000 (nI m) P (nI 0) (nI n) (nI n) t_f fn (lN cnt) (nI i) (nI m) (nI i) dl D K S U N G = some (nI m, nI cnt, dl, D, K, S, U', N', G') ∧ p_X10_take_138 fu m_p m_is m_t W fm (nI i) dl (nI m) (nI cnt) Dm Mk Ms Mu Mn Mm = some (dl, nI m, nI cnt, Dm, Mk, Ms, Mu', Mn', Mm') ∧ (∀ j, j < cnt → (Mu' j = U' j ∧ Mn' j = N' j ∧ G' j = nI (gx j) ∧ Mm' j = nI (gx j)) ∧ U' j = nI (eu (oF t_f) j) ∧ N' j = lN (en (oF t_f) j)) := by
  intro d
  induction d with
  | zero =>
    intro fn fm i U N G Mu Mn Mm q1 q2 q3 q4
    obtain ⟨fn, rfl⟩ : ∃ x, fn = x + 1 := ⟨fn - 1, by omega⟩
    obtain ⟨fm, rfl⟩ : ∃ x, fm = x + 1 := ⟨fm - 1, by omega⟩
    obtain rfl : i = cnt := by omega
    rw [p_X1_moveInto_87, p_X10_take_138, nI_l (n := i) (by omega), if_pos ((pk_lLE (by omega) (by omega)).mpr (Nat.le_refl i)), if_pos (nI_le (Nat.le_refl i) (by omega))]
    exact ⟨U, N, G, Mu, Mn, Mm, rfl, rfl, q4⟩
  | succ d ih =>
    intro fn fm i U N G Mu Mn Mm q1 q2 q3 q4
    obtain ⟨fn, rfl⟩ : ∃ x, fn = x + 1 := ⟨fn - 1, by omega⟩
    obtain ⟨fm, rfl⟩ : ∃ x, fm = x + 1 := ⟨fm - 1, by omega⟩
    have hep : ep (oF t_f) i < 4294967296 := rv4_lt (oF_lt t_f) _
    obtain ⟨hg1, hg2⟩ := hgx i (by omega)
    have hx0 : ix (nI i) 40 = true := ix_t i rfl (by omega) (by decide)
    have hx1 : ix (nI i) 41 = true := ix_t i rfl (by omega) (by decide)
    obtain ⟨r, u1, u2⟩ := q_pieceAt (fu := fu) (P := P) (x := ep (oF t_f) i) hfu hn hm60 hpp (fun i hi => (hP i hi).1) hep
    have hr : r = nI (gx i) := by
      rcases u2 with ⟨q, v1, v2, v3, v4⟩ | ⟨v1, v2⟩
      · have := pp_inj (oF t_f) (v3.trans hg2.symm)
        rw [v2]
        congr 1
        omega
      · exact absurd hg2 (v2 (gx i) hg1)
    subst hr
    have hu : rv (oF t_f) (24 + 12 * i) 4 = eu (oF t_f) i := rfl
    have hv : rv (oF t_f) (28 + 12 * i) 4 = en (oF t_f) i := rfl
    have hw : rv (oF t_f) (32 + 12 * i) 4 = ep (oF t_f) i := rfl
    have ea : p_X0_addEntry (nI i) U N G (nI (eu (oF t_f) i)) (lN (en (oF t_f) i)) (nI (gx i)) = some (nI (i + 1), upd U i (nI (eu (oF t_f) i)), vp_updL N i (lN (en (oF t_f) i)), upd G i (nI (gx i))) := by
      unfold p_X0_addEntry
      rw [if_pos (show nI i < 40 from nI_lt (b := 40) (by omega) (by decide)), if_pos hx0, if_pos hx0, if_pos hx0, cl_nI i rfl (by omega), nI_1]
    obtain ⟨Mm1, s1, s2, s3⟩ := t186 (fu := fu) (t_f := t_f) (W := W) (m_p := m_p) (m_is := m_is) (i := i) (q := gx i) (p_X10_take_138 fu m_p m_is m_t W fm) dl (nI cnt) Dm Mk Ms (upd Mu i (nI (eu (oF t_f) i))) (vp_updL Mn i (lN (en (oF t_f) i))) hn hm hm60 hpp (fun i hi => (hP i hi).2) (by omega) (by omega) hg1 hg2 m fu 0 Mm (by omega) (by omega)
    rw [if_pos (Nat.zero_le _)] at s2
    have s1' : p_X10_take_186 fu m_p m_is m_t W (p_X10_take_138 fu m_p m_is m_t W fm) fu (nI i) (24 + (12 * nI i)) 0 dl (nI m) (nI cnt) Dm Mk Ms (upd Mu i (nI (eu (oF t_f) i))) (vp_updL Mn i (lN (en (oF t_f) i))) Mm = _ := s1
    obtain ⟨U', N', G', Mu', Mn', Mm', t1, t2, t3⟩ := ih fn fm (i + 1) (upd U i (nI (eu (oF t_f) i))) (vp_updL N i (lN (en (oF t_f) i))) (upd G i (nI (gx i))) (upd Mu i (nI (eu (oF t_f) i))) (vp_updL Mn i (lN (en (oF t_f) i))) Mm1 (by omega) (by omega) (by omega) (by
      intro j hj
      by_cases c1 : j = i
      · subst c1
        rw [pk_us, pk_us, pk_us, pk_uLs, pk_uLs, s2]
        exact ⟨⟨rfl, rfl, rfl, rfl⟩, rfl, rfl⟩
      · rw [pk_un c1, pk_un c1, pk_un c1, pk_uLn c1, pk_uLn c1, s3 j c1]
        exact q4 j (by omega))
    refine ⟨U', N', G', Mu', Mn', Mm', ?_, ?_, t3⟩
    · rw [p_X1_moveInto_87, nI_l (n := i) (by omega), if_neg (fun h => by have := (pk_lLE (by omega) (by omega)).mp h; omega), if_neg (show ¬ (40 : Int32) ≤ nI i from nI_ge (b := 40) (by omega) (by decide)), r_u4 (x := 24 + (12 * nI i)) (i := 24 + 12 * i) hfu hn (q_place0 i) (by omega), ob_s, r_u4 (x := 24 + (12 * nI i) + 4) (i := 28 + 12 * i) hfu hn (e_4 i) (by omega), ob_s, r_u4 (x := 24 + (12 * nI i) + 8) (i := 32 + 12 * i) hfu hn (e_8 i) (by omega), ob_s, hu, hv, hw, u1, ob_s, lN_i, ea, ob_s, nI_1]
      exact t1
    · rw [p_X10_take_138, if_neg (nI_ge (by omega) (by omega)), r_kind (x := 24 + (12 * nI i)) (i := 24 + 12 * i) hn hm (q_place0 i) (by omega), ob_s, if_pos hx1, r_four (x := (24 + (12 * nI i)) + 4) (i := 28 + 12 * i) hn hm (e_4 i) (by omega), ob_s, if_pos hx1, hu, hv, cl_nI i rfl (by omega), s1']
      exact t2
end RG
section RH2
variable {fu : Nat} {t_l : Int32} {t_f : Nat → Int8} {m_tl : Int32} {m_t : Nat → Int32}
variable {h_c h_e d_l : Int32} {d_f : Nat → Int8} {h_k h_s h_u : Nat → Int32} {h_n : Nat → Int64} {h_g : Nat → Int32} {m_dl : Int32} {m_d m_k m_s : Nat → Int32} {m_c : Int32} {m_u : Nat → Int32} {m_n : Nat → Int64} {m_m : Nat → Int32} {m_e : Int32}
theorem st_read (hfu : 20000 ≤ fu) (hT : RT t_l t_f m_tl m_t) (h3 : RH h_c h_e d_l d_f h_k h_s h_u h_n h_g m_dl m_d m_k m_s m_c m_u m_n m_m m_e) (x_p j_c j_a m_fa m_f m_p m_is : Int32) (j_p m_w : Nat → Int32) : ∃ zx zm, p_X9_read fu x_p t_l t_f h_c h_e d_l d_f h_k h_s h_u h_n h_g j_c j_a j_p = some zx ∧ p_X10_read fu m_tl m_dl m_c m_e m_fa m_f m_p m_is m_t m_d m_k m_s m_u m_n m_m m_w = some zm ∧ zx.1 = zm.1 ∧ zx.2.1 = zm.2.2.2.2.2.1 ∧ RT zx.2.2.1 t_f zm.2.1 m_t ∧ RH zx.2.2.2.1 zx.2.2.2.2.1 zx.2.2.2.2.2.1 zx.2.2.2.2.2.2.1 zx.2.2.2.2.2.2.2.1 zx.2.2.2.2.2.2.2.2.1 zx.2.2.2.2.2.2.2.2.2.1 zx.2.2.2.2.2.2.2.2.2.2.1 zx.2.2.2.2.2.2.2.2.2.2.2.1 zm.2.2.1 zm.2.2.2.2.2.2.2.2.2.1 zm.2.2.2.2.2.2.2.2.2.2.1 zm.2.2.2.2.2.2.2.2.2.2.2.1 zm.2.2.2.1 zm.2.2.2.2.2.2.2.2.2.2.2.2.1 zm.2.2.2.2.2.2.2.2.2.2.2.2.2.1 zm.2.2.2.2.2.2.2.2.2.2.2.2.2.2.1 zm.2.2.2.2.1 := by
  have h3' := h3
  obtain ⟨n, hn, b1, b2, hm⟩ := hT
  obtain ⟨c, e, st, g, h4, h5, ⟨b5, b6, b7, b8, b9, b10⟩, h6, h7, h8, h9, h10⟩ := h3
  subst b1 b2 b5 b6 b7 b8 b9 b10
  have h12 := h4.2.2.2
  have hk0 : p_X6_keep (nI n) 0 = some (nI 0) := q_keep (n := 0) (by omega) (by omega)
  have hT0 : RT (nI 0) t_f 0 m_t := ⟨0, by omega, rfl, rfl, fun j hj => absurd hj (Nat.not_lt_zero j)⟩
  unfold p_X9_read p_X10_read
  rw [q_whole (by omega), ob_s]
  rcases go_all (fu := fu) (n := n) (t_f := t_f) (m_t := m_t) j_c j_a m_p m_is j_p m_w hfu hn hm with ⟨fv, av, jc, P', mp, is', W', r1, r2, r3⟩ | ⟨m, cnt, P', W', r1, r2, r3, r4, r5, r6, r7, r8, r9⟩
  · rw [r2, r3, ob_s, ob_s, if_neg r1, if_neg r1, if_neg r1]
    unfold p_X9_read_53
    rw [hk0, ob_s, if_neg r1]
    exact ⟨_, _, rfl, rfl, rfl, rfl, hT0, h3'⟩
  · have hk1 : p_X6_keep (nI (st c)) 0 = some (nI 0) := q_keep (n := 0) (by omega) (by omega)
    obtain ⟨D1, Dm1, K1, S1, Mk1, Ms1, s1, s2, s3, s4, s5, s6⟩ := mv_loop (fu := fu) (m_p := nI m) (m_is := nI (4 + 12 * cnt)) (nI e) h_u m_u h_n m_n h_g m_m hfu hn hm r1 r5 r6 m 64 fu 0 d_f m_d h_k h_s m_k m_s (by omega) (by omega) (by omega) (fun j hj => absurd hj (Nat.not_lt_zero j)) (fun j hj => absurd hj (Nat.not_lt_zero j)) (fun j hj => by
      have hj0 : j = 0 := by omega
      rw [hj0, h8 0 (Nat.zero_le c), h4.2.1]
      rfl) (fun j hj => absurd hj (Nat.not_lt_zero j))
    have hg : ∀ k, ∃ q, k < cnt → q < m ∧ pp (oF t_f) (q + 1) = ep (oF t_f) k := by
      intro k
      by_cases c1 : k < cnt
      · obtain ⟨q, w1, w2⟩ := (r7 k c1).2.2
        exact ⟨q, fun _ => ⟨w1, w2⟩⟩
      · exact ⟨0, fun h => absurd h c1⟩
    obtain ⟨gx, hgx⟩ : ∃ gx : Nat → Nat, ∀ k, k < cnt → gx k < m ∧ pp (oF t_f) (gx k + 1) = ep (oF t_f) k := ⟨fun k => Classical.choose (hg k), fun k => Classical.choose_spec (hg k)⟩
    obtain ⟨U2, N2, G2, Mu2, Mn2, Mm2, t1, t2, t3⟩ := me_loop (fu := fu) (m_p := nI m) (m_is := nI (4 + 12 * cnt)) (cnt := cnt) (gx := gx) (nI (sl (oF t_f) m)) D1 K1 S1 Dm1 Mk1 Ms1 hfu hn hm r1 r5 r6 r2 r3 hgx cnt fu fu 0 h_u h_n h_g m_u m_n m_m (by omega) (by omega) (by omega) (fun j hj => absurd hj (Nat.not_lt_zero j))
    have e3 : (nI (4 + 12 * cnt) - 4) / 12 = nI cnt := by
      have e4 : nI (4 + 12 * cnt) - 4 = nI (4 + 12 * cnt - 4) := pk_sub (a := 4 + 12 * cnt) (b := 4) (by omega)
      rw [e4]
      have e5 : nI (4 + 12 * cnt - 4) / 12 = nI ((4 + 12 * cnt - 4) / 12) := pk_div (d := 12) (by omega) (by decide) (by decide)
      rw [e5]
      congr 1
      omega
    have f1 : p_X1_moveInto fu 6000 (nI m) P' (nI c) (nI e) (nI (st c)) d_f h_k h_s h_u h_n h_g (nI 0) (nI n) (nI n) t_f = some (nI m, nI cnt, nI (sl (oF t_f) m), D1, K1, S1, U2, N2, G2) := by
      have s1' : p_X1_moveInto_6 fu 6000 (nI m) P' (nI 0) (nI n) (nI n) t_f 64 0 0 0 (nI 0) d_f h_k h_s h_u h_n h_g = _ := s1
      have t1' : p_X1_moveInto_87 fu 6000 (nI m) P' (nI 0) (nI n) (nI n) t_f fu (lN cnt) 0 (nI m) 0 (nI (sl (oF t_f) m)) D1 K1 S1 h_u h_n h_g = _ := t1
      unfold p_X1_moveInto p_X0_empty
      rw [hk1, ob_s, ob_s, s1', r_u4 (x := 20) (i := 20) hfu hn rfl (by omega), ob_s, r4, t1']
    have f2 : p_X10_take fu (nI (st c)) (nI c) (nI e) (nI m) (nI (4 + 12 * cnt)) m_t m_d m_k m_s m_u m_n m_m W' = some (nI (sl (oF t_f) m), nI m, nI cnt, Dm1, Mk1, Ms1, Mu2, Mn2, Mm2) := by
      have s2' : p_X10_take_15 fu (nI m) (nI (4 + 12 * cnt)) m_t W' fu 0 0 (nI m) (nI e) m_d m_k m_s m_u m_n m_m = _ := s2
      have t2' : p_X10_take_138 fu (nI m) (nI (4 + 12 * cnt)) m_t W' fu 0 (nI (sl (oF t_f) m)) (nI m) (nI cnt) Dm1 Mk1 Ms1 m_u m_n m_m = _ := t2
      unfold p_X10_take
      rw [s2', e3, t2']
    rw [r8, r9, ob_s, ob_s, if_pos rfl, if_pos rfl, f1, f2, ob_s, ob_s, if_pos rfl]
    unfold p_X9_read_53
    rw [hk0, ob_s, if_pos rfl]
    have h30 := sl_le (oF t_f) m
    have g1 : ∀ i, eu (oF t_f) i < 4294967296 := fun i => rv4_lt (oF_lt t_f) _
    have g2 : ∀ i, en (oF t_f) i < 4294967296 := fun i => rv4_lt (oF_lt t_f) _
    refine ⟨_, _, rfl, rfl, rfl, rfl, hT0, m, cnt, sl (oF t_f), gx, ⟨r1, rfl, fun k hk => Nat.le_add_right _ _, by omega⟩, ⟨r2, fun i hi => ⟨(hgx i hi).1, ?_⟩, ?_⟩, ⟨rfl, rfl, rfl, rfl, rfl, rfl⟩, s3, s4, s5, s6, fun i hi => (t3 i hi).1⟩
    · show isU (U2 i)
      rw [(t3 i hi).2.1]
      exact (r7 i hi).1
    · intro i j hi hj k1 k2
      have k1' : U2 i = U2 j := k1
      have k2' : N2 i = N2 j := k2
      rw [(t3 i hi).2.1, (t3 j hj).2.1] at k1'
      rw [(t3 i hi).2.2, (t3 j hj).2.2] at k2'
      have k3 := (i_iff (K := nI (eu (oF t_f) j)) (k := eu (oF t_f) j) rfl (g1 i) (g1 j)).mp k1'
      have k4 := (l_iff (K := lN (en (oF t_f) j)) (k := en (oF t_f) j) rfl (g2 i) (g2 j)).mp k2'
      by_cases c1 : i < j
      · exact absurd ⟨k3, k4⟩ ((r7 j hj).2.1 i c1)
      · by_cases c2 : j < i
        · exact absurd ⟨k3.symm, k4.symm⟩ ((r7 i hi).2.1 j c2)
        · omega
end RH2
