/-! remove and drop -/
theorem ct_0 {g : Nat → Nat} {x : Nat} : ∀ e, ct g x e = 0 → ∀ i, i < e → ¬ g i = x := by
  intro e
  induction e with
  | zero => intro _ i hi; omega
  | succ e ih =>
    intro h1 i hi
    rw [ct] at h1
    by_cases c : i = e
    · subst c
      intro h2
      rw [if_pos h2] at h1
      omega
    · exact ih (by omega) i (by omega)
section RM
variable {fu : Nat} {m_t : Nat → Int32} {m_tl : Int32}
variable {d_f : Nat → Int8} {h_k h_s h_u : Nat → Int32} {h_n : Nat → Int64} {h_g : Nat → Int32} {m_d m_k m_s : Nat → Int32} {m_u : Nat → Int32} {m_n : Nat → Int64} {m_m : Nat → Int32}
theorem sd_loopB {c : Nat} (q_o q_l a1 : Int32) (d_l : Int32) (d_f : Nat → Int8) (v : Int32) (hc : c ≤ 60) : ∀ (d fn i : Nat) (S : Nat → Int32), i + d = c + 1 → d < fn → ∃ S', p_X0_setDataB_55 fu (nI c) q_o q_l a1 fn v (nI i) d_l d_f S = some (d_l, d_f, S') ∧ ∀ j, S' j = if i ≤ j ∧ j ≤ c then S j + v else S j := by
  intro d
  induction d with
  | zero =>
    intro fn i S h5 h6
    cases fn with
    | zero => omega
    | succ fn =>
      rw [p_X0_setDataB_55, if_pos (nI_lt (by omega) (by omega))]
      exact ⟨S, rfl, fun j => by rw [if_neg (by omega)]⟩
  | succ d ih =>
    intro fn i S h5 h6
    cases fn with
    | zero => omega
    | succ fn =>
      obtain ⟨S', s1, s2⟩ := ih fn (i + 1) (upd S i (S i + v)) (by omega) (by omega)
      rw [p_X0_setDataB_55, if_neg (nI_nlt (by omega) (by omega)), if_pos (ix_t i rfl (by omega) (by decide)), if_pos (ix_t i rfl (by omega) (by decide)), cl_nI i rfl (by omega), nI_1]
      refine ⟨S', s1, fun j => ?_⟩
      rw [s2 j]
      by_cases c1 : j = i
      · subst c1
        rw [if_neg (by omega), if_pos (by omega), pk_us]
      · rw [pk_un c1]
        by_cases c2 : i + 1 ≤ j ∧ j ≤ c
        · rw [if_pos c2, if_pos (by omega)]
        · rw [if_neg c2, if_neg (by omega)]
theorem tc99 {e : Nat} (he : e ≤ 40) (x hc d_l : Int32) (d_f : Nat → Int8) (K S : Nat → Int32) : ∀ (d fn i : Nat) (G : Nat → Int32), i + d = e → d < fn → ∃ G', p_X0_takeChunk_99 fu (nI e) x fn (nI i) hc d_l d_f K S G = some (hc, d_l, d_f, K, S, G') ∧ ∀ j, G' j = if i ≤ j ∧ j < e then (if G j ≤ x then G j else G j - 1) else G j := by
  intro d
  induction d with
  | zero =>
    intro fn i G h5 h6
    cases fn with
    | zero => omega
    | succ fn =>
      rw [p_X0_takeChunk_99, if_pos (nI_le (by omega) (by omega))]
      exact ⟨G, rfl, fun j => by rw [if_neg (by omega)]⟩
  | succ d ih =>
    intro fn i G h5 h6
    cases fn with
    | zero => omega
    | succ fn =>
      have hx : ix (nI i) 40 = true := ix_t i rfl (by omega) (by decide)
      rw [p_X0_takeChunk_99, if_neg (nI_ge (by omega) (by omega))]
      simp only [hx, eq_self, if_true]
      rw [cl_nI i rfl (by omega), nI_1]
      by_cases c0 : G i ≤ x
      · obtain ⟨G', s1, s2⟩ := ih fn (i + 1) G (by omega) (by omega)
        rw [if_pos c0]
        refine ⟨G', s1, fun j => ?_⟩
        rw [s2 j]
        by_cases c1 : j = i
        · subst c1
          rw [if_neg (by omega), if_pos (by omega), if_pos c0]
        · by_cases c2 : i + 1 ≤ j ∧ j < e
          · rw [if_pos c2, if_pos (show i ≤ j ∧ j < e by omega)]
          · rw [if_neg c2, if_neg (show ¬ (i ≤ j ∧ j < e) by omega)]
      · obtain ⟨G', s1, s2⟩ := ih fn (i + 1) (upd G i (G i - 1)) (by omega) (by omega)
        rw [if_neg c0]
        refine ⟨G', s1, fun j => ?_⟩
        rw [s2 j]
        by_cases c1 : j = i
        · subst c1
          rw [if_neg (by omega), if_pos (by omega), if_neg c0, pk_us]
        · rw [pk_un c1]
          by_cases c2 : i + 1 ≤ j ∧ j < e
          · rw [if_pos c2, if_pos (show i ≤ j ∧ j < e by omega)]
          · rw [if_neg c2, if_neg (show ¬ (i ≤ j ∧ j < e) by omega)]
theorem tc39 {e c' : Nat} (he : e ≤ 40) (hc : c' < 60) (hfu : 20000 ≤ fu) (x d_l : Int32) (d_f : Nat → Int8) (G : Nat → Int32) : ∀ (d fn i : Nat) (K S : Nat → Int32), i + d = c' → d < fn → ∃ K' S' G', p_X0_takeChunk_39 fu (nI e) x fn (nI i) (nI c') d_l d_f K S G = some (nI c', d_l, d_f, K', S', G') ∧ (∀ j, K' j = if i ≤ j ∧ j < c' then K (j + 1) else K j) ∧ (∀ j, S' j = if j = c' then d_l else if i ≤ j ∧ j < c' then S (j + 1) else S j) ∧ (∀ j, G' j = if j < e then (if G j ≤ x then G j else G j - 1) else G j) := by
  intro d
  induction d with
  | zero =>
    intro fn i K S h5 h6
    cases fn with
    | zero => omega
    | succ fn =>
      obtain ⟨G', s1, s2⟩ := tc99 (fu := fu) he x (nI c') d_l d_f K (upd S c' d_l) e fu 0 G (by omega) (by omega)
      have s1' : p_X0_takeChunk_99 fu (nI e) x fu 0 (nI c') d_l d_f K (upd S c' d_l) G = some (nI c', d_l, d_f, K, upd S c' d_l, G') := s1
      rw [p_X0_takeChunk_39, if_pos (nI_le (by omega) (by omega)), if_pos (ix_t c' rfl (by omega) (by decide)), cl_nI c' rfl (by omega), s1']
      refine ⟨K, upd S c' d_l, G', rfl, fun j => by rw [if_neg (by omega)], fun j => ?_, fun j => ?_⟩
      · by_cases c1 : j = c'
        · rw [c1, pk_us, if_pos rfl]
        · rw [pk_un c1, if_neg c1, if_neg (by omega)]
      · rw [s2 j]
        by_cases c1 : j < e
        · rw [if_pos (by omega), if_pos c1]
        · rw [if_neg (by omega), if_neg c1]
  | succ d ih =>
    intro fn i K S h5 h6
    cases fn with
    | zero => omega
    | succ fn =>
      obtain ⟨K', S', G', s1, s2, s3, s4⟩ := ih fn (i + 1) (upd K i (K (i + 1))) (upd S i (S (i + 1))) (by omega) (by omega)
      rw [p_X0_takeChunk_39, if_neg (nI_ge (by omega) (by omega)), nI_1, if_pos (ix_t (i + 1) rfl (by omega) (by decide)), if_pos (ix_t i rfl (by omega) (by decide)), if_pos (ix_t (i + 1) rfl (by omega) (by decide)), if_pos (ix_t i rfl (by omega) (by decide)), cl_nI i rfl (by omega), cl_nI (i + 1) rfl (by omega)]
      refine ⟨K', S', G', s1, fun j => ?_, fun j => ?_, s4⟩
      · rw [s2 j]
        by_cases c1 : j = i
        · subst c1
          rw [if_neg (by omega), if_pos (by omega), pk_us]
        · rw [pk_un c1]
          by_cases c2 : i + 1 ≤ j ∧ j < c'
          · rw [if_pos c2, if_pos (by omega), pk_un (by omega)]
          · rw [if_neg c2, if_neg (by omega)]
      · rw [s3 j]
        by_cases c0 : j = c'
        · rw [if_pos c0, if_pos c0]
        · rw [if_neg c0, if_neg c0]
          by_cases c1 : j = i
          · subst c1
            rw [if_neg (by omega), if_pos (by omega), pk_us]
          · rw [pk_un c1]
            by_cases c2 : i + 1 ≤ j ∧ j < c'
            · rw [if_pos c2, if_pos (by omega), pk_un (by omega)]
            · rw [if_neg c2, if_neg (by omega)]
theorem ga69 {e : Nat} (he : e ≤ 40) (x had tl dl mc : Int32) (Dm K S : Nat → Int32) : ∀ (d fn i : Nat) (G : Nat → Int32), i + d = e → d < fn → ∃ G', p_X10_goesAway_69 fu (nI e) m_t x fn had (nI i) tl dl mc Dm K S G = some (had, tl, dl, mc, Dm, K, S, G') ∧ ∀ j, G' j = if i ≤ j ∧ j < e then (if G j ≤ x then G j else G j - 1) else G j := by
  intro d
  induction d with
  | zero =>
    intro fn i G h5 h6
    cases fn with
    | zero => omega
    | succ fn =>
      rw [p_X10_goesAway_69, if_pos (nI_le (by omega) (by omega))]
      exact ⟨G, rfl, fun j => by rw [if_neg (by omega)]⟩
  | succ d ih =>
    intro fn i G h5 h6
    cases fn with
    | zero => omega
    | succ fn =>
      have hx : ix (nI i) 41 = true := ix_t i rfl (by omega) (by decide)
      rw [p_X10_goesAway_69, if_neg (nI_ge (by omega) (by omega))]
      simp only [hx, eq_self, if_true]
      rw [cl_nI i rfl (by omega), nI_1]
      by_cases c0 : G i ≤ x
      · obtain ⟨G', s1, s2⟩ := ih fn (i + 1) (upd G i (G i - 0)) (by omega) (by omega)
        rw [if_pos c0]
        refine ⟨G', s1, fun j => ?_⟩
        rw [s2 j]
        by_cases c1 : j = i
        · subst c1
          rw [if_neg (by omega), if_pos (by omega), if_pos c0, pk_us]
          simp
        · rw [pk_un c1]
          by_cases c2 : i + 1 ≤ j ∧ j < e
          · rw [if_pos c2, if_pos (show i ≤ j ∧ j < e by omega)]
          · rw [if_neg c2, if_neg (show ¬ (i ≤ j ∧ j < e) by omega)]
      · obtain ⟨G', s1, s2⟩ := ih fn (i + 1) (upd G i (G i - 1)) (by omega) (by omega)
        rw [if_neg c0]
        refine ⟨G', s1, fun j => ?_⟩
        rw [s2 j]
        by_cases c1 : j = i
        · subst c1
          rw [if_neg (by omega), if_pos (by omega), if_neg c0, pk_us]
        · rw [pk_un c1]
          by_cases c2 : i + 1 ≤ j ∧ j < e
          · rw [if_pos c2, if_pos (show i ≤ j ∧ j < e by omega)]
          · rw [if_neg c2, if_neg (show ¬ (i ≤ j ∧ j < e) by omega)]
theorem ga25 {e c' : Nat} (he : e ≤ 40) (hc : c' < 60) (hfu : 20000 ≤ fu) (x had tl dl : Int32) (Dm G : Nat → Int32) : ∀ (d fn i : Nat) (K S : Nat → Int32), i + d = c' → d < fn → ∃ K' S' G', p_X10_goesAway_25 fu (nI e) m_t x fn had (nI i) tl dl (nI c') Dm K S G = some (had, tl, dl, nI c', Dm, K', S', G') ∧ (∀ j, K' j = if i ≤ j ∧ j < c' then K (j + 1) else K j) ∧ (∀ j, S' j = if i ≤ j ∧ j < c' then S (j + 1) else S j) ∧ (∀ j, G' j = if j < e then (if G j ≤ x then G j else G j - 1) else G j) := by
  intro d
  induction d with
  | zero =>
    intro fn i K S h5 h6
    cases fn with
    | zero => omega
    | succ fn =>
      obtain ⟨G', s1, s2⟩ := ga69 (fu := fu) (m_t := m_t) he x had tl dl (nI c') Dm K S e fu 0 G (by omega) (by omega)
      have s1' : p_X10_goesAway_69 fu (nI e) m_t x fu had 0 tl dl (nI c') Dm K S G = some (had, tl, dl, nI c', Dm, K, S, G') := s1
      rw [p_X10_goesAway_25, if_pos (nI_le (by omega) (by omega)), s1']
      refine ⟨K, S, G', rfl, fun j => by rw [if_neg (by omega)], fun j => by rw [if_neg (by omega)], fun j => ?_⟩
      rw [s2 j]
      by_cases c1 : j < e
      · rw [if_pos (by omega), if_pos c1]
      · rw [if_neg (by omega), if_neg c1]
  | succ d ih =>
    intro fn i K S h5 h6
    cases fn with
    | zero => omega
    | succ fn =>
      obtain ⟨K', S', G', s1, s2, s3, s4⟩ := ih fn (i + 1) (upd K i (K (i + 1))) (upd S i (S (i + 1))) (by omega) (by omega)
      rw [p_X10_goesAway_25, if_neg (nI_ge (by omega) (by omega)), nI_1, if_pos (ix_t (i + 1) rfl (by omega) (by decide)), if_pos (ix_t i rfl (by omega) (by decide)), if_pos (ix_t (i + 1) rfl (by omega) (by decide)), if_pos (ix_t i rfl (by omega) (by decide)), cl_nI i rfl (by omega), cl_nI (i + 1) rfl (by omega)]
      have sh : ∀ (A : Nat → Int32) (j : Nat), (if i + 1 ≤ j ∧ j < c' then upd A i (A (i + 1)) (j + 1) else upd A i (A (i + 1)) j) = if i ≤ j ∧ j < c' then A (j + 1) else A j := by
        intro A j
        by_cases c1 : j = i
        · subst c1
          rw [if_neg (by omega), if_pos (by omega), pk_us]
        · rw [pk_un c1]
          by_cases c2 : i + 1 ≤ j ∧ j < c'
          · rw [if_pos c2, if_pos (by omega), pk_un (by omega)]
          · rw [if_neg c2, if_neg (by omega)]
      exact ⟨K', S', G', s1, fun j => by rw [s2 j, sh], fun j => by rw [s3 j, sh], s4⟩
def rs (st : Nat → Nat) (k : Nat) (j : Nat) : Nat := if j ≤ k then st j else st (j + 1) - (st (k + 1) - st k)
def rg (g : Nat → Nat) (k : Nat) (i : Nat) : Nat := if g i ≤ k then g i else g i - 1
theorem take_both {c e k : Nat} {st g : Nat → Nat} (hfu : 20000 ≤ fu) (h4 : HC c st) (h5 : HE c e g h_u h_n) (h6 : mr m_d d_f (st c)) (h7 : ∀ k, k < c → m_k k = h_k k) (h8 : ∀ k, k ≤ c → h_s k = nI (st k)) (h9 : ∀ k, k < c → m_s k = nI (st (k + 1) - st k)) (h10 : ∀ i, i < e → m_u i = h_u i ∧ m_n i = h_n i ∧ h_g i = nI (g i) ∧ m_m i = nI (g i)) (hk : k < c) (hno : ∀ i, i < e → ¬ g i = k) : ∃ zx zm, p_X0_takeChunk fu (nI c) (nI e) (nI (st c)) d_f h_k h_s h_g (nI k) = some zx ∧ p_X10_goesAway fu m_tl (nI (st c)) (nI c) (nI e) m_t m_d m_k m_s m_m (nI k) = some zm ∧ zm.1 = nI (st (k + 1) - st k) ∧ zm.2.1 = m_tl ∧ RH zx.1 (nI e) zx.2.1 zx.2.2.1 zx.2.2.2.1 zx.2.2.2.2.1 h_u h_n zx.2.2.2.2.2 zm.2.2.1 zm.2.2.2.2.1 zm.2.2.2.2.2.1 zm.2.2.2.2.2.2.1 zm.2.2.2.1 m_u m_n zm.2.2.2.2.2.2.2 (nI e) := by
  have h11 := h4.1
  have h12 := h4.2.2.2
  have h15 := st_le h4 (show k + 1 ≤ c by omega) (Nat.le_refl c)
  have h16 := h4.2.2.1 k hk
  have he := h5.1
  obtain ⟨c', rfl⟩ : ∃ x, c = x + 1 := ⟨c - 1, by omega⟩
  generalize hold : st (k + 1) - st k = old
  obtain ⟨G0, e1⟩ := q_spliceB (n1 := 12000) (L := st (c' + 1)) (so := 0) (n := 0) (at_ := st k) (old := old) d_f (by omega) (by omega) (by omega) (by decide) (by omega)
  rw [Nat.add_zero] at e1
  obtain ⟨S1, s1, s2⟩ := sd_loopB (fu := fu) (nI 0) (nI 0) (nI k) (nI (st (c' + 1) - old)) (va_cpy G0 (va_cpy d_f d_f (st k + old) (st k + 0) (st (c' + 1) - (st k + old))) 0 (st k) 0) (nI 0 - nI old) h11 (c' + 1 - k) fu (k + 1) h_s (by omega) (by omega)
  have e2 : p_X0_setDataB fu (nI (c' + 1)) (nI (st (c' + 1))) d_f h_s (nI 0) (nI 0) (nI k) = some (nI (st (c' + 1) - old), va_cpy G0 (va_cpy d_f d_f (st k + old) (st k + 0) (st (c' + 1) - (st k + old))) 0 (st k) 0, S1) := by
    unfold p_X0_setDataB
    rw [q_lengthOf h4 hk h8, hold, ob_s, q_hasChunk_t hk h11, ob_s, if_pos rfl, q_room h12, ob_s, if_pos ((sub_le_iff (by omega) (by omega) (by omega)).mpr (by omega)), if_pos (ix_t k rfl (by omega) (by decide)), ob_s, cl_nI k rfl (by omega), h8 k (by omega), e1, ob_s, nI_1]
    exact s1
  obtain ⟨K2, S2, G2, t1, t2, t3, t4⟩ := tc39 (fu := fu) (e := e) (c' := c') he (by omega) hfu (nI k) (nI (st (c' + 1) - old)) (va_cpy G0 (va_cpy d_f d_f (st k + old) (st k + 0) (st (c' + 1) - (st k + old))) 0 (st k) 0) h_g (c' - k) fu k h_k S1 (by omega) (by omega)
  obtain ⟨E, E1, E2⟩ := q_replace (fu := fu) (m_t := m_t) (k := k) (at_ := st k) (old := old) (n := 0) (L := st (c' + 1)) hfu (by omega) (by omega) h12 (by omega) (by omega) 0 m_tl rfl m_s m_d (by rw [h9 k hk, hold]) (q_fromOf hfu h4 (by omega) h9)
  rw [Nat.add_zero] at E1
  obtain ⟨K3, S3, G3, u1, u2, u3, u4⟩ := ga25 (fu := fu) (m_t := m_t) (e := e) (c' := c') he (by omega) hfu (nI k) (nI old) m_tl (nI (st (c' + 1) - old)) E m_m (c' - k) fu k m_k (upd m_s k (nI 0)) (by omega) (by omega)
  have f1 : p_X0_takeChunk fu (nI (c' + 1)) (nI e) (nI (st (c' + 1))) d_f h_k h_s h_g (nI k) = some (nI c', nI (st (c' + 1) - old), va_cpy G0 (va_cpy d_f d_f (st k + old) (st k + 0) (st (c' + 1) - (st k + old))) 0 (st k) 0, K2, S2, G2) := by
    unfold p_X0_takeChunk
    rw [q_hasChunk_t hk h11, ob_s, if_pos rfl, q_part (x := 0) (y := 0) (o := 0) (l := 0) rfl rfl (by omega) (by omega), ob_s, e2, ob_s, nI_pred]
    exact t1
  have f2 : p_X10_goesAway fu m_tl (nI (st (c' + 1))) (nI (c' + 1)) (nI e) m_t m_d m_k m_s m_m (nI k) = some (nI old, m_tl, nI (st (c' + 1) - old), nI c', E, K3, S3, G3) := by
    unfold p_X10_goesAway
    rw [if_pos (ix_t k rfl (by omega) (by decide)), E1, ob_s, cl_nI k rfl (by omega), h9 k hk, hold, nI_pred]
    exact u1
  refine ⟨_, _, f1, f2, rfl, rfl, c', e, rs st k, rg g k, ⟨by omega, ?_, ?_, ?_⟩, ⟨he, ?_, h5.2.2⟩, ⟨rfl, rfl, rfl, rfl, ?_, ?_⟩, ?_, ?_, ?_, ?_, ?_⟩
  · unfold rs
    rw [if_pos (Nat.zero_le k)]
    exact h4.2.1
  · intro j hj
    unfold rs
    have q1 := h4.2.2.1 j (by omega)
    have q2 := h4.2.2.1 (j + 1) (by omega)
    by_cases c1 : j + 1 ≤ k
    · rw [if_pos (by omega), if_pos c1]
      exact q1
    · rw [if_neg c1]
      by_cases c2 : j ≤ k
      · rw [if_pos c2, show j = k by omega]
        rw [show j = k by omega] at q1 q2
        omega
      · rw [if_neg c2]
        omega
  · have q0 : rs st k c' = st (c' + 1) - old := by
      unfold rs
      by_cases c1 : c' ≤ k
      · rw [if_pos c1, show c' = k by omega]
        omega
      · rw [if_neg c1, hold]
    rw [q0]
    omega
  · intro i hi
    have q1 := h5.2.1 i hi
    have q2 := hno i hi
    refine ⟨?_, q1.2⟩
    unfold rg
    split <;> omega
  · have q0 : rs st k c' = st (c' + 1) - old := by
      unfold rs
      by_cases c1 : c' ≤ k
      · rw [if_pos c1, show c' = k by omega]
        omega
      · rw [if_neg c1, hold]
    rw [q0]
  · have q0 : rs st k c' = st (c' + 1) - old := by
      unfold rs
      by_cases c1 : c' ≤ k
      · rw [if_pos c1, show c' = k by omega]
        omega
      · rw [if_neg c1, hold]
    rw [q0]
  · have q0 : rs st k c' = st (c' + 1) + 0 - old := by
      unfold rs
      by_cases c1 : c' ≤ k
      · rw [if_pos c1, show c' = k by omega]
        omega
      · rw [if_neg c1, hold]
        omega
    rw [q0]
    exact mr_rep (t_f := d_f) (so := 0) (x := G0) (m_t := m_t) (n := 0) h6 (by omega) (fun i hi => absurd hi (Nat.not_lt_zero i)) E2
  · intro j hj
    show K3 j = K2 j
    rw [u2 j, t2 j]
    by_cases c1 : k ≤ j ∧ j < c'
    · rw [if_pos c1, if_pos c1]
      exact h7 (j + 1) (by omega)
    · rw [if_neg c1, if_neg c1]
      exact h7 j (by omega)
  · intro j hj
    show S2 j = nI (rs st k j)
    have q3 : ∀ i, i ≤ c' + 1 → S1 i = nI (if k + 1 ≤ i then st i - old else st i) := by
      intro i hi
      rw [s2 i, h8 i hi]
      by_cases c1 : k + 1 ≤ i
      · have q4 := st_le h4 c1 hi
        rw [if_pos (by omega), if_pos c1, nI_as (by omega), Nat.add_zero]
      · rw [if_neg (by omega), if_neg c1]
    rw [t3 j]
    unfold rs
    by_cases c0 : j = c'
    · subst c0
      rw [if_pos rfl]
      by_cases c1 : j ≤ k
      · rw [if_pos c1]
        have : j = k := by omega
        subst this
        congr 1
        omega
      · rw [if_neg c1, hold]
    · rw [if_neg c0]
      by_cases c1 : k ≤ j ∧ j < c'
      · rw [if_pos c1, q3 (j + 1) (by omega), if_pos (by omega)]
        by_cases c2 : j ≤ k
        · rw [if_pos c2]
          have : j = k := by omega
          subst this
          congr 1
          omega
        · rw [if_neg c2, hold]
      · rw [if_neg c1, q3 j (by omega), if_neg (by omega), if_pos (by omega)]
  · intro j hj
    show S3 j = nI (rs st k (j + 1) - rs st k j)
    rw [u3 j]
    unfold rs
    by_cases c1 : k ≤ j ∧ j < c'
    · rw [if_pos c1, pk_un (by omega), h9 (j + 1) (by omega), if_neg (show ¬ j + 1 ≤ k by omega), hold]
      have q5 := st_le h4 (show k + 1 ≤ j + 1 by omega) (show j + 1 ≤ c' + 1 by omega)
      have q6 := h4.2.2.1 (j + 1) (by omega)
      by_cases c2 : j ≤ k
      · have : j = k := by omega
        subst this
        rw [if_pos c2]
        congr 1
        omega
      · rw [if_neg c2]
        congr 1
        omega
    · rw [if_neg c1, pk_un (by omega), h9 j (by omega), if_pos (by omega), if_pos (by omega)]
  · intro i hi
    obtain ⟨q1, q2, q3, q4⟩ := h10 i hi
    have q5 := (h5.2.1 i hi).1
    have gg : ∀ x : Int32, x = nI (g i) → (if x ≤ nI k then x else x - 1) = nI (rg g k i) := by
      intro x hx
      subst hx
      unfold rg
      have s5 : nI (g i) ≤ nI k ↔ g i ≤ k := nI_leI (by omega) (by omega)
      by_cases c1 : g i ≤ k
      · rw [if_pos (s5.mpr c1), if_pos c1]
      · rw [if_neg (fun h => c1 (s5.mp h)), if_neg c1]
        exact pk_sub (a := g i) (b := 1) (by omega)
    refine ⟨q1, q2, ?_, ?_⟩
    · show G2 i = _
      rw [t4 i, if_pos hi]
      exact gg _ q3
    · show G3 i = _
      rw [u4 i, if_pos hi]
      exact gg _ q4
end RM
