/-! add and change -/
theorem ssr_and32 (x : BitVec 32) (s : Nat) (h1 : s ≤ 24) : ((x.sshiftRight s) &&& 255#32).toNat = x.toNat / 2 ^ s % 256 := by
  have e1 : (x.sshiftRight s) &&& 255#32 = (x >>> s) &&& 255#32 := by
    apply BitVec.eq_of_getLsbD_eq
    intro i hi
    rw [BitVec.getLsbD_and, BitVec.getLsbD_and]
    by_cases h2 : i < 8
    · have h3 : s + i < 32 := by omega
      have h4 : ¬ 32 ≤ i := by omega
      simp [BitVec.getLsbD_sshiftRight, BitVec.getLsbD_ushiftRight, h3, h4]
    · have h3 : (255#32).getLsbD i = false := by
        rw [BitVec.getLsbD_ofNat]
        have h4 : Nat.testBit 255 i = false := Nat.testBit_lt_two_pow (Nat.lt_of_lt_of_le (show 255 < 2 ^ 8 by decide) (Nat.pow_le_pow_right (by decide) (by omega)))
        simp [h4]
      rw [h3, Bool.and_false, Bool.and_false]
  rw [e1, BitVec.toNat_and, BitVec.toNat_ushiftRight, Nat.shiftRight_eq_div_pow]
  exact Nat.and_two_pow_sub_one_eq_mod _ 8
theorem of_tn {x : Int32} {m : Nat} (h1 : x.toBitVec.toNat = m) : x = nI m := by
  apply Int32.toBitVec_inj.mp
  show _ = BitVec.ofNat 32 m
  rw [← h1]
  simp
theorem sk32 (a b : Int32) (s : Nat) (hb : (b.toBitVec.smod 32).toNat = s) (hs : s ≤ 24) : (a >>> b) &&& 255 = nI (a.toBitVec.toNat / 2 ^ s % 256) := by
  apply of_tn
  rw [Int32.toBitVec_and, Int32.toBitVec_shiftRight, BitVec.sshiftRight_eq', hb]
  exact ssr_and32 a.toBitVec s hs
theorem let_tab : ∀ v, v < 256 → p_X2_isLetter (nI v) = some (decide (32 ≤ v ∧ v ≤ 126)) := by decide +kernel
theorem in3_tab : ∀ v, v < 256 → p_X10_in (Int32.toInt64 (nI v)) 32 126 = some (decide (32 ≤ v ∧ v ≤ 126)) := by decide +kernel
theorem q_isKind (a : Int32) : p_X2_isKind a = p_X10_isKind a ∧ ∃ b, p_X10_isKind a = some b := by
  have g := a.toBitVec.isLt
  have u24 : ((a.toUInt32 >>> ((24 : Int32).toUInt32 &&& Int32.toUInt32 31)).toInt32) = nI (a.toBitVec.toNat / 2 ^ 24) := of_tn (pk_ushr a 24 24 (by decide))
  have u16 : ((a.toUInt32 >>> ((16 : Int32).toUInt32 &&& Int32.toUInt32 31)).toInt32) &&& 255 = nI (a.toBitVec.toNat / 2 ^ 16 % 256) := by
    rw [pk_and _ 8 (by decide), pk_ushr a 16 16 (by decide)]
  have u8 : ((a.toUInt32 >>> ((8 : Int32).toUInt32 &&& Int32.toUInt32 31)).toInt32) &&& 255 = nI (a.toBitVec.toNat / 2 ^ 8 % 256) := by
    rw [pk_and _ 8 (by decide), pk_ushr a 8 8 (by decide)]
  have u0 : a &&& 255 = nI (a.toBitVec.toNat % 256) := pk_and a 8 (by decide)
  have s24 := sk32 a ((24 : Int32) &&& 31) 24 (by decide) (by decide)
  have s16 := sk32 a ((16 : Int32) &&& 31) 16 (by decide) (by decide)
  have s8 := sk32 a ((8 : Int32) &&& 31) 8 (by decide) (by decide)
  have m24 : a.toBitVec.toNat / 2 ^ 24 % 256 = a.toBitVec.toNat / 2 ^ 24 := by omega
  unfold p_X2_isKind p_X10_isKind
  rw [u24, u16, u8, u0, s24, s16, s8, m24, let_tab _ (by omega), let_tab _ (by omega), let_tab _ (by omega), let_tab _ (by omega), in3_tab _ (by omega), in3_tab _ (by omega), in3_tab _ (by omega), in3_tab _ (by omega)]
  refine ⟨rfl, ?_⟩
  simp only [ob_s]
  split
  · split
    · split
      · split
        · exact ⟨_, rfl⟩
        · exact ⟨_, rfl⟩
      · exact ⟨_, rfl⟩
    · exact ⟨_, rfl⟩
  · exact ⟨_, rfl⟩
theorem q_addChunk {c L t_n so n : Nat} {d_f t_f : Nat → Int8} {h_k h_s : Nat → Int32} (kd : Int32) (h1 : c < 60) (h2 : L + n ≤ 12000) (h3 : so + n ≤ t_n) (h4 : t_n < 1000000) : p_X0_addChunk t_n (nI c) (nI L) d_f h_k h_s (nI so) (nI n) t_f kd = some (nI (c + 1), nI (L + n), va_cpy t_f (va_cpy d_f d_f L (L + n) 0) so L n, upd h_k c kd, upd (upd h_s c (nI L)) (c + 1) (nI (L + n))) := by
  have e1 : p_X6_spliceA 12000 t_n (nI L) d_f (nI so) (nI n) t_f (nI L) 0 = some (nI (L + n), va_cpy t_f (va_cpy d_f d_f L (L + n) 0) so L n) := by
    have := q_spliceA (n1 := 12000) (n2 := t_n) (L := L) (so := so) (n := n) (at_ := L) (old := 0) d_f t_f (by omega) (by omega) h3 (by decide) h4 (by omega)
    rw [Nat.add_zero, Nat.sub_zero, Nat.sub_self] at this
    exact this
  have e2 : p_X0_hasChunkRoom (nI c) (nI L) (nI n) = some true := by
    unfold p_X0_hasChunkRoom
    rw [if_neg (show ¬ (60 : Int32) ≤ nI c from nI_ge (b := 60) h1 (by decide)), q_room (by omega), ob_s, if_neg (nI_nlt (by omega) (by omega))]
  unfold p_X0_addChunk
  rw [e2, ob_s, if_pos rfl, if_pos (ix_t c rfl h1 (by decide)), if_pos (ix_t c rfl (by omega) (by decide)), e1, ob_s, nI_1, if_pos (ix_t (c + 1) rfl (by omega) (by decide)), cl_nI c rfl (by omega), cl_nI (c + 1) rfl (by omega)]
section AC
variable {fu : Nat} {t_l : Int32} {t_f : Nat → Int8} {m_tl : Int32} {m_t : Nat → Int32}
variable {h_c h_e d_l : Int32} {d_f : Nat → Int8} {h_k h_s h_u : Nat → Int32} {h_n : Nat → Int64} {h_g : Nat → Int32} {m_dl : Int32} {m_d m_k m_s : Nat → Int32} {m_c : Int32} {m_u : Nat → Int32} {m_n : Nat → Int64} {m_m : Nat → Int32} {m_e : Int32}
theorem st_add (hfu : 20000 ≤ fu) (hT : RT t_l t_f m_tl m_t) (h3 : RH h_c h_e d_l d_f h_k h_s h_u h_n h_g m_dl m_d m_k m_s m_c m_u m_n m_m m_e) (a1 : Int32) : ∃ zx zm, p_X9_add t_l t_f h_c d_l d_f h_k h_s a1 = some zx ∧ p_X10_add fu m_tl m_dl m_c m_t m_d m_k m_s a1 = some zm ∧ zx.1 = zm.1 ∧ RT zx.2.1 t_f zm.2.1 m_t ∧ RH zx.2.2.1 h_e zx.2.2.2.1 zx.2.2.2.2.1 zx.2.2.2.2.2.1 zx.2.2.2.2.2.2 h_u h_n h_g zm.2.2.1 zm.2.2.2.2.1 zm.2.2.2.2.2.1 zm.2.2.2.2.2.2 zm.2.2.2.1 m_u m_n m_m m_e := by
  have hT' := hT
  have h3' := h3
  obtain ⟨n, hn, b1, b2, hm⟩ := hT
  obtain ⟨c, e, st, g, h4, h5, ⟨b5, b6, b7, b8, b9, b10⟩, h6, h7, h8, h9, h10⟩ := h3
  subst b1 b2 b5 b6 b7 b8 b9 b10
  have h11 := h4.1
  have h12 := h4.2.2.2
  obtain ⟨k1, b, k2⟩ := q_isKind a1
  unfold p_X9_add p_X10_add
  rw [k1, k2, ob_s, ob_s]
  cases b with
  | false =>
    rw [if_neg (by decide), if_neg (by decide)]
    exact ⟨_, _, rfl, rfl, rfl, hT', h3'⟩
  | true =>
    rw [if_pos rfl, if_pos rfl]
    by_cases k3 : a1 = 1380541560
    · rw [if_pos k3, if_pos k3]
      exact ⟨_, _, rfl, rfl, rfl, hT', h3'⟩
    · rw [if_neg k3, if_neg k3]
      by_cases k4 : c = 60
      · have e1 : p_X0_hasChunkRoom (nI c) (nI (st c)) (nI n) = some false := by
          unfold p_X0_hasChunkRoom
          rw [if_pos (show (60 : Int32) ≤ nI c from nI_le (a := 60) (by omega) (by omega))]
        rw [e1, ob_s, if_neg (by decide), if_pos (show nI c = 60 by rw [k4]; rfl)]
        exact ⟨_, _, rfl, rfl, rfl, hT', h3'⟩
      · have k4' : ¬ nI c = 60 := fun h => k4 ((i_iff (K := 60) (k := 60) rfl (by omega) (by decide)).mp h)
        have e0 : p_X0_hasChunkRoom (nI c) (nI (st c)) (nI n) = some (decide (st c + n ≤ 12000)) := by
          unfold p_X0_hasChunkRoom
          rw [if_neg (show ¬ (60 : Int32) ≤ nI c from nI_ge (b := 60) (by omega) (by decide)), q_room h12, ob_s]
          by_cases k5 : st c + n ≤ 12000
          · rw [if_neg (nI_nlt (by omega) (by omega)), decide_eq_true k5]
          · rw [if_pos (nI_lt (by omega) (by omega)), decide_eq_false k5]
        rw [e0, ob_s, if_neg k4', nI_add (st c) n]
        by_cases k5 : st c + n ≤ 12000
        · have e3 : nI c + 1 - 1 = nI c := by rw [nI_1, nI_pred]
          have hup : ∀ k, k < c → upd m_s c 0 k = nI (st (k + 1) - st k) := fun k hk => by rw [pk_un (by omega)]; exact h9 k hk
          obtain ⟨E, E1, E2⟩ := q_replace (fu := fu) (m_t := m_t) (k := c) (at_ := st c) (old := 0) (n := n) (L := st c) hfu (by omega) (by omega) h12 (by omega) hn 1 (nI n) rfl (upd m_s c 0) m_d pk_us (q_fromOf hfu h4 (Nat.le_refl c) hup)
          rw [if_pos (decide_eq_true k5), if_pos (show nI (st c + n) ≤ 12000 from nI_le (b := 12000) k5 (by decide)), if_pos (ix_t c rfl (by omega) (by decide)), if_pos (ix_t c rfl (by omega) (by decide)), cl_nI c rfl (by omega), e3, E1, ob_s, q_whole (by omega), ob_s, q_addChunk (so := 0) a1 (by omega) k5 (by omega) (by decide), ob_s]
          have e5 : p_X6_keep (nI n) 0 = some (nI 0) := q_keep (n := 0) (by omega) (by omega)
          rw [e5, ob_s]
          refine ⟨_, _, rfl, rfl, ?_, ⟨0, by omega, rfl, rfl, fun j hj => absurd hj (Nat.not_lt_zero j)⟩, c + 1, e, (fun j => if j ≤ c then st j else st c + n), g, ⟨by omega, ?_, ?_, ?_⟩, ⟨h5.1, fun i hi => ⟨by have := (h5.2.1 i hi).1; omega, (h5.2.1 i hi).2⟩, h5.2.2⟩, ⟨rfl, nI_1 c, rfl, rfl, ?_, ?_⟩, ?_, ?_, ?_, ?_, h10⟩
          · exact nI_pred c
          · show (if 0 ≤ c then st 0 else st c + n) = 0
            rw [if_pos (Nat.zero_le c)]
            exact h4.2.1
          · intro k hk
            show (if k ≤ c then st k else st c + n) ≤ (if k + 1 ≤ c then st (k + 1) else st c + n)
            rw [if_pos (show k ≤ c by omega)]
            by_cases k6 : k + 1 ≤ c
            · rw [if_pos k6]
              exact h4.2.2.1 k (by omega)
            · rw [if_neg k6, show k = c by omega]
              omega
          · show (if c + 1 ≤ c then st (c + 1) else st c + n) ≤ 12000
            rw [if_neg (by omega)]
            exact k5
          · show nI (st c + n) = nI (if c + 1 ≤ c then st (c + 1) else st c + n)
            rw [if_neg (by omega)]
          · show nI (st c + n - 0) = nI (if c + 1 ≤ c then st (c + 1) else st c + n)
            rw [if_neg (by omega), Nat.sub_zero]
          · have h20 := mr_rep (t_f := t_f) (so := 0) (x := t_f) h6 (show st c + 0 ≤ st c by omega) (fun i hi => by rw [Nat.zero_add]; exact hm i hi) E2
            rw [Nat.add_zero, Nat.sub_zero, Nat.sub_self] at h20
            show mr E _ (if c + 1 ≤ c then st (c + 1) else st c + n)
            rw [if_neg (by omega)]
            exact h20
          · intro k hk
            show upd m_k c a1 k = upd h_k c a1 k
            by_cases k6 : k = c
            · rw [k6, pk_us, pk_us]
            · rw [pk_un k6, pk_un k6]
              exact h7 k (by omega)
          · intro k hk
            show upd (upd h_s c (nI (st c))) (c + 1) (nI (st c + n)) k = nI (if k ≤ c then st k else st c + n)
            by_cases k6 : k = c + 1
            · rw [k6, pk_us, if_neg (by omega)]
            · rw [pk_un k6, if_pos (by omega)]
              by_cases k7 : k = c
              · rw [k7, pk_us]
              · rw [pk_un k7]
                exact h8 k (by omega)
          · intro k hk
            show upd (upd m_s c 0) c (nI n) k = nI ((if k + 1 ≤ c then st (k + 1) else st c + n) - (if k ≤ c then st k else st c + n))
            rw [if_pos (show k ≤ c by omega)]
            by_cases k6 : k = c
            · rw [k6, pk_us, if_neg (by omega)]
              congr 1
              omega
            · rw [pk_un k6, pk_un k6, if_pos (by omega)]
              exact h9 k (by omega)
        · rw [if_neg (show ¬ decide (st c + n ≤ 12000) = true by rw [decide_eq_true_iff]; exact k5), if_neg (show ¬ nI (st c + n) ≤ 12000 from nI_ge (a := 12000) (by omega) (by omega))]
          exact ⟨_, _, rfl, rfl, rfl, hT', h3'⟩
theorem sd_loop {c : Nat} (q_o q_l a1 : Int32) (t_n : Nat) (tf : Nat → Int8) (d_l : Int32) (d_f : Nat → Int8) (v : Int32) (hc : c ≤ 60) (h_s : Nat → Int32) : ∀ (d fn i : Nat) (S : Nat → Int32), i + d = c + 1 → d < fn → ∃ S', p_X0_setDataA_55 fu t_n (nI c) q_o q_l tf a1 fn v (nI i) d_l d_f S = some (d_l, d_f, S') ∧ ∀ j, S' j = if i ≤ j ∧ j ≤ c then S j + v else S j := by
  intro d
  induction d with
  | zero =>
    intro fn i S h5 h6
    cases fn with
    | zero => omega
    | succ fn =>
      rw [p_X0_setDataA_55, if_pos (nI_lt (by omega) (by omega))]
      exact ⟨S, rfl, fun j => by rw [if_neg (by omega)]⟩
  | succ d ih =>
    intro fn i S h5 h6
    cases fn with
    | zero => omega
    | succ fn =>
      obtain ⟨S', s1, s2⟩ := ih fn (i + 1) (upd S i (S i + v)) (by omega) (by omega)
      rw [p_X0_setDataA_55, if_neg (nI_nlt (by omega) (by omega)), if_pos (ix_t i rfl (by omega) (by decide)), if_pos (ix_t i rfl (by omega) (by decide)), cl_nI i rfl (by omega), nI_1]
      refine ⟨S', s1, fun j => ?_⟩
      rw [s2 j]
      by_cases c1 : j = i
      · subst c1
        rw [if_neg (by omega), if_pos (by omega), pk_us]
      · rw [pk_un c1]
        by_cases c2 : i + 1 ≤ j ∧ j ≤ c
        · rw [if_pos c2, if_pos (by omega)]
        · rw [if_neg c2, if_neg (by omega)]
theorem st_change (hfu : 20000 ≤ fu) (hT : RT t_l t_f m_tl m_t) (h3 : RH h_c h_e d_l d_f h_k h_s h_u h_n h_g m_dl m_d m_k m_s m_c m_u m_n m_m m_e) (a1 : Int32) : ∃ zx zm, p_X9_change fu t_l t_f h_c d_l d_f h_s a1 = some zx ∧ p_X10_change fu m_tl m_dl m_c m_t m_d m_s a1 = some zm ∧ zx.1 = zm.1 ∧ RT zx.2.1 t_f zm.2.1 m_t ∧ RH h_c h_e zx.2.2.1 zx.2.2.2.1 h_k zx.2.2.2.2 h_u h_n h_g zm.2.2.1 zm.2.2.2.1 m_k zm.2.2.2.2 m_c m_u m_n m_m m_e := by
  have hT' := hT
  have h3' := h3
  obtain ⟨n, hn, b1, b2, hm⟩ := hT
  obtain ⟨c, e, st, g, h4, h5, ⟨b5, b6, b7, b8, b9, b10⟩, h6, h7, h8, h9, h10⟩ := h3
  subst b1 b2 b5 b6 b7 b8 b9 b10
  have h11 := h4.1
  have h12 := h4.2.2.2
  unfold p_X9_change p_X10_change
  rcases pk_ix a1 (n := c) (by omega) with h13 | h13 | ⟨k, h14, rfl⟩
  · rw [q_hasChunk_f (Or.inl h13), q_isChunk_f (Or.inl h13) h11]
    exact ⟨_, _, rfl, rfl, rfl, hT', h3'⟩
  · rw [q_hasChunk_f (Or.inr h13), q_isChunk_f (Or.inr h13) h11]
    exact ⟨_, _, rfl, rfl, rfl, hT', h3'⟩
  · have h15 := st_le h4 (show k + 1 ≤ c by omega) (Nat.le_refl c)
    have h16 := h4.2.2.1 k h14
    generalize hold : st (k + 1) - st k = old
    have e0 : nI (st c) - nI old + nI n = nI (st c - old + n) := by rw [pk_sub (by omega), nI_add]
    rw [q_hasChunk_t h14 h11, q_isChunk_t h14 h11, ob_s, ob_s, if_pos rfl, if_pos rfl, if_pos (ix_t k rfl (by omega) (by decide)), if_pos (ix_t k rfl (by omega) (by decide)), q_lengthOf h4 h14 h8, hold, ob_s, q_room h12, ob_s, cl_nI k rfl (by omega), h9 k h14, hold, e0]
    by_cases k5 : st c + n ≤ 12000 + old
    · have e1 : p_X6_spliceA 12000 6000 (nI (st c)) d_f (nI 0) (nI n) t_f (nI (st k)) (nI old) = some _ := q_spliceA (n1 := 12000) (n2 := 6000) (L := st c) (so := 0) (n := n) (at_ := st k) (old := old) d_f t_f (by omega) k5 (by omega) (by decide) (by decide) (by omega)
      obtain ⟨S', s1, s2⟩ := sd_loop (fu := fu) (nI 0) (nI n) (nI k) 6000 t_f (nI (st c + n - old)) (va_cpy t_f (va_cpy d_f d_f (st k + old) (st k + n) (st c - (st k + old))) 0 (st k) n) (nI n - nI old) h11 h_s (c - k) fu (k + 1) h_s (by omega) (by omega)
      have e2 : p_X0_setDataA fu 6000 (nI c) (nI (st c)) d_f h_s (nI 0) (nI n) t_f (nI k) = some (nI (st c + n - old), va_cpy t_f (va_cpy d_f d_f (st k + old) (st k + n) (st c - (st k + old))) 0 (st k) n, S') := by
        unfold p_X0_setDataA
        rw [q_lengthOf h4 h14 h8, hold, ob_s, q_hasChunk_t h14 h11, ob_s, if_pos rfl, q_room h12, ob_s, if_pos ((sub_le_iff (by omega) (by omega) (by omega)).mpr (by omega)), if_pos (ix_t k rfl (by omega) (by decide)), ob_s, cl_nI k rfl (by omega), h8 k (by omega), e1, ob_s, nI_1]
        exact s1
      obtain ⟨E, E1, E2⟩ := q_replace (fu := fu) (m_t := m_t) (k := k) (at_ := st k) (old := old) (n := n) (L := st c) hfu (by omega) (by omega) h12 k5 hn 1 (nI n) rfl m_s m_d (by rw [h9 k h14, hold]) (q_fromOf hfu h4 (by omega) h9)
      have e5 : p_X6_keep (nI n) 0 = some (nI 0) := q_keep (n := 0) (by omega) (by omega)
      rw [if_pos ((sub_le_iff (by omega) (by omega) (by omega)).mpr (by omega)), if_pos (show nI (st c - old + n) ≤ 12000 from nI_le (b := 12000) (by omega) (by decide)), q_whole (by omega), ob_s, e2, ob_s, e5, ob_s, E1, ob_s]
      have hst : ∀ j, j ≤ c → k + 1 ≤ j → old ≤ st j := fun j q1 q2 => by
        have := st_le h4 q2 q1
        omega
      refine ⟨_, _, rfl, rfl, rfl, ⟨0, by omega, rfl, rfl, fun j hj => absurd hj (Nat.not_lt_zero j)⟩, c, e, (fun j => if j ≤ k then st j else st j + n - old), g, ⟨h11, ?_, ?_, ?_⟩, h5, ⟨rfl, rfl, rfl, rfl, ?_, ?_⟩, ?_, h7, ?_, ?_, h10⟩
      · show (if 0 ≤ k then st 0 else _) = 0
        rw [if_pos (Nat.zero_le k)]
        exact h4.2.1
      · intro j hj
        show (if j ≤ k then st j else st j + n - old) ≤ (if j + 1 ≤ k then st (j + 1) else st (j + 1) + n - old)
        have q1 := h4.2.2.1 j hj
        by_cases c1 : j + 1 ≤ k
        · rw [if_pos (by omega), if_pos c1]
          exact q1
        · rw [if_neg c1]
          by_cases c2 : j ≤ k
          · rw [if_pos c2, show j = k by omega]
            omega
          · rw [if_neg c2]
            omega
      · show (if c ≤ k then st c else st c + n - old) ≤ 12000
        rw [if_neg (by omega)]
        omega
      · show nI (st c + n - old) = nI (if c ≤ k then st c else st c + n - old)
        rw [if_neg (by omega)]
      · show nI (st c + n - old) = nI (if c ≤ k then st c else st c + n - old)
        rw [if_neg (by omega)]
      · show mr E _ (if c ≤ k then st c else st c + n - old)
        rw [if_neg (by omega)]
        exact mr_rep (t_f := t_f) (so := 0) (x := t_f) h6 (by omega) (fun i hi => by rw [Nat.zero_add]; exact hm i hi) E2
      · intro j hj
        show S' j = nI (if j ≤ k then st j else st j + n - old)
        rw [s2 j, h8 j hj]
        by_cases c1 : j ≤ k
        · rw [if_neg (by omega), if_pos c1]
        · rw [if_pos (by omega), if_neg c1]
          exact nI_as (by have := hst j hj (by omega); omega)
      · intro j hj
        show upd m_s k (nI n) j = nI ((if j + 1 ≤ k then st (j + 1) else st (j + 1) + n - old) - (if j ≤ k then st j else st j + n - old))
        have q1 := h4.2.2.1 j hj
        by_cases c1 : j = k
        · subst c1
          rw [pk_us, if_neg (by omega), if_pos (Nat.le_refl _)]
          congr 1
          omega
        · rw [pk_un c1, h9 j hj]
          by_cases c2 : j + 1 ≤ k
          · rw [if_pos c2, if_pos (by omega)]
          · have q2 := hst j (by omega) (by omega)
            rw [if_neg c2, if_neg (by omega)]
            congr 1
            omega
    · rw [if_neg (fun h => k5 (by have := (sub_le_iff (by omega) (by omega) (by omega)).mp h; omega)), if_neg (show ¬ nI (st c - old + n) ≤ 12000 from nI_ge (a := 12000) (by omega) (by omega))]
      exact ⟨_, _, rfl, rfl, rfl, hT', h3'⟩
end AC
