/-! write -/
theorem ov_tab : ∀ m, m < 256 → Int64.toInt32 ((Int32.toInt64 (nI m) >>> ((8 * nI 0).toInt64 &&& 63)) &&& 255) = nI m := by decide +kernel
theorem q_put_loop (fu : Nat) (a3 : Int32) (v : Int64) : ∀ (fn k p : Nat) (g : Nat → Int32), k < fn → p + k ≤ 14000 → p_X10_put_5 fu v a3 fn (nI k - 1) (nI p) g = some (nI (p + k), mwr v k g p) := by
  intro fn
  induction fn with
  | zero => intro k p f h1; omega
  | succ fn ih =>
    intro k p g h1 h2
    rw [p_X10_put_5]
    cases k with
    | zero => rw [if_pos (by decide)]; rfl
    | succ k =>
      rw [nI_pred, if_neg (nI_pos (by omega)), if_pos (ix_t p rfl (by omega) (by omega)), nI_1, cl_nI p rfl (by omega)]
      have e1 : nI k + (-1) = nI k - 1 := (Int32.sub_eq_add_neg _ _).symm
      rw [e1]
      have h3 := ih k (p + 1) (upd g p (Int64.toInt32 ((v >>> ((8 * nI k).toInt64 &&& 63)) &&& 255))) (by omega) (by omega)
      rw [show p + 1 + k = p + (k + 1) by omega] at h3
      exact h3
theorem q_put {fu p k : Nat} {x : Int32} (g : Nat → Int32) (v : Int64) (h1 : x = nI k) (h2 : k ≤ 8) (h3 : p + k ≤ 14000) (h6 : 10 ≤ fu) : p_X10_put fu (nI p) g v x = some (nI (p + k), mwr v k g p) := by
  subst h1
  unfold p_X10_put
  exact q_put_loop fu (nI k) v fu k p g (by omega) h3
section WR
variable {fu : Nat} {o_l : Int32} {o_f : Nat → Int8} {m_ol : Int32} {m_o : Nat → Int32}
variable {h_c h_e d_l : Int32} {d_f : Nat → Int8} {h_k h_s h_u : Nat → Int32} {h_n : Nat → Int64} {h_g : Nat → Int32} {m_dl : Int32} {m_d m_k m_s : Nat → Int32} {m_c : Int32} {m_u : Nat → Int32} {m_n : Nat → Int64} {m_m : Nat → Int32} {m_e : Int32}
theorem w164 {k at_ len P : Nat} (K : Int32 → Int32 → Int32 → (Nat → Int32) → Option (Int32 × Int32 × (Nat → Int32))) (hfu : 20000 ≤ fu) (hk : k < 61) (hs : m_s k = nI len) (hb : at_ + len ≤ 12000) (hP : P + len ≤ 14000) (hd : ∀ i, i < len → m_d (at_ + i) = nI (oc (d_f (at_ + i)))) : ∀ (d fn i : Nat) (g : Nat → Int32), i + d = len → d < fn → ∃ g', p_X10_write_164 fu m_c m_e m_d m_k m_s m_u m_n m_m K fn (nI at_) (nI k) (nI i) (nI (P + i)) g = p_X10_write_164 fu m_c m_e m_d m_k m_s m_u m_n m_m K 1 (nI at_) (nI k) (nI len) (nI (P + len)) g' ∧ ∀ j, g' j = if P + i ≤ j ∧ j < P + len then nI (oc (d_f (at_ + (j - P)))) else g j := by
  intro d
  induction d with
  | zero =>
    intro fn i g h5 h6
    cases fn with
    | zero => omega
    | succ fn =>
      obtain rfl : i = len := by omega
      refine ⟨g, ?_, fun j => by rw [if_neg (by omega)]⟩
      rw [p_X10_write_164, p_X10_write_164, cl_nI k rfl (by omega), hs, if_pos (nI_le (Nat.le_refl i) (by omega)), if_pos (nI_le (Nat.le_refl i) (by omega))]
  | succ d ih =>
    intro fn i g h5 h6
    cases fn with
    | zero => omega
    | succ fn =>
      have e1 : p_X10_put fu (nI (P + i)) g (Int32.toInt64 (m_d (at_ + i))) 1 = some (nI (P + i + 1), mwr (Int32.toInt64 (m_d (at_ + i))) 1 g (P + i)) := q_put (k := 1) g _ rfl (by omega) (by omega) (by omega)
      obtain ⟨g', s1, s2⟩ := ih fn (i + 1) (mwr (Int32.toInt64 (m_d (at_ + i))) 1 g (P + i)) (by omega) (by omega)
      refine ⟨g', ?_, fun j => ?_⟩
      · rw [← s1]
        conv => lhs; rw [p_X10_write_164]
        rw [if_pos (ix_t k rfl (by omega) (by decide)), cl_nI k rfl (by omega), hs, if_neg (nI_ge (by omega) (by omega)), nI_add, if_pos (ix_t (at_ + i) rfl (by omega) (by decide)), cl_nI (at_ + i) rfl (by omega), e1, ob_s, nI_1]
        rfl
      · rw [s2 j]
        by_cases c1 : j = P + i
        · subst c1
          rw [if_neg (by omega), if_pos (by omega), show P + i - P = i by omega]
          show upd g (P + i) (Int64.toInt32 ((Int32.toInt64 (m_d (at_ + i)) >>> ((8 * nI 0).toInt64 &&& 63)) &&& 255)) (P + i) = _
          rw [pk_us, hd i (by omega), ov_tab _ (oc_lt _)]
        · by_cases c2 : P + (i + 1) ≤ j ∧ j < P + len
          · rw [if_pos c2, if_pos (by omega)]
          · rw [if_neg c2, if_neg (by omega)]
            show upd g (P + i) _ j = _
            rw [pk_un c1]
theorem w_chunks {c e : Nat} {st : Nat → Nat} (hfu : 20000 ≤ fu) (h4 : HC c st) (he : e ≤ 40) (h6 : mr m_d d_f (st c)) (h7 : ∀ k, k < c → m_k k = h_k k) (h8 : ∀ k, k ≤ c → h_s k = nI (st k)) (h9 : ∀ k, k < c → m_s k = nI (st (k + 1) - st k)) : ∀ (d fn fm k : Nat) (f : Nat → Int8) (g : Nat → Int32), k + d = c → d < fn → d < fm → mr g f (pl st e k) → ∃ f' g', p_X0_writeTo_123 fu 13044 (nI c) (nI e) (nI (st c)) d_f h_k h_s h_u h_n h_g fn (nI k) (nI (pl st e k)) f = some (nI (pl st e c), f') ∧ p_X10_write_130 fu (nI c) (nI e) m_d m_k m_s m_u m_n m_m fm (nI (st k)) (nI k) (nI (pl st e k)) g = some (nI (pl st e c), nI (pl st e c), g') ∧ mr g' f' (pl st e c) := by
  have h11 := h4.1
  intro d
  induction d with
  | zero =>
    intro fn fm k f g q1 q2 q3 q4
    obtain rfl : k = c := by omega
    cases fn with
    | zero => omega
    | succ fn =>
      cases fm with
      | zero => omega
      | succ fm =>
        rw [p_X0_writeTo_123, p_X10_write_130, if_pos (nI_le (Nat.le_refl k) (by omega)), if_pos (nI_le (Nat.le_refl k) (by omega))]
        exact ⟨f, g, rfl, rfl, q4⟩
  | succ d ih =>
    intro fn fm k f g q1 q2 q3 q4
    cases fn with
    | zero => omega
    | succ fn =>
      cases fm with
      | zero => omega
      | succ fm =>
        have hk : k < c := by omega
        have h15 := st_le h4 (show k + 1 ≤ c by omega) (Nat.le_refl c)
        have h16 := h4.2.2.1 k hk
        have h17 := h4.2.2.2
        have h18 := pl_le h4 he (k + 1) (by omega)
        have h19 : pl st e (k + 1) = pl st e k + ((8 + (st (k + 1) - st k)) + (st (k + 1) - st k) % 2) := rfl
        have hlen := q_lengthOf h4 hk h8
        have hdat := q_dataOf h4 hk h8
        have hms := h9 k hk
        generalize hl : st (k + 1) - st k = len at h19 hlen hdat hms
        generalize hp : pl st e k = P at h19 q4
        have a1 : p_X6_append fu 13044 (nI P) f 4 (Int32.toInt64 (h_k k)) = some (nI (P + 4), wr (Int32.toInt64 (h_k k)) 4 f P) := q_append (k := 4) f _ rfl (by omega) (by omega) (by decide) (by omega)
        have a2 : p_X6_append fu 13044 (nI (P + 4)) (wr (Int32.toInt64 (h_k k)) 4 f P) 4 (Int32.toInt64 (nI len)) = some (nI (P + 4 + 4), wr (Int32.toInt64 (nI len)) 4 (wr (Int32.toInt64 (h_k k)) 4 f P) (P + 4)) := q_append (k := 4) _ _ rfl (by omega) (by omega) (by decide) (by omega)
        generalize hf2 : wr (Int32.toInt64 (nI len)) 4 (wr (Int32.toInt64 (h_k k)) 4 f P) (P + 4) = f2 at a2
        have a3 : p_X6_spliceA 13044 12000 (nI (P + 4 + 4)) f2 (nI (st k)) (nI len) d_f (nI (P + 4 + 4)) 0 = some (nI (P + 4 + 4 + len - 0), va_cpy d_f (va_cpy f2 f2 (P + 4 + 4 + 0) (P + 4 + 4 + len) (P + 4 + 4 - (P + 4 + 4 + 0))) (st k) (P + 4 + 4) len) := q_spliceA (n1 := 13044) (n2 := 12000) (L := P + 4 + 4) (so := st k) (n := len) (at_ := P + 4 + 4) (old := 0) f2 d_f (by omega) (by omega) (by omega) (by decide) (by decide) (by omega)
        rw [Nat.sub_zero] at a3
        generalize hf3 : va_cpy d_f (va_cpy f2 f2 (P + 4 + 4 + 0) (P + 4 + 4 + len) (P + 4 + 4 - (P + 4 + 4 + 0))) (st k) (P + 4 + 4) len = f3 at a3
        have e1 : nI len &&& 1 = nI (len % 2) := pk_andN (by omega) 1 (by decide)
        have e2 : nI len - nI len / 2 * 2 = nI (len % 2) := pk_rem (d := 2) (by omega) (by decide) (by decide)
        have a4 : p_X6_append fu 13044 (nI (P + 4 + 4 + len)) f3 (nI len &&& 1) 0 = some (nI (P + 4 + 4 + len + len % 2), wr 0 (len % 2) f3 (P + 4 + 4 + len)) := q_append (k := len % 2) f3 0 e1 (by omega) (by omega) (by decide) (by omega)
        have b1 : p_X10_put fu (nI P) g (Int32.toInt64 (m_k k)) 4 = some (nI (P + 4), mwr (Int32.toInt64 (m_k k)) 4 g P) := q_put (k := 4) g _ rfl (by omega) (by omega) (by omega)
        have b2 : p_X10_put fu (nI (P + 4)) (mwr (Int32.toInt64 (m_k k)) 4 g P) (Int32.toInt64 (nI len)) 4 = some (nI (P + 4 + 4), mwr (Int32.toInt64 (nI len)) 4 (mwr (Int32.toInt64 (m_k k)) 4 g P) (P + 4)) := q_put (k := 4) _ _ rfl (by omega) (by omega) (by omega)
        have m2 : mr (mwr (Int32.toInt64 (nI len)) 4 (mwr (Int32.toInt64 (m_k k)) 4 g P) (P + 4)) f2 (P + 4 + 4) := by
          rw [← hf2, h7 k hk]
          exact mr_wr _ (mr_wr _ q4 (by omega)) (by omega)
        generalize hg2 : mwr (Int32.toInt64 (nI len)) 4 (mwr (Int32.toInt64 (m_k k)) 4 g P) (P + 4) = g2 at b2 m2
        obtain ⟨g3, s1, s2⟩ := w164 (fu := fu) (d_f := d_f) (m_c := nI c) (m_e := nI e) (m_d := m_d) (m_k := m_k) (m_s := m_s) (m_u := m_u) (m_n := m_n) (m_m := m_m) (k := k) (at_ := st k) (len := len) (P := P + 4 + 4) (p_X10_write_130 fu (nI c) (nI e) m_d m_k m_s m_u m_n m_m fm) hfu (by omega) hms (by omega) (by omega) (fun i hi => h6 (st k + i) (by omega)) len fu 0 g2 (by omega) (by omega)
        have s1' : p_X10_write_164 fu (nI c) (nI e) m_d m_k m_s m_u m_n m_m (p_X10_write_130 fu (nI c) (nI e) m_d m_k m_s m_u m_n m_m fm) fu (nI (st k)) (nI k) 0 (nI (P + 4 + 4)) g2 = _ := s1
        have m3 : mr g3 f3 (P + 4 + 4 + len) := by
          intro j hj
          rw [s2 j, ← hf3, va_cpy]
          by_cases c1 : P + 4 + 4 ≤ j
          · rw [if_pos (by omega), if_pos (by omega)]
          · rw [if_neg (by omega), if_neg (by omega), va_cpy, if_neg (by omega)]
            exact m2 j (by omega)
        have m4 : mr (mwr 0 (len % 2) g3 (P + 4 + 4 + len)) (wr 0 (len % 2) f3 (P + 4 + 4 + len)) (P + 4 + 4 + len + len % 2) := mr_wr 0 m3 (by omega)
        have e9 : P + 4 + 4 + len + len % 2 = pl st e (k + 1) := by omega
        rw [e9] at a4 m4
        obtain ⟨f', g', t1, t2, t3⟩ := ih fn fm (k + 1) _ _ (by omega) (by omega) (by omega) m4
        refine ⟨f', g', ?_, ?_, t3⟩
        · rw [p_X0_writeTo_123, if_neg (nI_ge (by omega) (by omega)), if_pos (ix_t k rfl (by omega) (by decide)), cl_nI k rfl (by omega), a1, ob_s, hlen, ob_s, a2, ob_s, hdat, ob_s, a3, ob_s, ob_s, a4, ob_s, nI_1]
          exact t1
        · have e3 : st k + len = st (k + 1) := by omega
          rw [p_X10_write_130, if_neg (nI_ge (by omega) (by omega)), if_pos (ix_t k rfl (by omega) (by decide)), cl_nI k rfl (by omega), b1, ob_s, hms, if_pos (ix_t k rfl (by omega) (by decide)), b2, ob_s, s1', p_X10_write_164, if_pos (ix_t k rfl (by omega) (by decide)), cl_nI k rfl (by omega), hms, if_pos (nI_le (Nat.le_refl len) (by omega)), if_pos (ix_t k rfl (by omega) (by decide)), if_pos (ix_t k rfl (by omega) (by decide)), e2, nI_add, e3, nI_1]
          rcases Nat.mod_two_eq_zero_or_one len with c1 | c1
          · rw [c1] at t2 e9
            rw [c1, if_neg (by decide), show P + 4 + 4 + len = pl st e (k + 1) by omega]
            exact t2
          · rw [c1] at t2 e9
            have b3 : p_X10_put fu (nI (P + 4 + 4 + len)) g3 0 1 = some (nI (P + 4 + 4 + len + 1), mwr 0 1 g3 (P + 4 + 4 + len)) := q_put (k := 1) _ _ rfl (by omega) (by omega) (by omega)
            rw [c1, if_pos (show nI 1 = 1 from rfl), b3, ob_s, e9]
            exact t2
theorem w_ents {c e : Nat} {st g0 : Nat → Nat} (hfu : 20000 ≤ fu) (h4 : HC c st) (h5 : HE c e g0 h_u h_n) (h6 : mr m_d d_f (st c)) (h7 : ∀ k, k < c → m_k k = h_k k) (h8 : ∀ k, k ≤ c → h_s k = nI (st k)) (h9 : ∀ k, k < c → m_s k = nI (st (k + 1) - st k)) (h10 : ∀ i, i < e → m_u i = h_u i ∧ m_n i = h_n i ∧ h_g i = nI (g0 i) ∧ m_m i = nI (g0 i)) : ∀ (d fn fm i : Nat) (f : Nat → Int8) (g : Nat → Int32), i + d = e → d < fn → d < fm → mr g f (24 + 12 * i) → ∃ f' g', p_X0_writeTo_68 fu 13044 (nI c) (nI e) (nI (st c)) d_f h_k h_s h_u h_n h_g fn (nI i) (nI (24 + 12 * i)) f = some (nI (pl st e c), f') ∧ p_X10_write_73 fu (nI c) (nI e) m_d m_k m_s m_u m_n m_m fm (nI i) (nI (24 + 12 * i)) g = some (nI (pl st e c), nI (pl st e c), g') ∧ mr g' f' (pl st e c) := by
  have h11 := h4.1
  have he := h5.1
  intro d
  induction d with
  | zero =>
    intro fn fm i f g q1 q2 q3 q4
    obtain rfl : i = e := by omega
    cases fn with
    | zero => omega
    | succ fn =>
      cases fm with
      | zero => omega
      | succ fm =>
        rw [p_X0_writeTo_68, p_X10_write_73, if_pos (nI_le (Nat.le_refl i) (by omega)), if_pos (nI_le (Nat.le_refl i) (by omega))]
        obtain ⟨f', g', t1, t2, t3⟩ := w_chunks (fu := fu) (h_u := h_u) (h_n := h_n) (h_g := h_g) (m_u := m_u) (m_n := m_n) (m_m := m_m) hfu h4 he h6 h7 h8 h9 c 64 fu 0 f g (by omega) (by omega) (by omega) q4
        rw [h4.2.1] at t2
        exact ⟨f', g', t1, t2, t3⟩
  | succ d ih =>
    intro fn fm i f g q1 q2 q3 q4
    cases fn with
    | zero => omega
    | succ fn =>
      cases fm with
      | zero => omega
      | succ fm =>
        have hi : i < e := by omega
        have hx : ix (nI i) 40 = true := ix_t i rfl (by omega) (by decide)
        have hy : ix (nI i) 41 = true := ix_t i rfl (by omega) (by decide)
        obtain ⟨r1, r2, r3, r4⟩ := h10 i hi
        have hg := (h5.2.1 i hi).1
        generalize hP : 24 + 12 * i = P at q4
        have a1 : p_X6_append fu 13044 (nI P) f 4 (Int32.toInt64 (h_u i)) = some (nI (P + 4), wr (Int32.toInt64 (h_u i)) 4 f P) := q_append (k := 4) f _ rfl (by omega) (by omega) (by decide) (by omega)
        have a2 : p_X6_append fu 13044 (nI (P + 4)) (wr (Int32.toInt64 (h_u i)) 4 f P) 4 (h_n i) = some (nI (P + 4 + 4), wr (h_n i) 4 (wr (Int32.toInt64 (h_u i)) 4 f P) (P + 4)) := q_append (k := 4) _ _ rfl (by omega) (by omega) (by decide) (by omega)
        have a3 : p_X6_append fu 13044 (nI (P + 4 + 4)) (wr (h_n i) 4 (wr (Int32.toInt64 (h_u i)) 4 f P) (P + 4)) 4 (Int32.toInt64 (nI (pl st e (g0 i)))) = some (nI (P + 4 + 4 + 4), wr (Int32.toInt64 (nI (pl st e (g0 i)))) 4 (wr (h_n i) 4 (wr (Int32.toInt64 (h_u i)) 4 f P) (P + 4)) (P + 4 + 4)) := q_append (k := 4) _ _ rfl (by omega) (by omega) (by decide) (by omega)
        have b1 : p_X10_put fu (nI P) g (Int32.toInt64 (h_u i)) 4 = some (nI (P + 4), mwr (Int32.toInt64 (h_u i)) 4 g P) := q_put (k := 4) g _ rfl (by omega) (by omega) (by omega)
        have b2 : p_X10_put fu (nI (P + 4)) (mwr (Int32.toInt64 (h_u i)) 4 g P) (h_n i) 4 = some (nI (P + 4 + 4), mwr (h_n i) 4 (mwr (Int32.toInt64 (h_u i)) 4 g P) (P + 4)) := q_put (k := 4) _ _ rfl (by omega) (by omega) (by omega)
        have b3 : p_X10_put fu (nI (P + 4 + 4)) (mwr (h_n i) 4 (mwr (Int32.toInt64 (h_u i)) 4 g P) (P + 4)) (Int32.toInt64 (nI (pl st e (g0 i)))) 4 = some (nI (P + 4 + 4 + 4), mwr (Int32.toInt64 (nI (pl st e (g0 i)))) 4 (mwr (h_n i) 4 (mwr (Int32.toInt64 (h_u i)) 4 g P) (P + 4)) (P + 4 + 4)) := q_put (k := 4) _ _ rfl (by omega) (by omega) (by omega)
        have m3 := mr_wr (Int32.toInt64 (nI (pl st e (g0 i)))) (mr_wr (h_n i) (mr_wr (Int32.toInt64 (h_u i)) q4 (show 4 ≤ 8 by omega)) (show 4 ≤ 8 by omega)) (show 4 ≤ 8 by omega)
        have e9 : P + 4 + 4 + 4 = 24 + 12 * (i + 1) := by omega
        rw [e9] at a3 b3 m3
        obtain ⟨f', g', t1, t2, t3⟩ := ih fn fm (i + 1) _ _ (by omega) (by omega) (by omega) m3
        refine ⟨f', g', ?_, ?_, t3⟩
        · rw [p_X0_writeTo_68, if_neg (nI_ge (by omega) (by omega)), if_pos hx, cl_nI i rfl (by omega), a1, ob_s, if_pos hx, a2, ob_s, if_pos hx, r3, q_placeOf hfu h4 (by omega) h8, ob_s, a3, ob_s, nI_1]
          exact t1
        · rw [p_X10_write_73, if_neg (nI_ge (by omega) (by omega)), if_pos hy, cl_nI i rfl (by omega), r1, b1, ob_s, if_pos hy, r2, b2, ob_s, if_pos hy, r4, q_mplaceOf hfu h4 (by omega) h9, ob_s, b3, ob_s, nI_1]
          exact t2
theorem st_write (hfu : 20000 ≤ fu) (hO : RO o_l o_f m_ol m_o) (h3 : RH h_c h_e d_l d_f h_k h_s h_u h_n h_g m_dl m_d m_k m_s m_c m_u m_n m_m m_e) : ∃ zx zm, p_X9_write fu o_l o_f h_c h_e d_l d_f h_k h_s h_u h_n h_g = some zx ∧ p_X10_write fu m_c m_e m_ol m_d m_k m_s m_u m_n m_m m_o = some zm ∧ zx.1 = zm.1 ∧ RO zx.2.1 zx.2.2 zm.2.1 zm.2.2 := by
  obtain ⟨n, hn, b3, b4, ho⟩ := hO
  obtain ⟨c, e, st, g, h4, h5, ⟨b5, b6, b7, b8, b9, b10⟩, h6, h7, h8, h9, h10⟩ := h3
  subst b3 b4 b5 b6 b7 b8 b9 b10
  have hap : ∀ (p : Nat) (f : Nat → Int8) (v : Int64), p + 4 ≤ 13044 → p_X6_append fu 13044 (nI p) f 4 v = some (nI (p + 4), wr v 4 f p) := fun p f v hp => q_append (k := 4) f v rfl (by omega) hp (by decide) (by omega)
  have hpu : ∀ (p : Nat) (x : Nat → Int32) (v : Int64), p + 4 ≤ 13044 → p_X10_put fu (nI p) x v 4 = some (nI (p + 4), mwr v 4 x p) := fun p x v hp => q_put (k := 4) x v rfl (by omega) (by omega) (by omega)
  have hmw : ∀ (p : Nat) (f : Nat → Int8) (x : Nat → Int32) (v : Int64), mr x f p → mr (mwr v 4 x p) (wr v 4 f p) (p + 4) := fun p f x v hp => mr_wr v hp (by omega)
  have he := h5.1
  have m0 : mr m_o o_f 0 := fun j hj => absurd hj (Nat.not_lt_zero j)
  have e5 : p_X6_keep (nI n) 0 = some (nI 0) := q_keep (n := 0) (by omega) (by omega)
  have m6 := hmw _ _ _ (Int32.toInt64 (nI e)) (hmw _ _ _ (Int32.toInt64 (4 + (12 * nI e))) (hmw _ _ _ 1380541560 (hmw _ _ _ 1229345363 (hmw _ _ _ (Int32.toInt64 (nI (pl st e c) - 8)) (hmw _ _ _ 1179603533 m0)))))
  obtain ⟨f', g', t1, t2, t3⟩ := w_ents (fu := fu) hfu h4 h5 h6 h7 h8 h9 h10 e fu fu 0 _ _ (by omega) (by omega) (by omega) m6
  have hp := (pl_le h4 h5.1 c (Nat.le_refl c)).1
  have h11 := h4.1
  have h12 := h4.2.2.2
  unfold p_X9_write p_X10_write p_X0_writeTo
  rw [e5, ob_s, hap 0 _ _ (by omega), ob_s, q_placeOf hfu h4 (Nat.le_refl c) h8, ob_s, hap 4 _ _ (by omega), ob_s, hap 8 _ _ (by omega), ob_s, hap 12 _ _ (by omega), ob_s, hap 16 _ _ (by omega), ob_s, hap 20 _ _ (by omega), ob_s]
  have p0 : p_X10_put fu 0 m_o 1179603533 4 = some (nI (0 + 4), mwr 1179603533 4 m_o 0) := hpu 0 m_o _ (by omega)
  rw [p0, ob_s, q_mplaceOf hfu h4 (Nat.le_refl c) h9, ob_s, hpu 4 _ _ (by omega), ob_s, hpu 8 _ _ (by omega), ob_s, hpu 12 _ _ (by omega), ob_s, hpu 16 _ _ (by omega), ob_s, hpu 20 _ _ (by omega), ob_s]
  have t1' : p_X0_writeTo_68 fu 13044 (nI c) (nI e) (nI (st c)) d_f h_k h_s h_u h_n h_g fu 0 (nI (20 + 4)) _ = _ := t1
  have t2' : p_X10_write_73 fu (nI c) (nI e) m_d m_k m_s m_u m_n m_m fu 0 (nI (20 + 4)) _ = _ := t2
  rw [t1', t2', ob_s]
  exact ⟨_, _, rfl, rfl, rfl, pl st e c, by omega, rfl, rfl, t3⟩
end WR
