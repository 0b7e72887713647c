/-! remove, drop, back, place -/
def sfe {α : Type} (f : Nat → α) (i e : Nat) (j : Nat) : α := if i ≤ j ∧ j < e then f (j + 1) else f j
theorem sfe_in {α : Type} {f : Nat → α} {i e j : Nat} (h : i ≤ j ∧ j < e) : sfe f i e j = f (j + 1) := if_pos h
theorem sfe_out {α : Type} {f : Nat → α} {i e j : Nat} (h : ¬ (i ≤ j ∧ j < e)) : sfe f i e j = f j := if_neg h
theorem sfe_u {e i : Nat} (f : Nat → Int32) (j : Nat) (h : i < e) : sfe (upd f i (f (i + 1))) (i + 1) e j = sfe f i e j := by
  by_cases c1 : j = i
  · subst c1
    rw [sfe_out (by omega), sfe_in (by omega), pk_us]
  · by_cases c2 : i + 1 ≤ j ∧ j < e
    · rw [sfe_in c2, sfe_in (by omega), pk_un (by omega)]
    · rw [sfe_out c2, sfe_out (by omega), pk_un c1]
theorem sfe_L {e i : Nat} (f : Nat → Int64) (j : Nat) (h : i < e) : sfe (vp_updL f i (f (i + 1))) (i + 1) e j = sfe f i e j := by
  by_cases c1 : j = i
  · subst c1
    rw [sfe_out (by omega), sfe_in (by omega), pk_uLs]
  · by_cases c2 : i + 1 ≤ j ∧ j < e
    · rw [sfe_in c2, sfe_in (by omega), pk_uLn (by omega)]
    · rw [sfe_out c2, sfe_out (by omega), pk_uLn c1]
section DR
variable {fu : Nat} {t_l : Int32} {t_f : Nat → Int8} {m_tl : Int32} {m_t : Nat → Int32} {o_l : Int32} {o_f : Nat → Int8} {m_ol : Int32} {m_o : Nat → Int32}
variable {h_c h_e d_l : Int32} {d_f : Nat → Int8} {h_k h_s h_u : Nat → Int32} {h_n : Nat → Int64} {h_g : Nat → Int32} {m_dl : Int32} {m_d m_k m_s : Nat → Int32} {m_c : Int32} {m_u : Nat → Int32} {m_n : Nat → Int64} {m_m : Nat → Int32} {m_e : Int32}
theorem st_remove (hfu : 20000 ≤ fu) (h3 : RH h_c h_e d_l d_f h_k h_s h_u h_n h_g m_dl m_d m_k m_s m_c m_u m_n m_m m_e) (a1 : Int32) : ∃ zx zm, p_X9_remove fu h_c h_e d_l d_f h_k h_s h_g a1 = some zx ∧ p_X10_remove fu m_tl m_dl m_c m_e m_t m_d m_k m_s m_m a1 = some zm ∧ zx.1 = zm.1 ∧ zm.2.1 = m_tl ∧ RH zx.2.1 h_e zx.2.2.1 zx.2.2.2.1 zx.2.2.2.2.1 zx.2.2.2.2.2.1 h_u h_n zx.2.2.2.2.2.2 zm.2.2.1 zm.2.2.2.2.1 zm.2.2.2.2.2.1 zm.2.2.2.2.2.2.1 zm.2.2.2.1 m_u m_n zm.2.2.2.2.2.2.2 m_e := by
  have h3' := h3
  obtain ⟨c, e, st, g, h4, h5, ⟨b5, b6, b7, b8, b9, b10⟩, h6, h7, h8, h9, h10⟩ := h3
  subst b5 b6 b7 b8 b9 b10
  have h11 := h4.1
  unfold p_X9_remove p_X10_remove
  rcases pk_ix a1 (n := c) (by omega) with h13 | h13 | ⟨k, h14, rfl⟩
  · rw [q_hasChunk_f (Or.inl h13), q_isChunk_f (Or.inl h13) h11]
    exact ⟨_, _, rfl, rfl, rfl, rfl, h3'⟩
  · rw [q_hasChunk_f (Or.inr h13), q_isChunk_f (Or.inr h13) h11]
    exact ⟨_, _, rfl, rfl, rfl, rfl, h3'⟩
  · rw [q_hasChunk_t h14 h11, q_isChunk_t h14 h11, ob_s, ob_s, if_pos rfl, if_pos rfl, q_means hfu h5.1 h11 h14 (fun i hi => (h10 i hi).2.2.1) (fun i hi => (h5.2.1 i hi).1), q_meant hfu h5.1 h11 h14 (fun i hi => (h10 i hi).2.2.2) (fun i hi => (h5.2.1 i hi).1), ob_s, ob_s]
    have hct := ct_le g k e
    have he := h5.1
    by_cases k1 : ct g k e = 0
    · obtain ⟨zx, zm, f1, f2, f3, f4, f5⟩ := take_both (fu := fu) (m_t := m_t) (m_tl := m_tl) hfu h4 h5 h6 h7 h8 h9 h10 h14 (ct_0 e k1)
      rw [if_pos (show nI (ct g k e) ≤ 0 from nI_le (b := 0) (by omega) (by decide)), if_pos (show nI (ct g k e) ≤ 0 from nI_le (b := 0) (by omega) (by decide)), q_lengthOf h4 h14 h8, ob_s, f1, f2, ob_s, ob_s]
      exact ⟨_, _, rfl, rfl, f3.symm, f4, f5⟩
    · rw [if_neg (show ¬ nI (ct g k e) ≤ 0 from nI_ge (a := 0) (by omega) (by omega)), if_neg (show ¬ nI (ct g k e) ≤ 0 from nI_ge (a := 0) (by omega) (by omega))]
      exact ⟨_, _, rfl, rfl, rfl, rfl, h3'⟩
theorem te21 {e' : Nat} (he : e' < 40) (a1 : Int32) : ∀ (d fn i : Nat) (U : Nat → Int32) (N : Nat → Int64) (G : Nat → Int32), i + d = e' → d < fn → ∃ U' N' G', p_X0_takeEntry_21 fu a1 fn (nI i) (nI e') U N G = some (nI e', U', N', G') ∧ (∀ j, U' j = sfe U i e' j) ∧ (∀ j, N' j = sfe N i e' j) ∧ (∀ j, G' j = sfe G i e' j) := by
  intro d
  induction d with
  | zero =>
    intro fn i U N G h5 h6
    cases fn with
    | zero => omega
    | succ fn =>
      rw [p_X0_takeEntry_21, if_pos (nI_le (by omega) (by omega))]
      exact ⟨U, N, G, rfl, fun j => (sfe_out (by omega)).symm, fun j => (sfe_out (by omega)).symm, fun j => (sfe_out (by omega)).symm⟩
  | succ d ih =>
    intro fn i U N G h5 h6
    cases fn with
    | zero => omega
    | succ fn =>
      have hx : ix (nI i) 40 = true := ix_t i rfl (by omega) (by decide)
      have hy : ix (nI (i + 1)) 40 = true := ix_t (i + 1) rfl (by omega) (by decide)
      obtain ⟨U', N', G', s1, s2, s3, s4⟩ := ih fn (i + 1) (upd U i (U (i + 1))) (vp_updL N i (N (i + 1))) (upd G i (G (i + 1))) (by omega) (by omega)
      rw [p_X0_takeEntry_21, if_neg (nI_ge (by omega) (by omega)), nI_1]
      simp only [hx, hy, eq_self, if_true]
      rw [cl_nI i rfl (by omega), cl_nI (i + 1) rfl (by omega)]
      exact ⟨U', N', G', s1, fun j => by rw [s2 j, sfe_u _ _ (by omega)], fun j => by rw [s3 j, sfe_L _ _ (by omega)], fun j => by rw [s4 j, sfe_u _ _ (by omega)]⟩
theorem dr57 {e' : Nat} (he : e' < 40) (a1 : Int32) (a2 : Int64) (v5 tl dl mc : Int32) (D K S : Nat → Int32) : ∀ (d fn i : Nat) (U : Nat → Int32) (N : Nat → Int64) (G : Nat → Int32), i + d = e' → d < fn → ∃ U' N' G', p_X10_drop_57 fu m_t a1 a2 fn v5 (nI i) tl dl mc (nI e') D K S U N G = p_X10_drop_57 fu m_t a1 a2 1 v5 (nI e') tl dl mc (nI e') D K S U' N' G' ∧ (∀ j, U' j = sfe U i e' j) ∧ (∀ j, N' j = sfe N i e' j) ∧ (∀ j, G' j = sfe G i e' j) := by
  intro d
  induction d with
  | zero =>
    intro fn i U N G h5 h6
    cases fn with
    | zero => omega
    | succ fn =>
      obtain rfl : i = e' := by omega
      refine ⟨U, N, G, ?_, fun j => (sfe_out (by omega)).symm, fun j => (sfe_out (by omega)).symm, fun j => (sfe_out (by omega)).symm⟩
      rw [p_X10_drop_57, p_X10_drop_57, if_pos (nI_le (by omega) (by omega)), if_pos (nI_le (by omega) (by omega))]
  | succ d ih =>
    intro fn i U N G h5 h6
    cases fn with
    | zero => omega
    | succ fn =>
      have hx : ix (nI i) 41 = true := ix_t i rfl (by omega) (by decide)
      have hy : ix (nI (i + 1)) 41 = true := ix_t (i + 1) rfl (by omega) (by decide)
      obtain ⟨U', N', G', s1, s2, s3, s4⟩ := ih fn (i + 1) (upd U i (U (i + 1))) (vp_updL N i (N (i + 1))) (upd G i (G (i + 1))) (by omega) (by omega)
      refine ⟨U', N', G', ?_, fun j => by rw [s2 j, sfe_u _ _ (by omega)], fun j => by rw [s3 j, sfe_L _ _ (by omega)], fun j => by rw [s4 j, sfe_u _ _ (by omega)]⟩
      rw [← s1]
      conv => lhs; rw [p_X10_drop_57]
      rw [if_neg (nI_ge (by omega) (by omega)), nI_1]
      simp only [hx, hy, eq_self, if_true]
      rw [cl_nI i rfl (by omega), cl_nI (i + 1) rfl (by omega)]
theorem st_drop (hfu : 20000 ≤ fu) (h3 : RH h_c h_e d_l d_f h_k h_s h_u h_n h_g m_dl m_d m_k m_s m_c m_u m_n m_m m_e) (a1 : Int32) (a2 : Int64) : ∃ zx zm, p_X9_drop fu h_c h_e d_l d_f h_k h_s h_u h_n h_g a1 a2 = some zx ∧ p_X10_drop fu m_tl m_dl m_c m_e m_t m_d m_k m_s m_u m_n m_m a1 a2 = some zm ∧ zx.1 = zm.1 ∧ zm.2.1 = m_tl ∧ RH zx.2.1 zx.2.2.1 zx.2.2.2.1 zx.2.2.2.2.1 zx.2.2.2.2.2.1 zx.2.2.2.2.2.2.1 zx.2.2.2.2.2.2.2.1 zx.2.2.2.2.2.2.2.2.1 zx.2.2.2.2.2.2.2.2.2 zm.2.2.1 zm.2.2.2.2.2.1 zm.2.2.2.2.2.2.1 zm.2.2.2.2.2.2.2.1 zm.2.2.2.1 zm.2.2.2.2.2.2.2.2.1 zm.2.2.2.2.2.2.2.2.2.1 zm.2.2.2.2.2.2.2.2.2.2 zm.2.2.2.2.1 := by
  have h3' := h3
  obtain ⟨c, e, st, g, h4, h5, ⟨b5, b6, b7, b8, b9, b10⟩, h6, h7, h8, h9, h10⟩ := h3
  subst b5 b6 b7 b8 b9 b10
  have h11 := h4.1
  have h12 := h5.1
  unfold p_X9_drop p_X10_drop
  rw [q_isName]
  by_cases hu : isU a1
  · rw [q_use_t hu, ob_s, ob_s, q_num, ob_s, if_pos rfl, ob_s, ob_s]
    by_cases hw : decide (0 ≤ a2 ∧ a2 ≤ 4294967295) = true
    · rw [if_pos (show (true && decide (0 ≤ a2 ∧ a2 ≤ 4294967295)) = true by rw [hw]; rfl), if_pos hw]
      obtain ⟨r1, c1, c2⟩ := q_entryOf hfu h12 h_u h_n a1 a2
      obtain ⟨r2, c3, c4⟩ := q_entryFor hfu h12 (fun i hi => ⟨(h10 i hi).1, (h10 i hi).2.1⟩) h5.2.2 a1 a2
      have c5 := FI_u c2 c4
      subst c5
      rw [c1, c3, ob_s, ob_s]
      rcases c2 with ⟨i, d1, d2, d3, d4⟩ | ⟨d1, d2⟩
      · subst d2
        obtain ⟨e', rfl⟩ : ∃ x, e = x + 1 := ⟨e - 1, by omega⟩
        obtain ⟨U1, N1, G1, s1, s2, s3, s4⟩ := te21 (fu := fu) (e' := e') (by omega) (nI i) (e' - i) fu i h_u h_n h_g (by omega) (by omega)
        obtain ⟨U2, N2, G2, u1, u2, u3, u4⟩ := dr57 (fu := fu) (m_t := m_t) (e' := e') (by omega) a1 a2 (nI (g i)) m_tl (nI (st c)) (nI c) m_d m_k m_s (e' - i) fu i m_u m_n m_m (by omega) (by omega)
        have e1 : p_X0_takeEntry fu (nI (e' + 1)) h_u h_n h_g (nI i) = some (nI e', U1, N1, G1) := by
          unfold p_X0_takeEntry
          rw [q_hasEntry_t d1 (by omega), ob_s, if_pos rfl, nI_pred]
          exact s1
        rw [q_hasEntry_t d1 (by omega), ob_s, if_pos rfl, if_neg (nI_n2 (by omega)), if_pos (ix_t i rfl (by omega) (by decide)), if_pos (ix_t i rfl (by omega) (by decide)), e1, ob_s, cl_nI i rfl (by omega), (h10 i d1).2.2.1, (h10 i d1).2.2.2, nI_pred, u1, p_X10_drop_57, if_pos (nI_le (by omega) (by omega))]
        have hgi := (h5.2.1 i d1).1
        have hg' : ∀ j, j < e' → sfe g i e' j < c := by
          intro j hj
          by_cases q1 : i ≤ j ∧ j < e'
          · rw [sfe_in q1]
            exact (h5.2.1 (j + 1) (by omega)).1
          · rw [sfe_out q1]
            exact (h5.2.1 j (by omega)).1
        have hE : HE c e' (sfe g i e') U1 N1 := by
          refine ⟨by omega, fun j hj => ⟨hg' j hj, ?_⟩, ?_⟩
          · rw [s2 j]
            by_cases q1 : i ≤ j ∧ j < e'
            · rw [sfe_in q1]
              exact (h5.2.1 (j + 1) (by omega)).2
            · rw [sfe_out q1]
              exact (h5.2.1 j (by omega)).2
          · intro j1 j2 q1 q2 q3 q4
            rw [s2 j1, s2 j2] at q3
            rw [s3 j1, s3 j2] at q4
            by_cases w1 : i ≤ j1 ∧ j1 < e'
            · rw [sfe_in w1] at q3 q4
              by_cases w2 : i ≤ j2 ∧ j2 < e'
              · rw [sfe_in w2] at q3 q4
                have := h5.2.2 (j1 + 1) (j2 + 1) (by omega) (by omega) q3 q4
                omega
              · rw [sfe_out w2] at q3 q4
                have := h5.2.2 (j1 + 1) j2 (by omega) (by omega) q3 q4
                omega
            · rw [sfe_out w1] at q3 q4
              by_cases w2 : i ≤ j2 ∧ j2 < e'
              · rw [sfe_in w2] at q3 q4
                have := h5.2.2 j1 (j2 + 1) (by omega) (by omega) q3 q4
                omega
              · rw [sfe_out w2] at q3 q4
                exact h5.2.2 j1 j2 (by omega) (by omega) q3 q4
        have h10' : ∀ j, j < e' → U2 j = U1 j ∧ N2 j = N1 j ∧ G1 j = nI (sfe g i e' j) ∧ G2 j = nI (sfe g i e' j) := by
          intro j hj
          rw [s2 j, s3 j, s4 j, u2 j, u3 j, u4 j]
          by_cases q1 : i ≤ j ∧ j < e'
          · rw [sfe_in q1, sfe_in q1, sfe_in q1, sfe_in q1, sfe_in q1, sfe_in q1, sfe_in q1]
            exact h10 (j + 1) (by omega)
          · rw [sfe_out q1, sfe_out q1, sfe_out q1, sfe_out q1, sfe_out q1, sfe_out q1, sfe_out q1]
            exact h10 j (by omega)
        rw [q_means hfu (g := sfe g i e') (by omega) h11 hgi (fun j hj => (h10' j hj).2.2.1) hg', q_meant hfu (g := sfe g i e') (by omega) h11 hgi (fun j hj => (h10' j hj).2.2.2) hg', ob_s, ob_s]
        have hct := ct_le (sfe g i e') (g i) e'
        by_cases k1 : ct (sfe g i e') (g i) e' = 0
        · obtain ⟨zx, zm, f1, f2, f3, f4, f5⟩ := take_both (fu := fu) (m_t := m_t) (m_tl := m_tl) hfu h4 hE h6 h7 h8 h9 h10' hgi (ct_0 e' k1)
          rw [if_pos (show nI (ct (sfe g i e') (g i) e') ≤ 0 from nI_le (b := 0) (by omega) (by decide)), if_pos (show nI (ct (sfe g i e') (g i) e') ≤ 0 from nI_le (b := 0) (by omega) (by decide)), f1, f2, ob_s, ob_s]
          exact ⟨_, _, rfl, rfl, rfl, f4, f5⟩
        · rw [if_neg (show ¬ nI (ct (sfe g i e') (g i) e') ≤ 0 from nI_ge (a := 0) (by omega) (by omega)), if_neg (show ¬ nI (ct (sfe g i e') (g i) e') ≤ 0 from nI_ge (a := 0) (by omega) (by omega))]
          exact ⟨_, _, rfl, rfl, rfl, rfl, c, e', st, sfe g i e', h4, hE, ⟨rfl, rfl, rfl, rfl, rfl, rfl⟩, h6, h7, h8, h9, h10'⟩
      · subst d1
        rw [q_hasEntry_f (Or.inl (by decide)), ob_s, if_neg (by decide), if_pos rfl]
        exact ⟨_, _, rfl, rfl, rfl, rfl, h3'⟩
    · rw [if_neg (show ¬ (true && decide (0 ≤ a2 ∧ a2 ≤ 4294967295)) = true by simpa using hw), if_neg hw]
      exact ⟨_, _, rfl, rfl, rfl, rfl, h3'⟩
  · rw [q_use_f hu, ob_s, ob_s, q_num]
    exact ⟨_, _, rfl, rfl, rfl, rfl, h3'⟩
theorem bk15 {n : Nat} (hn : n ≤ 6000) (tl : Int32) : ∀ (d fn i : Nat) (T : Nat → Int32), i + d = n → d < fn → ∃ T', p_X10_back_15 fu (nI n) m_o fn (nI i) tl T = some (nI n, nI n, T') ∧ ∀ j, T' j = if i ≤ j ∧ j < n then m_o j else T j := by
  intro d
  induction d with
  | zero =>
    intro fn i T h5 h6
    cases fn with
    | zero => omega
    | succ fn =>
      rw [p_X10_back_15, if_pos (nI_le (by omega) (by omega))]
      exact ⟨T, rfl, fun j => by rw [if_neg (by omega)]⟩
  | succ d ih =>
    intro fn i T h5 h6
    cases fn with
    | zero => omega
    | succ fn =>
      obtain ⟨T', s1, s2⟩ := ih fn (i + 1) (upd T i (m_o i)) (by omega) (by omega)
      rw [p_X10_back_15, if_neg (nI_ge (by omega) (by omega)), if_pos (ix_t i rfl (by omega) (by decide)), if_pos (ix_t i rfl (by omega) (by decide)), cl_nI i rfl (by omega), nI_1]
      refine ⟨T', s1, fun j => ?_⟩
      rw [s2 j]
      by_cases c1 : j = i
      · subst c1
        rw [if_neg (by omega), if_pos (by omega), pk_us]
      · rw [pk_un c1]
        by_cases c2 : i + 1 ≤ j ∧ j < n
        · rw [if_pos c2, if_pos (by omega)]
        · rw [if_neg c2, if_neg (by omega)]
theorem st_back (hfu : 20000 ≤ fu) (hT : RT t_l t_f m_tl m_t) (hO : RO o_l o_f m_ol m_o) : ∃ zx zm, p_X9_back t_l t_f o_l o_f = some zx ∧ p_X10_back fu m_tl m_ol m_t m_o = some zm ∧ zx.1 = zm.1 ∧ RT zx.2.1 zx.2.2 zm.2.1 zm.2.2 := by
  have hT' := hT
  obtain ⟨t, ht, b1, b2, hm⟩ := hT
  obtain ⟨n, hn, b3, b4, ho⟩ := hO
  subst b1 b2 b3 b4
  unfold p_X9_back p_X10_back
  by_cases k1 : n ≤ 6000
  · have e5 : p_X6_keep (nI t) 0 = some (nI 0) := q_keep (n := 0) (by omega) (by omega)
    have e6 : p_X6_spliceA 6000 13044 (nI 0) t_f (nI 0) (nI n) o_f 0 0 = some _ := q_spliceA (n1 := 6000) (n2 := 13044) (L := 0) (so := 0) (n := n) (at_ := 0) (old := 0) t_f o_f (by omega) (by omega) (by omega) (by decide) (by decide) (by omega)
    obtain ⟨T', s1, s2⟩ := bk15 (fu := fu) (m_o := m_o) k1 (nI t) n fu 0 m_t (by omega) (by omega)
    have s1' : p_X10_back_15 fu (nI n) m_o fu 0 (nI t) m_t = some (nI n, nI n, T') := s1
    rw [if_pos (show nI n ≤ 6000 from nI_le (b := 6000) k1 (by decide)), if_pos (show nI n ≤ 6000 from nI_le (b := 6000) k1 (by decide)), e5, ob_s, q_whole (by omega), ob_s, e6, ob_s, s1']
    refine ⟨_, _, rfl, rfl, ?_, n, k1, ?_, rfl, ?_⟩
    · show nI (0 + n - 0) = nI n
      rw [Nat.zero_add, Nat.sub_zero]
    · show nI (0 + n - 0) = nI n
      rw [Nat.zero_add, Nat.sub_zero]
    · intro j hj
      show T' j = nI (oc (va_cpy o_f _ 0 0 n j))
      rw [s2 j, if_pos (by omega), va_cpy, if_pos (by omega), Nat.zero_add, Nat.sub_zero]
      exact ho j hj
  · rw [if_neg (show ¬ nI n ≤ 6000 from nI_ge (a := 6000) (by omega) (by omega)), if_neg (show ¬ nI n ≤ 6000 from nI_ge (a := 6000) (by omega) (by omega))]
    exact ⟨_, _, rfl, rfl, rfl, hT'⟩
end DR
