/-! sizes on a window: the rows read -/
def lim (a b : Nat) : Prop := (a = 0 ∧ b = 0) ∨ (0 < b ∧ a ≤ 65535 ∧ b ≤ 65535)
def al (V : Nat → Nat) : Nat → Bool
  | 0 => true
  | d + 1 => decide (V (6 - (d + 1)) ≤ 65535) && al V d
section SX
variable {fu : Nat} {d_f : Nat → Int8} {m_d : Nat → Int32} {o l L q x y : Nat}
variable {m_c m_e : Int32} {m_k m_s m_u : Nat → Int32} {m_n : Nat → Int64} {m_m : Nat → Int32} {a1 : Int64} {a5 : Int32}
theorem q_ratioAt {i : Nat} {xx : Int32} (hfu : 20000 ≤ fu) (h2 : o + l ≤ 12000) (h3 : xx = nI i) (h4 : i + 8 ≤ l) : p_X8_ratioAt fu 12000 (nI o) (nI l) d_f xx = some (lN (rv (oF d_f) (o + i) 4), lN (rv (oF d_f) (o + i + 4) 4)) := by
  subst h3
  have e1 : nI i + 4 = nI (i + 4) := nI_add i 4
  unfold p_X8_ratioAt p_X5_init
  rw [e1, q_u4 (i := i) d_f rfl h2 (by decide) (by omega) (by omega), ob_s, q_u4 (i := i + 4) d_f rfl h2 (by decide) (by omega) (by omega), ob_s, ob_s, if_pos (by omega), if_pos (by omega)]
  rfl
theorem q_ratioOn {P Q V0 V1 V2 V3 V4 V5 : Nat} (hfu : 20000 ≤ fu) (h2 : o + l ≤ 12000) (h4 : q + 28 ≤ l) (h5 : 8 ≤ l) (hx : x ≤ 65535) (hy : y ≤ 65535) (eP : rv (oF d_f) o 4 = P) (eQ : rv (oF d_f) (o + 4) 4 = Q) (e0 : rv (oF d_f) (o + (q + 4)) 4 = V0) (e1 : rv (oF d_f) (o + (q + 4) + 4) 4 = V1) (e2 : rv (oF d_f) (o + (q + 12)) 4 = V2) (e3 : rv (oF d_f) (o + (q + 12) + 4) 4 = V3) (e4 : rv (oF d_f) (o + (q + 20)) 4 = V4) (e5 : rv (oF d_f) (o + (q + 20) + 4) 4 = V5) (G : Prop) (hG : G ↔ (0 < P ∧ P ≤ 65535) ∧ (0 < Q ∧ Q ≤ 65535) ∧ (0 < V1 ∧ V0 ≤ 65535 ∧ V1 ≤ 65535) ∧ lim V2 V3 ∧ lim V4 V5) : (G → p_X8_ratioOn fu 12000 (nI o) (nI l) d_f (nI q) (nI x) (nI y) = if (lN x * lN Q) ≤ (lN y * lN P) then p_X8_ratioOn_128 fu 12000 (nI o) (nI l) d_f (nI q) (nI x) (nI y) (lN V0) (lN V1) (lN V2) (lN V3) (lN V4) (lN V5) (lN x) (lN P) else p_X8_ratioOn_128 fu 12000 (nI o) (nI l) d_f (nI q) (nI x) (nI y) (lN V0) (lN V1) (lN V2) (lN V3) (lN V4) (lN V5) (lN y) (lN Q)) ∧ (¬ G → p_X8_ratioOn fu 12000 (nI o) (nI l) d_f (nI q) (nI x) (nI y) = some (lN 0, lN 0)) := by
  have gP : P < 4294967296 := by rw [← eP]; exact rv4_lt (oF_lt d_f) _
  have gQ : Q < 4294967296 := by rw [← eQ]; exact rv4_lt (oF_lt d_f) _
  have g0 : V0 < 4294967296 := by rw [← e0]; exact rv4_lt (oF_lt d_f) _
  have g1 : V1 < 4294967296 := by rw [← e1]; exact rv4_lt (oF_lt d_f) _
  have g2 : V2 < 4294967296 := by rw [← e2]; exact rv4_lt (oF_lt d_f) _
  have g3 : V3 < 4294967296 := by rw [← e3]; exact rv4_lt (oF_lt d_f) _
  have g4 : V4 < 4294967296 := by rw [← e4]; exact rv4_lt (oF_lt d_f) _
  have g5 : V5 < 4294967296 := by rw [← e5]; exact rv4_lt (oF_lt d_f) _
  have f1 : nI q + 4 = nI (q + 4) := nI_add q 4
  have f2 : nI q + 12 = nI (q + 12) := nI_add q 12
  have f3 : nI q + 20 = nI (q + 20) := nI_add q 20
  have key : p_X8_ratioOn fu 12000 (nI o) (nI l) d_f (nI q) (nI x) (nI y) = if decide (0 < P ∧ x ≤ 65535 ∧ P ≤ 65535) = true then (if decide (0 < Q ∧ y ≤ 65535 ∧ Q ≤ 65535) = true then (if decide (0 < V1 ∧ V0 ≤ 65535 ∧ V1 ≤ 65535) = true then (if decide ((V2 = 0 ∧ V3 = 0) ∨ (0 < V3 ∧ V2 ≤ 65535 ∧ V3 ≤ 65535)) = true then (if decide ((V4 = 0 ∧ V5 = 0) ∨ (0 < V5 ∧ V4 ≤ 65535 ∧ V5 ≤ 65535)) = true then ((p_X5_isBelow (lN y) (lN Q) (lN x) (lN P)).bind (fun z115 => if z115 = true then p_X8_ratioOn_128 fu 12000 (nI o) (nI l) d_f (nI q) (nI x) (nI y) (lN V0) (lN V1) (lN V2) (lN V3) (lN V4) (lN V5) (lN y) (lN Q) else p_X8_ratioOn_128 fu 12000 (nI o) (nI l) d_f (nI q) (nI x) (nI y) (lN V0) (lN V1) (lN V2) (lN V3) (lN V4) (lN V5) (lN x) (lN P))) else some (0, 0)) else some (0, 0)) else some (0, 0)) else some (0, 0)) else some (0, 0) := by
    unfold p_X8_ratioOn
    rw [q_u4 (x := 0) (i := 0) d_f rfl h2 (by decide) (by omega) (by omega), ob_s, q_u4 (x := 4) (i := 4) d_f rfl h2 (by decide) (by omega) (by omega), if_pos (show 0 + 4 ≤ l by omega), if_pos (show 4 + 4 ≤ l by omega), Nat.add_zero, eP, eQ, q_ratioAt hfu h2 f1 (by omega), q_ratioAt hfu h2 f2 (by omega), q_ratioAt hfu h2 f3 (by omega), e0, e1, e2, e3, e4, e5, nI_l (n := x) (by omega), nI_l (n := y) (by omega)]
    have i1 : p_X5_init (lN x) (lN P) = some (lN x, lN P) := rfl
    have i2 : p_X5_init (lN y) (lN Q) = some (lN y, lN Q) := rfl
    rw [i1, ob_s, ob_s, i2, ob_s, ob_s, ob_s, ob_s]
    dsimp only
    rw [q_usable (by omega) gP, ob_s, q_usable (by omega) gQ, ob_s, q_usable g0 g1, ob_s, q_limit g2 g3, ob_s, q_limit g4 g5, ob_s]
    rfl
  constructor
  · intro hg
    obtain ⟨k1, k2, k3, k4', k5'⟩ := hG.mp hg
    have k4 : (V2 = 0 ∧ V3 = 0) ∨ (0 < V3 ∧ V2 ≤ 65535 ∧ V3 ≤ 65535) := k4'
    have k5 : (V4 = 0 ∧ V5 = 0) ∨ (0 < V5 ∧ V4 ≤ 65535 ∧ V5 ≤ 65535) := k5'
    rw [key, if_pos (decide_eq_true ⟨k1.1, hx, k1.2⟩), if_pos (decide_eq_true ⟨k2.1, hy, k2.2⟩), if_pos (decide_eq_true k3), if_pos (decide_eq_true k4), if_pos (decide_eq_true k5)]
    unfold p_X5_isBelow
    by_cases c : (lN x * lN Q) ≤ (lN y * lN P)
    · rw [if_pos c, if_pos c]; rfl
    · rw [if_neg c, if_neg c]; rfl
  · intro hg
    rw [key]
    by_cases k1 : 0 < P ∧ P ≤ 65535
    · rw [if_pos (decide_eq_true ⟨k1.1, hx, k1.2⟩)]
      by_cases k2 : 0 < Q ∧ Q ≤ 65535
      · rw [if_pos (decide_eq_true ⟨k2.1, hy, k2.2⟩)]
        by_cases k3 : 0 < V1 ∧ V0 ≤ 65535 ∧ V1 ≤ 65535
        · rw [if_pos (decide_eq_true k3)]
          by_cases k4 : (V2 = 0 ∧ V3 = 0) ∨ (0 < V3 ∧ V2 ≤ 65535 ∧ V3 ≤ 65535)
          · rw [if_pos (decide_eq_true k4)]
            by_cases k5 : (V4 = 0 ∧ V5 = 0) ∨ (0 < V5 ∧ V4 ≤ 65535 ∧ V5 ≤ 65535)
            · exact absurd (hG.mpr ⟨k1, k2, k3, k4, k5⟩) hg
            · rw [if_neg (by rw [decide_eq_true_iff]; exact k5)]; rfl
          · rw [if_neg (by rw [decide_eq_true_iff]; exact k4)]; rfl
        · rw [if_neg (by rw [decide_eq_true_iff]; exact k3)]; rfl
      · rw [if_neg (show ¬ decide (0 < Q ∧ y ≤ 65535 ∧ Q ≤ 65535) = true by rw [decide_eq_true_iff]; exact fun h => k2 ⟨h.1, h.2.2⟩)]; rfl
    · rw [if_neg (show ¬ decide (0 < P ∧ x ≤ 65535 ∧ P ≤ 65535) = true by rw [decide_eq_true_iff]; exact fun h => k1 ⟨h.1, h.2.2⟩)]; rfl
theorem m229 {r : Nat} (W H zp zq : Int64) (x3 x4 : Int32) (h1 : mr m_d d_f L) (h2 : r + 24 ≤ L) (h3 : L ≤ 12000) : ∀ (d fn : Nat) (b : Bool), d ≤ 6 → d < fn → p_X10_scaled_229 fu m_c m_e m_d m_k m_s m_u m_n m_m a1 x3 x4 a5 fn W H (nI r) zp zq (bI b) (nI (6 - d)) = p_X10_scaled_229 fu m_c m_e m_d m_k m_s m_u m_n m_m a1 x3 x4 a5 1 W H (nI r) zp zq (bI (b && al (fun i => rv (oF d_f) (r + 4 * i) 4) d)) (nI 6) := by
  intro d
  induction d with
  | zero =>
    intro fn b _ hf
    cases fn with
    | zero => omega
    | succ fn =>
      rw [al, Bool.and_true, p_X10_scaled_229, p_X10_scaled_229, if_pos (show (6 : Int32) ≤ nI (6 - 0) by decide), if_pos (show (6 : Int32) ≤ nI 6 by decide)]
  | succ d ih =>
    intro fn b hd hf
    cases fn with
    | zero => omega
    | succ fn =>
      have e1 : nI (6 - (d + 1)) + 1 = nI (6 - d) := by rw [nI_1]; congr 1; omega
      rw [p_X10_scaled_229, if_neg (show ¬ (6 : Int32) ≤ nI (6 - (d + 1)) from nI_ge (b := 6) (by omega) (by decide)), e1]
      cases b with
      | false =>
        rw [if_pos (show bI false = 0 from rfl)]
        have h4 := ih fn false (by omega) (by omega)
        rw [Bool.false_and] at h4
        rw [Bool.false_and]
        exact h4
      | true =>
        have e2 : nI r + 4 * nI (6 - (d + 1)) = nI (r + 4 * (6 - (d + 1))) := by
          have e3 : (4 : Int32) * nI (6 - (d + 1)) = nI (4 * (6 - (d + 1))) := pk_mul 4 _
          rw [e3, nI_add]
        have g1 := rv4_lt (oF_lt d_f) (r + 4 * (6 - (d + 1)))
        rw [if_neg (show ¬ bI true = 0 by decide), e2, q_four rfl h1 (by omega) h3 (by decide), ob_s, al]
        by_cases c : 65535 < rv (oF d_f) (r + 4 * (6 - (d + 1))) 4
        · rw [if_pos ((z_big g1).mpr c), decide_eq_false (show ¬ rv (oF d_f) (r + 4 * (6 - (d + 1))) 4 ≤ 65535 by omega)]
          have h4 := ih fn false (by omega) (by omega)
          rw [Bool.false_and] at h4
          rw [Bool.false_and, Bool.and_false]
          exact h4
        · rw [if_neg (fun h => c ((z_big g1).mp h)), decide_eq_true (show rv (oF d_f) (r + 4 * (6 - (d + 1))) 4 ≤ 65535 by omega), Bool.true_and]
          exact ih fn true (by omega) (by omega)
theorem m229_end {r V0 V1 V2 V3 V4 V5 : Nat} (W H zp zq : Int64) (x3 x4 : Int32) (h1 : mr m_d d_f L) (h2 : r + 24 ≤ L) (h3 : L ≤ 12000) (e0 : rv (oF d_f) r 4 = V0) (e1 : rv (oF d_f) (r + 4) 4 = V1) (e2 : rv (oF d_f) (r + 8) 4 = V2) (e3 : rv (oF d_f) (r + 12) 4 = V3) (e4 : rv (oF d_f) (r + 16) 4 = V4) (e5 : rv (oF d_f) (r + 20) 4 = V5) (b : Bool) (G : Prop) (hG : G ↔ b = true ∧ 0 < V1 ∧ (0 < V3 ∨ V2 = 0) ∧ (0 < V5 ∨ V4 = 0)) : (G → p_X10_scaled_229 fu m_c m_e m_d m_k m_s m_u m_n m_m a1 x3 x4 a5 1 W H (nI r) zp zq (bI b) (nI 6) = p_X10_scaled_400 fu m_c m_e m_d m_k m_s m_u m_n m_m a1 x3 x4 a5 W H zp zq (lN V0) (lN V1) (lN V2) (lN V3) (lN V4) (lN V5) 1) ∧ (¬ G → p_X10_scaled_229 fu m_c m_e m_d m_k m_s m_u m_n m_m a1 x3 x4 a5 1 W H (nI r) zp zq (bI b) (nI 6) = some (-2)) := by
  have g1 : V1 < 4294967296 := by rw [← e1]; exact rv4_lt (oF_lt d_f) _
  have g2 : V2 < 4294967296 := by rw [← e2]; exact rv4_lt (oF_lt d_f) _
  have g3 : V3 < 4294967296 := by rw [← e3]; exact rv4_lt (oF_lt d_f) _
  have g4 : V4 < 4294967296 := by rw [← e4]; exact rv4_lt (oF_lt d_f) _
  have g5 : V5 < 4294967296 := by rw [← e5]; exact rv4_lt (oF_lt d_f) _
  have f1 : nI r + 4 = nI (r + 4) := nI_add r 4
  have f2 : nI r + 8 = nI (r + 8) := nI_add r 8
  have f3 : nI r + 12 = nI (r + 12) := nI_add r 12
  have f4 : nI r + 16 = nI (r + 16) := nI_add r 16
  have f5 : nI r + 20 = nI (r + 20) := nI_add r 20
  have z0 : ∀ A B C E F I, p_X10_scaled_400 fu m_c m_e m_d m_k m_s m_u m_n m_m a1 x3 x4 a5 W H zp zq A B C E F I 0 = some (-2) := fun A B C E F I => by unfold p_X10_scaled_400; rw [if_pos rfl]
  rw [p_X10_scaled_229, if_pos (show (6 : Int32) ≤ nI 6 by decide), f1, f2, f3, f4, f5, q_four rfl h1 (by omega) h3 (by decide), ob_s, q_four rfl h1 (by omega) h3 (by decide), ob_s, q_four rfl h1 (by omega) h3 (by decide), ob_s, q_four rfl h1 (by omega) h3 (by decide), ob_s, q_four rfl h1 (by omega) h3 (by decide), ob_s, q_four rfl h1 (by omega) h3 (by decide), ob_s, e0, e1, e2, e3, e4, e5]
  simp only [z0]
  cases b with
  | false =>
    rw [if_pos (show bI false = 0 from rfl)]
    exact ⟨fun hg => absurd (hG.mp hg).1 (by decide), fun _ => rfl⟩
  | true =>
    rw [if_neg (show ¬ bI true = 0 by decide)]
    by_cases c1 : V1 = 0
    · rw [if_pos ((z_le g1).mpr c1)]
      exact ⟨fun hg => by have := (hG.mp hg).2.1; omega, fun _ => rfl⟩
    · rw [if_neg (fun h => c1 ((z_le g1).mp h))]
      by_cases c3 : 0 < V3
      · rw [if_pos ((z_gt g3).mpr c3)]
        by_cases c5 : 0 < V5
        · rw [if_pos ((z_gt g5).mpr c5)]
          exact ⟨fun _ => rfl, fun hg => absurd (hG.mpr ⟨rfl, by omega, Or.inl c3, Or.inl c5⟩) hg⟩
        · rw [if_neg (fun h => c5 ((z_gt g5).mp h))]
          by_cases c4 : V4 = 0
          · rw [if_pos ((z_eq g4).mpr c4)]
            exact ⟨fun _ => rfl, fun hg => absurd (hG.mpr ⟨rfl, by omega, Or.inl c3, Or.inr c4⟩) hg⟩
          · rw [if_neg (fun h => c4 ((z_eq g4).mp h))]
            exact ⟨fun hg => (hG.mp hg).2.2.2.elim (fun h => absurd h c5) (fun h => absurd h c4), fun _ => rfl⟩
      · rw [if_neg (fun h => c3 ((z_gt g3).mp h))]
        by_cases c2 : V2 = 0
        · rw [if_pos ((z_eq g2).mpr c2)]
          by_cases c5 : 0 < V5
          · rw [if_pos ((z_gt g5).mpr c5)]
            exact ⟨fun _ => rfl, fun hg => absurd (hG.mpr ⟨rfl, by omega, Or.inr c2, Or.inl c5⟩) hg⟩
          · rw [if_neg (fun h => c5 ((z_gt g5).mp h))]
            by_cases c4 : V4 = 0
            · rw [if_pos ((z_eq g4).mpr c4)]
              exact ⟨fun _ => rfl, fun hg => absurd (hG.mpr ⟨rfl, by omega, Or.inr c2, Or.inr c4⟩) hg⟩
            · rw [if_neg (fun h => c4 ((z_eq g4).mp h))]
              exact ⟨fun hg => (hG.mp hg).2.2.2.elim (fun h => absurd h c5) (fun h => absurd h c4), fun _ => rfl⟩
        · rw [if_neg (fun h => c2 ((z_eq g2).mp h))]
          exact ⟨fun hg => (hG.mp hg).2.2.1.elim (fun h => absurd h c3) (fun h => absurd h c2), fun _ => rfl⟩
theorem row_loop {c k : Nat} (w : Int64) (hfu : 20000 ≤ fu) (h1 : mr m_d d_f L) (h2 : o + l ≤ L) (h3 : L ≤ 12000) (hk : k < c) (hc : c ≤ 60) (hs : m_s k = nI l) : ∀ (N p fc fm : Nat), p + 28 * N = l → N < fc → N < fm → 24 ≤ p → ∃ r, p_X8_rowOf_28 fu 12000 (nI o) (nI l) d_f w fc (nI p) = some r ∧ ((r = (-2) ∧ p_X10_ratiosOf_54 fu m_c m_d m_k m_s w fm (nI k) (nI o) (nI p) = some (-2)) ∨ (∃ j, r = nI j ∧ j + 28 ≤ l ∧ 24 ≤ j ∧ p_X10_ratiosOf_54 fu m_c m_d m_k m_s w fm (nI k) (nI o) (nI p) = some (nI (o + j + 4)))) := by
  intro N
  induction N with
  | zero =>
    intro p fc fm b1 b2 b3 b4
    cases fc with
    | zero => omega
    | succ fc =>
      cases fm with
      | zero => omega
      | succ fm =>
        rw [p_X8_rowOf_28, p_X10_ratiosOf_54, if_pos (ix_t k rfl (by omega) (by decide)), cl_nI k rfl (by omega), hs, if_pos (show nI l ≤ nI p from nI_le (by omega) (by omega)), if_pos (show nI l ≤ nI p from nI_le (by omega) (by omega))]
        exact ⟨_, rfl, Or.inl ⟨rfl, rfl⟩⟩
  | succ N ih =>
    intro p fc fm b1 b2 b3 b4
    cases fc with
    | zero => omega
    | succ fc =>
      cases fm with
      | zero => omega
      | succ fm =>
        have e1 : nI p + 28 = nI (p + 28) := nI_add p 28
        have e2 : nI (o + p) + 4 = nI (o + p + 4) := nI_add (o + p) 4
        rw [p_X8_rowOf_28, p_X10_ratiosOf_54, if_pos (ix_t k rfl (by omega) (by decide)), cl_nI k rfl (by omega), hs, if_neg (show ¬ nI l ≤ nI p from nI_ge (by omega) (by omega)), if_neg (show ¬ nI l ≤ nI p from nI_ge (by omega) (by omega)), q_u4 (i := p) d_f rfl (by omega) (by decide) (by omega) (by omega), ob_s, if_pos (show p + 4 ≤ l by omega), nI_add o p, q_four rfl h1 (by omega) h3 (by decide), ob_s, e1, e2]
        by_cases c5 : lN (rv (oF d_f) (o + p) 4) = w
        · rw [if_pos c5, if_pos c5]
          exact ⟨_, rfl, Or.inr ⟨p, rfl, by omega, b4, rfl⟩⟩
        · rw [if_neg c5, if_neg c5]
          exact ih (p + 28) fc fm (by omega) (by omega) (by omega) (by omega)
end SX
