theorem in_X10_drop_X10 : ∀ w ∈ u_ws RX10 TX10 18, w ∈ wsX10_drop := fun _ h => List.mem_cons_of_mem _ (List.mem_append_right _ h)
theorem mb_X10_drop_1 : Cond.fieldLink RX10 29 (TX10 9).1 (TX10 9).2.1 (TX10 9).2.2.1 ∈ wsX10_drop := by decide +kernel
theorem mb_X10_drop_2 : Cond.fieldLink RX10 119 (TX10 10).1 (TX10 10).2.1 (TX10 10).2.2.1 ∈ wsX10_drop := by decide +kernel
theorem hdV_X10_goesAway : yX10_goesAway.cls = RX10 ∧ yX10_goesAway.cls ≠ "java/lang/invoke/MethodHandle" ∧ yX10_goesAway.cls ≠ "java/lang/invoke/VarHandle" ∧ (parseMethodDescriptor yX10_goesAway.desc).map (fun d => d.parameters.length) = some 1 := by decide +kernel
theorem mb_X10_drop_3 : Cond.fieldLink RX10 22 (TX10 7).1 (TX10 7).2.1 (TX10 7).2.2.1 ∈ wsX10_drop := by decide +kernel
theorem mb_X10_drop_4 : Cond.fieldLink RX10 25 (TX10 8).1 (TX10 8).2.1 (TX10 8).2.2.1 ∈ wsX10_drop := by decide +kernel
abbrev rmX10_drop : Room := { frames := 3, cells := 0, slots := 0, locals := 72 }
set_option maxHeartbeats 4000000 in
set_option maxRecDepth 100000 in
theorem wk_X10_drop_57 {X : JC} {l : Launch} {D : va_G} {cB cI cJ : ClassId} (O : Jo X (l, D, cB, cI, cJ) cX10_drop 7 RX10 wsX10_drop rmX10_drop (some .int)) (m mt md mk ms mu mn mm mo mw : Nat) (m_ol : Int32) (m_fa : Int32) (m_f : Int32) (m_p : Int32) (m_is : Int32) (m_t : Nat → Int32) (m_o : Nat → Int32) (m_w : Nat → Int32) (a1 : Int32) (a2 : Int64) (fu : Nat) {z : Int32 × Int32 × Int32 × Int32 × Int32 × (Nat → Int32) × (Nat → Int32) × (Nat → Int32) × (Nat → Int32) × (Nat → Int64) × (Nat → Int32)} : ∀ (fn : Nat) (v5 : Int32) (v6 : Int32) (m_tl : Int32) (m_dl : Int32) (m_c : Int32) (m_e : Int32) (m_d : Nat → Int32) (m_k : Nat → Int32) (m_s : Nat → Int32) (m_u : Nat → Int32) (m_n : Nat → Int64) (m_m : Nat → Int32), p_X10_drop_57 fu m_t a1 a2 fn v5 v6 m_tl m_dl m_c m_e m_d m_k m_s m_u m_n m_m = some z → J X 7 (JQi X [(m, .inr (6, [.ref mt, .int z.2.1, .ref md, .int z.2.2.1, .ref mk, .ref ms, .int z.2.2.2.1, .ref mu, .ref mn, .ref mm, .int z.2.2.2.2.1, .ref mo, .int m_ol, .int m_fa, .int m_f, .ref mw, .int m_p, .int m_is])), (mt, .inl (cI, 6000, .inl m_t)), (md, .inl (cI, 12000, .inl z.2.2.2.2.2.1)), (mk, .inl (cI, 61, .inl z.2.2.2.2.2.2.1)), (ms, .inl (cI, 61, .inl z.2.2.2.2.2.2.2.1)), (mu, .inl (cI, 41, .inl z.2.2.2.2.2.2.2.2.1)), (mn, .inl (cJ, 41, .inr (.inl z.2.2.2.2.2.2.2.2.2.1))), (mm, .inl (cI, 41, .inl z.2.2.2.2.2.2.2.2.2.2)), (mo, .inl (cI, 14000, .inl m_o)), (mw, .inl (cI, 61, .inl m_w))] z.1 0 0) [(m, .inr (6, [.ref mt, .int m_tl, .ref md, .int m_dl, .ref mk, .ref ms, .int m_c, .ref mu, .ref mn, .ref mm, .int m_e, .ref mo, .int m_ol, .int m_fa, .int m_f, .ref mw, .int m_p, .int m_is])), (mt, .inl (cI, 6000, .inl m_t)), (md, .inl (cI, 12000, .inl m_d)), (mk, .inl (cI, 61, .inl m_k)), (ms, .inl (cI, 61, .inl m_s)), (mu, .inl (cI, 41, .inl m_u)), (mn, .inl (cJ, 41, .inr (.inl m_n))), (mm, .inl (cI, 41, .inl m_m)), (mo, .inl (cI, 14000, .inl m_o)), (mw, .inl (cI, 61, .inl m_w))] 0 0 57 [(0, .ref m), (5, .int v5), (6, .int v6)] [] := by
  intro fn
  induction fn with
  | zero =>
    intro v5 v6 m_tl m_dl m_c m_e m_d m_k m_s m_u m_n m_m hf
    rw [p_X10_drop_57] at hf
    exact jt_n hf
  | succ fn ih =>
    intro v5 v6 m_tl m_dl m_c m_e m_d m_k m_s m_u m_n m_m hf
    rw [p_X10_drop_57] at hf
    refine J_iload O (i := 6) (pc := 57) 2 rfl dX10_drop_57 ?_
    refine J_aload_n O (i := 0) (k0 := 0) (pc := 59) 0 rfl rfl dX10_drop_59 ?_
    refine J_get O (pc := 60) in_X10_drop_X10 0 rfl rfl 10 (by decide) mb_X10_drop_2 rfl dX10_drop_60 ?_
    refine J_icmp_ge O (tgt := 120) (pc := 63) dX10_drop_63 (by decide) (fun c63 => ?_) (fun c63 => ?_)
    · have hf := jt_t c63 hf
      refine J_aload_n O (i := 0) (k0 := 0) (pc := 120) 0 rfl rfl dX10_drop_120 ?_
      refine J_iload O (i := 5) (pc := 121) 1 rfl dX10_drop_121 ?_
      obtain ⟨z123, h123, hf⟩ := jt_b hf
      refine J_callVi O (pc := 123) (c_X10_meant l D cB cI cJ m mt md mk ms mu mn mm mo mw m_tl m_dl m_c m_e m_ol m_fa m_f m_p m_is m_t m_d m_k m_s m_u m_n m_m m_o m_w v5 fu h123) rfl 0 rfl rfl gX10_drop_X10_meant hdV_X10_meant ⟨(Nat.le_of_ble_eq_true rfl), (Nat.le_of_ble_eq_true rfl)⟩ rfl (st := []) rfl (Nat.le_of_ble_eq_true rfl) [0, 1, 2, 3, 4, 5, 6, 7, 8, 9] [] rfl rfl rfl rfl rfl (by decide) [(m, .inr (6, [.ref mt, .int m_tl, .ref md, .int m_dl, .ref mk, .ref ms, .int m_c, .ref mu, .ref mn, .ref mm, .int m_e, .ref mo, .int m_ol, .int m_fa, .int m_f, .ref mw, .int m_p, .int m_is])), (mt, .inl (cI, 6000, .inl m_t)), (md, .inl (cI, 12000, .inl m_d)), (mk, .inl (cI, 61, .inl m_k)), (ms, .inl (cI, 61, .inl m_s)), (mu, .inl (cI, 41, .inl m_u)), (mn, .inl (cJ, 41, .inr (.inl m_n))), (mm, .inl (cI, 41, .inl m_m)), (mo, .inl (cI, 14000, .inl m_o)), (mw, .inl (cI, 61, .inl m_w))] [0, 1, 2, 3, 4, 5, 6, 7, 8, 9] rfl rfl rfl (0) (0) (Nat.le_of_ble_eq_true rfl) (Nat.le_of_ble_eq_true rfl) ⟨(Nat.le_of_ble_eq_true rfl), (Nat.le_of_ble_eq_true rfl)⟩ dX10_drop_123 ?_
      refine J_if_le O (tgt := 131) (pc := 126) dX10_drop_126 (by decide) (fun c126 => ?_) (fun c126 => ?_)
      · have hf := jt_t c126 hf
        refine J_aload_n O (i := 0) (k0 := 0) (pc := 131) 0 rfl rfl dX10_drop_131 ?_
        refine J_iload O (i := 5) (pc := 132) 1 rfl dX10_drop_132 ?_
        obtain ⟨z134, h134, hf⟩ := jt_b hf
        refine J_callVi O (pc := 134) (c_X10_goesAway l D cB cI cJ m mt md mk ms mu mn mm mo mw m_tl m_dl m_c m_e m_ol m_fa m_f m_p m_is m_t m_d m_k m_s m_u m_n m_m m_o m_w v5 fu h134) rfl 0 rfl rfl gX10_drop_X10_goesAway hdV_X10_goesAway ⟨(Nat.le_of_ble_eq_true rfl), (Nat.le_of_ble_eq_true rfl)⟩ rfl (st := []) rfl (Nat.le_of_ble_eq_true rfl) [0, 1, 2, 3, 4, 5, 6, 7, 8, 9] [] rfl rfl rfl rfl rfl (by decide) [(m, .inr (6, [.ref mt, .int z134.2.1, .ref md, .int z134.2.2.1, .ref mk, .ref ms, .int z134.2.2.2.1, .ref mu, .ref mn, .ref mm, .int m_e, .ref mo, .int m_ol, .int m_fa, .int m_f, .ref mw, .int m_p, .int m_is])), (mt, .inl (cI, 6000, .inl m_t)), (md, .inl (cI, 12000, .inl z134.2.2.2.2.1)), (mk, .inl (cI, 61, .inl z134.2.2.2.2.2.1)), (ms, .inl (cI, 61, .inl z134.2.2.2.2.2.2.1)), (mu, .inl (cI, 41, .inl m_u)), (mn, .inl (cJ, 41, .inr (.inl m_n))), (mm, .inl (cI, 41, .inl z134.2.2.2.2.2.2.2)), (mo, .inl (cI, 14000, .inl m_o)), (mw, .inl (cI, 61, .inl m_w))] [0, 1, 2, 3, 4, 5, 6, 7, 8, 9] rfl rfl rfl (0) (0) (Nat.le_of_ble_eq_true rfl) (Nat.le_of_ble_eq_true rfl) ⟨(Nat.le_of_ble_eq_true rfl), (Nat.le_of_ble_eq_true rfl)⟩ dX10_drop_134 ?_
        refine J_istore O (i := 6) (pc := 137) [(6, .int z134.1), (0, .ref m), (5, .int v5)] (by decide) rfl dX10_drop_137 ?_
        refine J_iconst O (v := 1) (pc := 139) (by decide) dX10_drop_139 ?_
        have e9 := Option.some.inj hf
        subst e9
        exact J_iret O (pc := 140) rfl dX10_drop_140
      · have hf := jt_f c126 hf
        refine J_iconst O (v := 0) (pc := 129) (by decide) dX10_drop_129 ?_
        have e9 := Option.some.inj hf
        subst e9
        exact J_iret O (pc := 130) rfl dX10_drop_130
    · have hf := jt_f c63 hf
      refine J_aload_n O (i := 0) (k0 := 0) (pc := 66) 0 rfl rfl dX10_drop_66 ?_
      refine J_get O (pc := 67) in_X10_drop_X10 0 rfl rfl 7 (by decide) mb_X10_drop_3 rfl dX10_drop_67 ?_
      refine J_iload O (i := 6) (pc := 70) 2 rfl dX10_drop_70 ?_
      refine J_aload_n O (i := 0) (k0 := 0) (pc := 72) 0 rfl rfl dX10_drop_72 ?_
      refine J_get O (pc := 73) in_X10_drop_X10 0 rfl rfl 7 (by decide) mb_X10_drop_3 rfl dX10_drop_73 ?_
      refine J_iload O (i := 6) (pc := 76) 2 rfl dX10_drop_76 ?_
      refine J_iconst O (v := 1) (pc := 78) (by decide) dX10_drop_78 ?_
      refine J_iadd O (pc := 79) dX10_drop_79 ?_
      obtain ⟨h80, hf⟩ := jt_g hf
      refine J_iald O (pc := 80) 5 1 rfl rfl h80 dX10_drop_80 ?_
      obtain ⟨h81, hf⟩ := jt_g hf
      refine J_iast O (pc := 81) 5 1 rfl rfl h81 [(m, .inr (6, [.ref mt, .int m_tl, .ref md, .int m_dl, .ref mk, .ref ms, .int m_c, .ref mu, .ref mn, .ref mm, .int m_e, .ref mo, .int m_ol, .int m_fa, .int m_f, .ref mw, .int m_p, .int m_is])), (mt, .inl (cI, 6000, .inl m_t)), (md, .inl (cI, 12000, .inl m_d)), (mk, .inl (cI, 61, .inl m_k)), (ms, .inl (cI, 61, .inl m_s)), (mu, .inl (cI, 41, .inl (upd m_u (Int32.toNatClampNeg v6) (m_u (Int32.toNatClampNeg (v6 + 1)))))), (mn, .inl (cJ, 41, .inr (.inl m_n))), (mm, .inl (cI, 41, .inl m_m)), (mo, .inl (cI, 14000, .inl m_o)), (mw, .inl (cI, 61, .inl m_w))] rfl dX10_drop_81 ?_
      refine J_aload_n O (i := 0) (k0 := 0) (pc := 82) 0 rfl rfl dX10_drop_82 ?_
      refine J_get O (pc := 83) in_X10_drop_X10 0 rfl rfl 8 (by decide) mb_X10_drop_4 rfl dX10_drop_83 ?_
      refine J_iload O (i := 6) (pc := 86) 2 rfl dX10_drop_86 ?_
      refine J_aload_n O (i := 0) (k0 := 0) (pc := 88) 0 rfl rfl dX10_drop_88 ?_
      refine J_get O (pc := 89) in_X10_drop_X10 0 rfl rfl 8 (by decide) mb_X10_drop_4 rfl dX10_drop_89 ?_
      refine J_iload O (i := 6) (pc := 92) 2 rfl dX10_drop_92 ?_
      refine J_iconst O (v := 1) (pc := 94) (by decide) dX10_drop_94 ?_
      refine J_iadd O (pc := 95) dX10_drop_95 ?_
      obtain ⟨h96, hf⟩ := jt_g hf
      refine J_lald O (pc := 96) 6 2 rfl rfl h96 dX10_drop_96 ?_
      obtain ⟨h97, hf⟩ := jt_g hf
      refine J_last O (pc := 97) 6 2 rfl rfl h97 [(m, .inr (6, [.ref mt, .int m_tl, .ref md, .int m_dl, .ref mk, .ref ms, .int m_c, .ref mu, .ref mn, .ref mm, .int m_e, .ref mo, .int m_ol, .int m_fa, .int m_f, .ref mw, .int m_p, .int m_is])), (mt, .inl (cI, 6000, .inl m_t)), (md, .inl (cI, 12000, .inl m_d)), (mk, .inl (cI, 61, .inl m_k)), (ms, .inl (cI, 61, .inl m_s)), (mu, .inl (cI, 41, .inl (upd m_u (Int32.toNatClampNeg v6) (m_u (Int32.toNatClampNeg (v6 + 1)))))), (mn, .inl (cJ, 41, .inr (.inl (vp_updL m_n (Int32.toNatClampNeg v6) (m_n (Int32.toNatClampNeg (v6 + 1))))))), (mm, .inl (cI, 41, .inl m_m)), (mo, .inl (cI, 14000, .inl m_o)), (mw, .inl (cI, 61, .inl m_w))] rfl dX10_drop_97 ?_
      refine J_aload_n O (i := 0) (k0 := 0) (pc := 98) 0 rfl rfl dX10_drop_98 ?_
      refine J_get O (pc := 99) in_X10_drop_X10 0 rfl rfl 9 (by decide) mb_X10_drop_1 rfl dX10_drop_99 ?_
      refine J_iload O (i := 6) (pc := 102) 2 rfl dX10_drop_102 ?_
      refine J_aload_n O (i := 0) (k0 := 0) (pc := 104) 0 rfl rfl dX10_drop_104 ?_
      refine J_get O (pc := 105) in_X10_drop_X10 0 rfl rfl 9 (by decide) mb_X10_drop_1 rfl dX10_drop_105 ?_
      refine J_iload O (i := 6) (pc := 108) 2 rfl dX10_drop_108 ?_
      refine J_iconst O (v := 1) (pc := 110) (by decide) dX10_drop_110 ?_
      refine J_iadd O (pc := 111) dX10_drop_111 ?_
      obtain ⟨h112, hf⟩ := jt_g hf
      refine J_iald O (pc := 112) 7 1 rfl rfl h112 dX10_drop_112 ?_
      obtain ⟨h113, hf⟩ := jt_g hf
      refine J_iast O (pc := 113) 7 1 rfl rfl h113 [(m, .inr (6, [.ref mt, .int m_tl, .ref md, .int m_dl, .ref mk, .ref ms, .int m_c, .ref mu, .ref mn, .ref mm, .int m_e, .ref mo, .int m_ol, .int m_fa, .int m_f, .ref mw, .int m_p, .int m_is])), (mt, .inl (cI, 6000, .inl m_t)), (md, .inl (cI, 12000, .inl m_d)), (mk, .inl (cI, 61, .inl m_k)), (ms, .inl (cI, 61, .inl m_s)), (mu, .inl (cI, 41, .inl (upd m_u (Int32.toNatClampNeg v6) (m_u (Int32.toNatClampNeg (v6 + 1)))))), (mn, .inl (cJ, 41, .inr (.inl (vp_updL m_n (Int32.toNatClampNeg v6) (m_n (Int32.toNatClampNeg (v6 + 1))))))), (mm, .inl (cI, 41, .inl (upd m_m (Int32.toNatClampNeg v6) (m_m (Int32.toNatClampNeg (v6 + 1)))))), (mo, .inl (cI, 14000, .inl m_o)), (mw, .inl (cI, 61, .inl m_w))] rfl dX10_drop_113 ?_
      refine J_iinc O (i := 6) (n := 1) (v := v6 + 1) (pc := 114) 2 rfl [(6, .int (v6 + 1)), (0, .ref m), (5, .int v5)] (by decide) (congrArg (_ + ·) (by decide)) rfl dX10_drop_114 ?_
      refine J_goto O (tgt := 57) (pc := 117) dX10_drop_117 (by decide) ?_
      refine J_sub [1, 2, 0] (lv' := [(0, .ref m), (5, .int v5), (6, .int (v6 + 1))]) rfl ?_
      exact ih v5 (v6 + 1) m_tl m_dl m_c m_e m_d m_k m_s (upd m_u (Int32.toNatClampNeg v6) (m_u (Int32.toNatClampNeg (v6 + 1)))) (vp_updL m_n (Int32.toNatClampNeg v6) (m_n (Int32.toNatClampNeg (v6 + 1)))) (upd m_m (Int32.toNatClampNeg v6) (m_m (Int32.toNatClampNeg (v6 + 1)))) hf
set_option maxHeartbeats 4000000 in
set_option maxRecDepth 100000 in
theorem c_X10_drop (l : Launch) (D : va_G) (cB cI cJ : ClassId) (m mt md mk ms mu mn mm mo mw : Nat) (m_tl : Int32) (m_dl : Int32) (m_c : Int32) (m_e : Int32) (m_ol : Int32) (m_fa : Int32) (m_f : Int32) (m_p : Int32) (m_is : Int32) (m_t : Nat → Int32) (m_d : Nat → Int32) (m_k : Nat → Int32) (m_s : Nat → Int32) (m_u : Nat → Int32) (m_n : Nat → Int64) (m_m : Nat → Int32) (m_o : Nat → Int32) (m_w : Nat → Int32) (a1 : Int32) (a2 : Int64) (fu : Nat) {z : Int32 × Int32 × Int32 × Int32 × Int32 × (Nat → Int32) × (Nat → Int32) × (Nat → Int32) × (Nat → Int32) × (Nat → Int64) × (Nat → Int32)} (hf : p_X10_drop fu m_tl m_dl m_c m_e m_t m_d m_k m_s m_u m_n m_m a1 a2 = some z) : Ci (l, D, cB, cI, cJ) yX10_drop wsX10_drop rmX10_drop [.ref m, .int a1, .long a2] [(m, .inr (6, [.ref mt, .int m_tl, .ref md, .int m_dl, .ref mk, .ref ms, .int m_c, .ref mu, .ref mn, .ref mm, .int m_e, .ref mo, .int m_ol, .int m_fa, .int m_f, .ref mw, .int m_p, .int m_is])), (mt, .inl (cI, 6000, .inl m_t)), (md, .inl (cI, 12000, .inl m_d)), (mk, .inl (cI, 61, .inl m_k)), (ms, .inl (cI, 61, .inl m_s)), (mu, .inl (cI, 41, .inl m_u)), (mn, .inl (cJ, 41, .inr (.inl m_n))), (mm, .inl (cI, 41, .inl m_m)), (mo, .inl (cI, 14000, .inl m_o)), (mw, .inl (cI, 61, .inl m_w))] [(m, .inr (6, [.ref mt, .int z.2.1, .ref md, .int z.2.2.1, .ref mk, .ref ms, .int z.2.2.2.1, .ref mu, .ref mn, .ref mm, .int z.2.2.2.2.1, .ref mo, .int m_ol, .int m_fa, .int m_f, .ref mw, .int m_p, .int m_is])), (mt, .inl (cI, 6000, .inl m_t)), (md, .inl (cI, 12000, .inl z.2.2.2.2.2.1)), (mk, .inl (cI, 61, .inl z.2.2.2.2.2.2.1)), (ms, .inl (cI, 61, .inl z.2.2.2.2.2.2.2.1)), (mu, .inl (cI, 41, .inl z.2.2.2.2.2.2.2.2.1)), (mn, .inl (cJ, 41, .inr (.inl z.2.2.2.2.2.2.2.2.2.1))), (mm, .inl (cI, 41, .inl z.2.2.2.2.2.2.2.2.2.2)), (mo, .inl (cI, 14000, .inl m_o)), (mw, .inl (cI, 61, .inl m_w))] z.1 := by
  refine Ci_of (cc := cX10_drop) (nL := 7) (own := RX10) (ret := (some .int)) (by decide) rfl rfl (Nat.le_of_ble_eq_true rfl) (fun X O hnm0 => ?_)
  rw [p_X10_drop] at hf
  show J X 7 (JQi X [(m, .inr (6, [.ref mt, .int z.2.1, .ref md, .int z.2.2.1, .ref mk, .ref ms, .int z.2.2.2.1, .ref mu, .ref mn, .ref mm, .int z.2.2.2.2.1, .ref mo, .int m_ol, .int m_fa, .int m_f, .ref mw, .int m_p, .int m_is])), (mt, .inl (cI, 6000, .inl m_t)), (md, .inl (cI, 12000, .inl z.2.2.2.2.2.1)), (mk, .inl (cI, 61, .inl z.2.2.2.2.2.2.1)), (ms, .inl (cI, 61, .inl z.2.2.2.2.2.2.2.1)), (mu, .inl (cI, 41, .inl z.2.2.2.2.2.2.2.2.1)), (mn, .inl (cJ, 41, .inr (.inl z.2.2.2.2.2.2.2.2.2.1))), (mm, .inl (cI, 41, .inl z.2.2.2.2.2.2.2.2.2.2)), (mo, .inl (cI, 14000, .inl m_o)), (mw, .inl (cI, 61, .inl m_w))] z.1 0 0) [(m, .inr (6, [.ref mt, .int m_tl, .ref md, .int m_dl, .ref mk, .ref ms, .int m_c, .ref mu, .ref mn, .ref mm, .int m_e, .ref mo, .int m_ol, .int m_fa, .int m_f, .ref mw, .int m_p, .int m_is])), (mt, .inl (cI, 6000, .inl m_t)), (md, .inl (cI, 12000, .inl m_d)), (mk, .inl (cI, 61, .inl m_k)), (ms, .inl (cI, 61, .inl m_s)), (mu, .inl (cI, 41, .inl m_u)), (mn, .inl (cJ, 41, .inr (.inl m_n))), (mm, .inl (cI, 41, .inl m_m)), (mo, .inl (cI, 14000, .inl m_o)), (mw, .inl (cI, 61, .inl m_w))] 0 0 0 [(0, .ref m), (1, .int a1), (2, .long a2)] []
  refine J_iload_n O (i := 1) (k0 := 1) (pc := 0) 1 rfl rfl dX10_drop_0 ?_
  obtain ⟨z1, h1, hf⟩ := jt_b hf
  refine J_callSi O (pc := 1) (c_X10_isUse l D cB cI cJ a1 h1) rfl gX10_drop_X10_isUse hdS_X10_isUse ⟨(Nat.le_of_ble_eq_true rfl), (Nat.le_of_ble_eq_true rfl)⟩ rfl (st := []) rfl (Nat.le_of_ble_eq_true rfl) [] [0, 1, 2, 3, 4, 5, 6, 7, 8, 9] rfl rfl rfl rfl rfl (by decide) [(m, .inr (6, [.ref mt, .int m_tl, .ref md, .int m_dl, .ref mk, .ref ms, .int m_c, .ref mu, .ref mn, .ref mm, .int m_e, .ref mo, .int m_ol, .int m_fa, .int m_f, .ref mw, .int m_p, .int m_is])), (mt, .inl (cI, 6000, .inl m_t)), (md, .inl (cI, 12000, .inl m_d)), (mk, .inl (cI, 61, .inl m_k)), (ms, .inl (cI, 61, .inl m_s)), (mu, .inl (cI, 41, .inl m_u)), (mn, .inl (cJ, 41, .inr (.inl m_n))), (mm, .inl (cI, 41, .inl m_m)), (mo, .inl (cI, 14000, .inl m_o)), (mw, .inl (cI, 61, .inl m_w))] [0, 1, 2, 3, 4, 5, 6, 7, 8, 9] rfl rfl rfl (0) (0) (Nat.le_of_ble_eq_true rfl) (Nat.le_of_ble_eq_true rfl) ⟨(Nat.le_of_ble_eq_true rfl), (Nat.le_of_ble_eq_true rfl)⟩ dX10_drop_1 ?_
  refine J_zeq O (tgt := 14) (pc := 4) dX10_drop_4 (by decide) (fun c4 => ?_) (fun c4 => ?_)
  · have hf := jt_f c4 hf
    refine J_iconst O (v := (-1)) (pc := 14) (by decide) dX10_drop_14 ?_
    have e9 := Option.some.inj hf
    subst e9
    exact J_iret O (pc := 15) rfl dX10_drop_15
  · have hf := jt_t c4 hf
    refine J_lload_n O (i := 2) (k0 := 2) (pc := 7) 2 rfl rfl dX10_drop_7 ?_
    obtain ⟨z8, h8, hf⟩ := jt_b hf
    refine J_callSi O (pc := 8) (c_X10_isNumber l D cB cI cJ a2 h8) rfl gX10_drop_X10_isNumber hdS_X10_isNumber ⟨(Nat.le_of_ble_eq_true rfl), (Nat.le_of_ble_eq_true rfl)⟩ rfl (st := []) rfl (Nat.le_of_ble_eq_true rfl) [] [0, 1, 2, 3, 4, 5, 6, 7, 8, 9] rfl rfl rfl rfl rfl (by decide) [(m, .inr (6, [.ref mt, .int m_tl, .ref md, .int m_dl, .ref mk, .ref ms, .int m_c, .ref mu, .ref mn, .ref mm, .int m_e, .ref mo, .int m_ol, .int m_fa, .int m_f, .ref mw, .int m_p, .int m_is])), (mt, .inl (cI, 6000, .inl m_t)), (md, .inl (cI, 12000, .inl m_d)), (mk, .inl (cI, 61, .inl m_k)), (ms, .inl (cI, 61, .inl m_s)), (mu, .inl (cI, 41, .inl m_u)), (mn, .inl (cJ, 41, .inr (.inl m_n))), (mm, .inl (cI, 41, .inl m_m)), (mo, .inl (cI, 14000, .inl m_o)), (mw, .inl (cI, 61, .inl m_w))] [0, 1, 2, 3, 4, 5, 6, 7, 8, 9] rfl rfl rfl (0) (0) (Nat.le_of_ble_eq_true rfl) (Nat.le_of_ble_eq_true rfl) ⟨(Nat.le_of_ble_eq_true rfl), (Nat.le_of_ble_eq_true rfl)⟩ dX10_drop_8 ?_
    refine J_zne O (tgt := 16) (pc := 11) dX10_drop_11 (by decide) (fun c11 => ?_) (fun c11 => ?_)
    · have hf := jt_t c11 hf
      refine J_aload_n O (i := 0) (k0 := 0) (pc := 16) 0 rfl rfl dX10_drop_16 ?_
      refine J_iload_n O (i := 1) (k0 := 1) (pc := 17) 1 rfl rfl dX10_drop_17 ?_
      refine J_lload_n O (i := 2) (k0 := 2) (pc := 18) 2 rfl rfl dX10_drop_18 ?_
      obtain ⟨z19, h19, hf⟩ := jt_b hf
      refine J_callVi O (pc := 19) (c_X10_entryFor l D cB cI cJ m mt md mk ms mu mn mm mo mw m_tl m_dl m_c m_e m_ol m_fa m_f m_p m_is m_t m_d m_k m_s m_u m_n m_m m_o m_w a1 a2 fu h19) rfl 0 rfl rfl gX10_drop_X10_entryFor hdV_X10_entryFor ⟨(Nat.le_of_ble_eq_true rfl), (Nat.le_of_ble_eq_true rfl)⟩ rfl (st := []) rfl (Nat.le_of_ble_eq_true rfl) [0, 1, 2, 3, 4, 5, 6, 7, 8, 9] [] rfl rfl rfl rfl rfl (by decide) [(m, .inr (6, [.ref mt, .int m_tl, .ref md, .int m_dl, .ref mk, .ref ms, .int m_c, .ref mu, .ref mn, .ref mm, .int m_e, .ref mo, .int m_ol, .int m_fa, .int m_f, .ref mw, .int m_p, .int m_is])), (mt, .inl (cI, 6000, .inl m_t)), (md, .inl (cI, 12000, .inl m_d)), (mk, .inl (cI, 61, .inl m_k)), (ms, .inl (cI, 61, .inl m_s)), (mu, .inl (cI, 41, .inl m_u)), (mn, .inl (cJ, 41, .inr (.inl m_n))), (mm, .inl (cI, 41, .inl m_m)), (mo, .inl (cI, 14000, .inl m_o)), (mw, .inl (cI, 61, .inl m_w))] [0, 1, 2, 3, 4, 5, 6, 7, 8, 9] rfl rfl rfl (0) (0) (Nat.le_of_ble_eq_true rfl) (Nat.le_of_ble_eq_true rfl) ⟨(Nat.le_of_ble_eq_true rfl), (Nat.le_of_ble_eq_true rfl)⟩ dX10_drop_19 ?_
      refine J_istore O (i := 4) (pc := 22) [(4, .int z19), (0, .ref m), (1, .int a1), (2, .long a2)] (by decide) rfl dX10_drop_22 ?_
      refine J_iload O (i := 4) (pc := 24) 0 rfl dX10_drop_24 ?_
      refine J_bipush O (v := (-2)) (pc := 26) (by decide) dX10_drop_26 ?_
      refine J_icmp_ne O (tgt := 34) (pc := 28) dX10_drop_28 (by decide) (fun c28 => ?_) (fun c28 => ?_)
      · have hf := jt_f c28 hf
        refine J_aload_n O (i := 0) (k0 := 0) (pc := 34) 1 rfl rfl dX10_drop_34 ?_
        refine J_get O (pc := 35) in_X10_drop_X10 0 rfl rfl 9 (by decide) mb_X10_drop_1 rfl dX10_drop_35 ?_
        refine J_iload O (i := 4) (pc := 38) 0 rfl dX10_drop_38 ?_
        obtain ⟨h40, hf⟩ := jt_g hf
        refine J_iald O (pc := 40) 7 1 rfl rfl h40 dX10_drop_40 ?_
        refine J_istore O (i := 5) (pc := 41) [(5, .int (m_m (Int32.toNatClampNeg z19))), (4, .int z19), (0, .ref m), (1, .int a1), (2, .long a2)] (by decide) rfl dX10_drop_41 ?_
        refine J_aload_n O (i := 0) (k0 := 0) (pc := 43) 2 rfl rfl dX10_drop_43 ?_
        refine J_dup O (pc := 44) rfl dX10_drop_44 ?_
        refine J_get O (pc := 45) in_X10_drop_X10 0 rfl rfl 10 (by decide) mb_X10_drop_2 rfl dX10_drop_45 ?_
        refine J_iconst O (v := 1) (pc := 48) (by decide) dX10_drop_48 ?_
        refine J_isub O (pc := 49) dX10_drop_49 ?_
        refine J_put O (pc := 50) in_X10_drop_X10 tyX10 tyX10_ok nmX10 0 rfl rfl 10 (by decide) mb_X10_drop_2 rfl rfl rfl (Nat.le_of_ble_eq_true rfl) [(m, .inr (6, [.ref mt, .int m_tl, .ref md, .int m_dl, .ref mk, .ref ms, .int m_c, .ref mu, .ref mn, .ref mm, .int (m_e - 1), .ref mo, .int m_ol, .int m_fa, .int m_f, .ref mw, .int m_p, .int m_is])), (mt, .inl (cI, 6000, .inl m_t)), (md, .inl (cI, 12000, .inl m_d)), (mk, .inl (cI, 61, .inl m_k)), (ms, .inl (cI, 61, .inl m_s)), (mu, .inl (cI, 41, .inl m_u)), (mn, .inl (cJ, 41, .inr (.inl m_n))), (mm, .inl (cI, 41, .inl m_m)), (mo, .inl (cI, 14000, .inl m_o)), (mw, .inl (cI, 61, .inl m_w))] rfl dX10_drop_50 ?_
        refine J_iload O (i := 4) (pc := 53) 1 rfl dX10_drop_53 ?_
        refine J_istore O (i := 6) (pc := 55) [(6, .int z19), (5, .int (m_m (Int32.toNatClampNeg z19))), (4, .int z19), (0, .ref m), (1, .int a1), (2, .long a2)] (by decide) rfl dX10_drop_55 ?_
        refine J_sub [3, 1, 0] (lv' := [(0, .ref m), (5, .int (m_m (Int32.toNatClampNeg z19))), (6, .int z19)]) rfl ?_
        exact wk_X10_drop_57 O m mt md mk ms mu mn mm mo mw m_ol m_fa m_f m_p m_is m_t m_o m_w a1 a2 fu fu (m_m (Int32.toNatClampNeg z19)) z19 m_tl m_dl m_c (m_e - 1) m_d m_k m_s m_u m_n m_m hf
      · have hf := jt_t c28 hf
        refine J_bipush O (v := (-2)) (pc := 31) (by decide) dX10_drop_31 ?_
        have e9 := Option.some.inj hf
        subst e9
        exact J_iret O (pc := 33) rfl dX10_drop_33
    · have hf := jt_f c11 hf
      refine J_iconst O (v := (-1)) (pc := 14) (by decide) dX10_drop_14 ?_
      have e9 := Option.some.inj hf
      subst e9
      exact J_iret O (pc := 15) rfl dX10_drop_15
abbrev rmX10_remove : Room := { frames := 3, cells := 0, slots := 0, locals := 72 }
set_option maxHeartbeats 4000000 in
set_option maxRecDepth 100000 in
theorem c_X10_remove (l : Launch) (D : va_G) (cB cI cJ : ClassId) (m mt md mk ms mu mn mm mo mw : Nat) (m_tl : Int32) (m_dl : Int32) (m_c : Int32) (m_e : Int32) (m_ol : Int32) (m_fa : Int32) (m_f : Int32) (m_p : Int32) (m_is : Int32) (m_t : Nat → Int32) (m_d : Nat → Int32) (m_k : Nat → Int32) (m_s : Nat → Int32) (m_u : Nat → Int32) (m_n : Nat → Int64) (m_m : Nat → Int32) (m_o : Nat → Int32) (m_w : Nat → Int32) (a1 : Int32) (fu : Nat) {z : Int32 × Int32 × Int32 × Int32 × (Nat → Int32) × (Nat → Int32) × (Nat → Int32) × (Nat → Int32)} (hf : p_X10_remove fu m_tl m_dl m_c m_e m_t m_d m_k m_s m_m a1 = some z) : Ci (l, D, cB, cI, cJ) yX10_remove wsX10_remove rmX10_remove [.ref m, .int a1] [(m, .inr (6, [.ref mt, .int m_tl, .ref md, .int m_dl, .ref mk, .ref ms, .int m_c, .ref mu, .ref mn, .ref mm, .int m_e, .ref mo, .int m_ol, .int m_fa, .int m_f, .ref mw, .int m_p, .int m_is])), (mt, .inl (cI, 6000, .inl m_t)), (md, .inl (cI, 12000, .inl m_d)), (mk, .inl (cI, 61, .inl m_k)), (ms, .inl (cI, 61, .inl m_s)), (mu, .inl (cI, 41, .inl m_u)), (mn, .inl (cJ, 41, .inr (.inl m_n))), (mm, .inl (cI, 41, .inl m_m)), (mo, .inl (cI, 14000, .inl m_o)), (mw, .inl (cI, 61, .inl m_w))] [(m, .inr (6, [.ref mt, .int z.2.1, .ref md, .int z.2.2.1, .ref mk, .ref ms, .int z.2.2.2.1, .ref mu, .ref mn, .ref mm, .int m_e, .ref mo, .int m_ol, .int m_fa, .int m_f, .ref mw, .int m_p, .int m_is])), (mt, .inl (cI, 6000, .inl m_t)), (md, .inl (cI, 12000, .inl z.2.2.2.2.1)), (mk, .inl (cI, 61, .inl z.2.2.2.2.2.1)), (ms, .inl (cI, 61, .inl z.2.2.2.2.2.2.1)), (mu, .inl (cI, 41, .inl m_u)), (mn, .inl (cJ, 41, .inr (.inl m_n))), (mm, .inl (cI, 41, .inl z.2.2.2.2.2.2.2)), (mo, .inl (cI, 14000, .inl m_o)), (mw, .inl (cI, 61, .inl m_w))] z.1 := by
  refine Ci_of (cc := cX10_remove) (nL := 2) (own := RX10) (ret := (some .int)) (by decide) rfl rfl (Nat.le_of_ble_eq_true rfl) (fun X O hnm0 => ?_)
  rw [p_X10_remove] at hf
  show J X 2 (JQi X [(m, .inr (6, [.ref mt, .int z.2.1, .ref md, .int z.2.2.1, .ref mk, .ref ms, .int z.2.2.2.1, .ref mu, .ref mn, .ref mm, .int m_e, .ref mo, .int m_ol, .int m_fa, .int m_f, .ref mw, .int m_p, .int m_is])), (mt, .inl (cI, 6000, .inl m_t)), (md, .inl (cI, 12000, .inl z.2.2.2.2.1)), (mk, .inl (cI, 61, .inl z.2.2.2.2.2.1)), (ms, .inl (cI, 61, .inl z.2.2.2.2.2.2.1)), (mu, .inl (cI, 41, .inl m_u)), (mn, .inl (cJ, 41, .inr (.inl m_n))), (mm, .inl (cI, 41, .inl z.2.2.2.2.2.2.2)), (mo, .inl (cI, 14000, .inl m_o)), (mw, .inl (cI, 61, .inl m_w))] z.1 0 0) [(m, .inr (6, [.ref mt, .int m_tl, .ref md, .int m_dl, .ref mk, .ref ms, .int m_c, .ref mu, .ref mn, .ref mm, .int m_e, .ref mo, .int m_ol, .int m_fa, .int m_f, .ref mw, .int m_p, .int m_is])), (mt, .inl (cI, 6000, .inl m_t)), (md, .inl (cI, 12000, .inl m_d)), (mk, .inl (cI, 61, .inl m_k)), (ms, .inl (cI, 61, .inl m_s)), (mu, .inl (cI, 41, .inl m_u)), (mn, .inl (cJ, 41, .inr (.inl m_n))), (mm, .inl (cI, 41, .inl m_m)), (mo, .inl (cI, 14000, .inl m_o)), (mw, .inl (cI, 61, .inl m_w))] 0 0 0 [(0, .ref m), (1, .int a1)] []
  refine J_aload_n O (i := 0) (k0 := 0) (pc := 0) 0 rfl rfl dX10_remove_0 ?_
  refine J_iload_n O (i := 1) (k0 := 1) (pc := 1) 1 rfl rfl dX10_remove_1 ?_
  obtain ⟨z2, h2, hf⟩ := jt_b hf
  refine J_callVi O (pc := 2) (c_X10_isChunk l D cB cI cJ m mt md mk ms mu mn mm mo mw m_tl m_dl m_c m_e m_ol m_fa m_f m_p m_is m_t m_d m_k m_s m_u m_n m_m m_o m_w a1 h2) rfl 0 rfl rfl gX10_remove_X10_isChunk hdV_X10_isChunk ⟨(Nat.le_of_ble_eq_true rfl), (Nat.le_of_ble_eq_true rfl)⟩ rfl (st := []) rfl (Nat.le_of_ble_eq_true rfl) [0, 1, 2, 3, 4, 5, 6, 7, 8, 9] [] rfl rfl rfl rfl rfl (by decide) [(m, .inr (6, [.ref mt, .int m_tl, .ref md, .int m_dl, .ref mk, .ref ms, .int m_c, .ref mu, .ref mn, .ref mm, .int m_e, .ref mo, .int m_ol, .int m_fa, .int m_f, .ref mw, .int m_p, .int m_is])), (mt, .inl (cI, 6000, .inl m_t)), (md, .inl (cI, 12000, .inl m_d)), (mk, .inl (cI, 61, .inl m_k)), (ms, .inl (cI, 61, .inl m_s)), (mu, .inl (cI, 41, .inl m_u)), (mn, .inl (cJ, 41, .inr (.inl m_n))), (mm, .inl (cI, 41, .inl m_m)), (mo, .inl (cI, 14000, .inl m_o)), (mw, .inl (cI, 61, .inl m_w))] [0, 1, 2, 3, 4, 5, 6, 7, 8, 9] rfl rfl rfl (0) (0) (Nat.le_of_ble_eq_true rfl) (Nat.le_of_ble_eq_true rfl) ⟨(Nat.le_of_ble_eq_true rfl), (Nat.le_of_ble_eq_true rfl)⟩ dX10_remove_2 ?_
  refine J_zne O (tgt := 12) (pc := 5) dX10_remove_5 (by decide) (fun c5 => ?_) (fun c5 => ?_)
  · have hf := jt_t c5 hf
    refine J_aload_n O (i := 0) (k0 := 0) (pc := 12) 0 rfl rfl dX10_remove_12 ?_
    refine J_iload_n O (i := 1) (k0 := 1) (pc := 13) 1 rfl rfl dX10_remove_13 ?_
    obtain ⟨z14, h14, hf⟩ := jt_b hf
    refine J_callVi O (pc := 14) (c_X10_meant l D cB cI cJ m mt md mk ms mu mn mm mo mw m_tl m_dl m_c m_e m_ol m_fa m_f m_p m_is m_t m_d m_k m_s m_u m_n m_m m_o m_w a1 fu h14) rfl 0 rfl rfl gX10_remove_X10_meant hdV_X10_meant ⟨(Nat.le_of_ble_eq_true rfl), (Nat.le_of_ble_eq_true rfl)⟩ rfl (st := []) rfl (Nat.le_of_ble_eq_true rfl) [0, 1, 2, 3, 4, 5, 6, 7, 8, 9] [] rfl rfl rfl rfl rfl (by decide) [(m, .inr (6, [.ref mt, .int m_tl, .ref md, .int m_dl, .ref mk, .ref ms, .int m_c, .ref mu, .ref mn, .ref mm, .int m_e, .ref mo, .int m_ol, .int m_fa, .int m_f, .ref mw, .int m_p, .int m_is])), (mt, .inl (cI, 6000, .inl m_t)), (md, .inl (cI, 12000, .inl m_d)), (mk, .inl (cI, 61, .inl m_k)), (ms, .inl (cI, 61, .inl m_s)), (mu, .inl (cI, 41, .inl m_u)), (mn, .inl (cJ, 41, .inr (.inl m_n))), (mm, .inl (cI, 41, .inl m_m)), (mo, .inl (cI, 14000, .inl m_o)), (mw, .inl (cI, 61, .inl m_w))] [0, 1, 2, 3, 4, 5, 6, 7, 8, 9] rfl rfl rfl (0) (0) (Nat.le_of_ble_eq_true rfl) (Nat.le_of_ble_eq_true rfl) ⟨(Nat.le_of_ble_eq_true rfl), (Nat.le_of_ble_eq_true rfl)⟩ dX10_remove_14 ?_
    refine J_if_le O (tgt := 25) (pc := 17) dX10_remove_17 (by decide) (fun c17 => ?_) (fun c17 => ?_)
    · have hf := jt_t c17 hf
      refine J_aload_n O (i := 0) (k0 := 0) (pc := 25) 0 rfl rfl dX10_remove_25 ?_
      refine J_iload_n O (i := 1) (k0 := 1) (pc := 26) 1 rfl rfl dX10_remove_26 ?_
      obtain ⟨z27, h27, hf⟩ := jt_b hf
      refine J_callVi O (pc := 27) (c_X10_goesAway l D cB cI cJ m mt md mk ms mu mn mm mo mw m_tl m_dl m_c m_e m_ol m_fa m_f m_p m_is m_t m_d m_k m_s m_u m_n m_m m_o m_w a1 fu h27) rfl 0 rfl rfl gX10_remove_X10_goesAway hdV_X10_goesAway ⟨(Nat.le_of_ble_eq_true rfl), (Nat.le_of_ble_eq_true rfl)⟩ rfl (st := []) rfl (Nat.le_of_ble_eq_true rfl) [0, 1, 2, 3, 4, 5, 6, 7, 8, 9] [] rfl rfl rfl rfl rfl (by decide) [(m, .inr (6, [.ref mt, .int z27.2.1, .ref md, .int z27.2.2.1, .ref mk, .ref ms, .int z27.2.2.2.1, .ref mu, .ref mn, .ref mm, .int m_e, .ref mo, .int m_ol, .int m_fa, .int m_f, .ref mw, .int m_p, .int m_is])), (mt, .inl (cI, 6000, .inl m_t)), (md, .inl (cI, 12000, .inl z27.2.2.2.2.1)), (mk, .inl (cI, 61, .inl z27.2.2.2.2.2.1)), (ms, .inl (cI, 61, .inl z27.2.2.2.2.2.2.1)), (mu, .inl (cI, 41, .inl m_u)), (mn, .inl (cJ, 41, .inr (.inl m_n))), (mm, .inl (cI, 41, .inl z27.2.2.2.2.2.2.2)), (mo, .inl (cI, 14000, .inl m_o)), (mw, .inl (cI, 61, .inl m_w))] [0, 1, 2, 3, 4, 5, 6, 7, 8, 9] rfl rfl rfl (0) (0) (Nat.le_of_ble_eq_true rfl) (Nat.le_of_ble_eq_true rfl) ⟨(Nat.le_of_ble_eq_true rfl), (Nat.le_of_ble_eq_true rfl)⟩ dX10_remove_27 ?_
      have e9 := Option.some.inj hf
      subst e9
      exact J_iret O (pc := 30) rfl dX10_remove_30
    · have hf := jt_f c17 hf
      refine J_bipush O (v := (-3)) (pc := 20) (by decide) dX10_remove_20 ?_
      refine J_goto O (tgt := 30) (pc := 22) dX10_remove_22 (by decide) ?_
      have e9 := Option.some.inj hf
      subst e9
      exact J_iret O (pc := 30) rfl dX10_remove_30
  · have hf := jt_f c5 hf
    refine J_iconst O (v := (-1)) (pc := 8) (by decide) dX10_remove_8 ?_
    refine J_goto O (tgt := 30) (pc := 9) dX10_remove_9 (by decide) ?_
    have e9 := Option.some.inj hf
    subst e9
    exact J_iret O (pc := 30) rfl dX10_remove_30
theorem in_X10_put_X10 : ∀ w ∈ u_ws RX10 TX10 18, w ∈ wsX10_put := fun _ h => List.mem_cons_of_mem _ (List.mem_append_right _ h)
theorem mb_X10_put_1 : Cond.fieldLink RX10 32 (TX10 11).1 (TX10 11).2.1 (TX10 11).2.2.1 ∈ wsX10_put := by decide +kernel
theorem mb_X10_put_2 : Cond.fieldLink RX10 122 (TX10 12).1 (TX10 12).2.1 (TX10 12).2.2.1 ∈ wsX10_put := by decide +kernel
theorem mb_X10_put_3 : Cond.constantLong RX10 61 255 ∈ wsX10_put := by decide +kernel
abbrev rmX10_put : Room := { frames := 0, cells := 0, slots := 0, locals := 0 }
set_option maxHeartbeats 4000000 in
set_option maxRecDepth 100000 in
theorem wk_X10_put_5 {X : JC} {l : Launch} {D : va_G} {cB cI cJ : ClassId} (O : Jo X (l, D, cB, cI, cJ) cX10_put 5 RX10 wsX10_put rmX10_put none) (m mt md mk ms mu mn mm mo mw : Nat) (m_tl : Int32) (m_dl : Int32) (m_c : Int32) (m_e : Int32) (m_fa : Int32) (m_f : Int32) (m_p : Int32) (m_is : Int32) (m_t : Nat → Int32) (m_d : Nat → Int32) (m_k : Nat → Int32) (m_s : Nat → Int32) (m_u : Nat → Int32) (m_n : Nat → Int64) (m_m : Nat → Int32) (m_w : Nat → Int32) (a1 : Int64) (a3 : Int32) (fu : Nat) {z : Int32 × (Nat → Int32)} : ∀ (fn : Nat) (v4 : Int32) (m_ol : Int32) (m_o : Nat → Int32), p_X10_put_5 fu a1 a3 fn v4 m_ol m_o = some z → J X 5 (JQv X [(m, .inr (6, [.ref mt, .int m_tl, .ref md, .int m_dl, .ref mk, .ref ms, .int m_c, .ref mu, .ref mn, .ref mm, .int m_e, .ref mo, .int z.1, .int m_fa, .int m_f, .ref mw, .int m_p, .int m_is])), (mt, .inl (cI, 6000, .inl m_t)), (md, .inl (cI, 12000, .inl m_d)), (mk, .inl (cI, 61, .inl m_k)), (ms, .inl (cI, 61, .inl m_s)), (mu, .inl (cI, 41, .inl m_u)), (mn, .inl (cJ, 41, .inr (.inl m_n))), (mm, .inl (cI, 41, .inl m_m)), (mo, .inl (cI, 14000, .inl z.2)), (mw, .inl (cI, 61, .inl m_w))] 0 0) [(m, .inr (6, [.ref mt, .int m_tl, .ref md, .int m_dl, .ref mk, .ref ms, .int m_c, .ref mu, .ref mn, .ref mm, .int m_e, .ref mo, .int m_ol, .int m_fa, .int m_f, .ref mw, .int m_p, .int m_is])), (mt, .inl (cI, 6000, .inl m_t)), (md, .inl (cI, 12000, .inl m_d)), (mk, .inl (cI, 61, .inl m_k)), (ms, .inl (cI, 61, .inl m_s)), (mu, .inl (cI, 41, .inl m_u)), (mn, .inl (cJ, 41, .inr (.inl m_n))), (mm, .inl (cI, 41, .inl m_m)), (mo, .inl (cI, 14000, .inl m_o)), (mw, .inl (cI, 61, .inl m_w))] 0 0 5 [(0, .ref m), (1, .long a1), (4, .int v4)] [] := by
  intro fn
  induction fn with
  | zero =>
    intro v4 m_ol m_o hf
    rw [p_X10_put_5] at hf
    exact jt_n hf
  | succ fn ih =>
    intro v4 m_ol m_o hf
    rw [p_X10_put_5] at hf
    refine J_iload O (i := 4) (pc := 5) 2 rfl dX10_put_5 ?_
    refine J_if_lt O (tgt := 47) (pc := 7) dX10_put_7 (by decide) (fun c7 => ?_) (fun c7 => ?_)
    · have hf := jt_t c7 hf
      have e9 := Option.some.inj hf
      subst e9
      exact J_vret O (pc := 47) dX10_put_47
    · have hf := jt_f c7 hf
      refine J_aload_n O (i := 0) (k0 := 0) (pc := 10) 0 rfl rfl dX10_put_10 ?_
      refine J_get O (pc := 11) in_X10_put_X10 0 rfl rfl 11 (by decide) mb_X10_put_1 rfl dX10_put_11 ?_
      refine J_aload_n O (i := 0) (k0 := 0) (pc := 14) 0 rfl rfl dX10_put_14 ?_
      refine J_get O (pc := 15) in_X10_put_X10 0 rfl rfl 12 (by decide) mb_X10_put_2 rfl dX10_put_15 ?_
      refine J_lload_n O (i := 1) (k0 := 1) (pc := 18) 1 rfl rfl dX10_put_18 ?_
      refine J_bipush O (v := 8) (pc := 19) (by decide) dX10_put_19 ?_
      refine J_iload O (i := 4) (pc := 21) 2 rfl dX10_put_21 ?_
      refine J_imul O (pc := 23) dX10_put_23 ?_
      refine J_lshr O (pc := 24) dX10_put_24 ?_
      refine J_ldc2 O (pc := 25) mb_X10_put_3 dX10_put_25 ?_
      refine J_land O (pc := 28) dX10_put_28 ?_
      refine J_l2i O (pc := 29) dX10_put_29 ?_
      obtain ⟨h30, hf⟩ := jt_g hf
      refine J_iast O (pc := 30) 8 1 rfl rfl h30 [(m, .inr (6, [.ref mt, .int m_tl, .ref md, .int m_dl, .ref mk, .ref ms, .int m_c, .ref mu, .ref mn, .ref mm, .int m_e, .ref mo, .int m_ol, .int m_fa, .int m_f, .ref mw, .int m_p, .int m_is])), (mt, .inl (cI, 6000, .inl m_t)), (md, .inl (cI, 12000, .inl m_d)), (mk, .inl (cI, 61, .inl m_k)), (ms, .inl (cI, 61, .inl m_s)), (mu, .inl (cI, 41, .inl m_u)), (mn, .inl (cJ, 41, .inr (.inl m_n))), (mm, .inl (cI, 41, .inl m_m)), (mo, .inl (cI, 14000, .inl (upd m_o (Int32.toNatClampNeg m_ol) (Int64.toInt32 ((a1 >>> ((8 * v4).toInt64 &&& 63)) &&& 255))))), (mw, .inl (cI, 61, .inl m_w))] rfl dX10_put_30 ?_
      refine J_aload_n O (i := 0) (k0 := 0) (pc := 31) 0 rfl rfl dX10_put_31 ?_
      refine J_dup O (pc := 32) rfl dX10_put_32 ?_
      refine J_get O (pc := 33) in_X10_put_X10 0 rfl rfl 12 (by decide) mb_X10_put_2 rfl dX10_put_33 ?_
      refine J_iconst O (v := 1) (pc := 36) (by decide) dX10_put_36 ?_
      refine J_iadd O (pc := 37) dX10_put_37 ?_
      refine J_put O (pc := 38) in_X10_put_X10 tyX10 tyX10_ok nmX10 0 rfl rfl 12 (by decide) mb_X10_put_2 rfl rfl rfl (Nat.le_of_ble_eq_true rfl) [(m, .inr (6, [.ref mt, .int m_tl, .ref md, .int m_dl, .ref mk, .ref ms, .int m_c, .ref mu, .ref mn, .ref mm, .int m_e, .ref mo, .int (m_ol + 1), .int m_fa, .int m_f, .ref mw, .int m_p, .int m_is])), (mt, .inl (cI, 6000, .inl m_t)), (md, .inl (cI, 12000, .inl m_d)), (mk, .inl (cI, 61, .inl m_k)), (ms, .inl (cI, 61, .inl m_s)), (mu, .inl (cI, 41, .inl m_u)), (mn, .inl (cJ, 41, .inr (.inl m_n))), (mm, .inl (cI, 41, .inl m_m)), (mo, .inl (cI, 14000, .inl (upd m_o (Int32.toNatClampNeg m_ol) (Int64.toInt32 ((a1 >>> ((8 * v4).toInt64 &&& 63)) &&& 255))))), (mw, .inl (cI, 61, .inl m_w))] rfl dX10_put_38 ?_
      refine J_iinc O (i := 4) (n := (-1)) (v := v4 + (-1)) (pc := 41) 2 rfl [(4, .int (v4 + (-1))), (0, .ref m), (1, .long a1)] (by decide) (congrArg (_ + ·) (by decide)) rfl dX10_put_41 ?_
      refine J_goto O (tgt := 5) (pc := 44) dX10_put_44 (by decide) ?_
      refine J_sub [1, 2, 0] (lv' := [(0, .ref m), (1, .long a1), (4, .int (v4 + (-1)))]) rfl ?_
      exact ih (v4 + (-1)) (m_ol + 1) (upd m_o (Int32.toNatClampNeg m_ol) (Int64.toInt32 ((a1 >>> ((8 * v4).toInt64 &&& 63)) &&& 255))) hf
set_option maxHeartbeats 4000000 in
set_option maxRecDepth 100000 in
theorem c_X10_put (l : Launch) (D : va_G) (cB cI cJ : ClassId) (m mt md mk ms mu mn mm mo mw : Nat) (m_tl : Int32) (m_dl : Int32) (m_c : Int32) (m_e : Int32) (m_ol : Int32) (m_fa : Int32) (m_f : Int32) (m_p : Int32) (m_is : Int32) (m_t : Nat → Int32) (m_d : Nat → Int32) (m_k : Nat → Int32) (m_s : Nat → Int32) (m_u : Nat → Int32) (m_n : Nat → Int64) (m_m : Nat → Int32) (m_o : Nat → Int32) (m_w : Nat → Int32) (a1 : Int64) (a3 : Int32) (fu : Nat) {z : Int32 × (Nat → Int32)} (hf : p_X10_put fu m_ol m_o a1 a3 = some z) : Cv (l, D, cB, cI, cJ) yX10_put wsX10_put rmX10_put [.ref m, .long a1, .int a3] [(m, .inr (6, [.ref mt, .int m_tl, .ref md, .int m_dl, .ref mk, .ref ms, .int m_c, .ref mu, .ref mn, .ref mm, .int m_e, .ref mo, .int m_ol, .int m_fa, .int m_f, .ref mw, .int m_p, .int m_is])), (mt, .inl (cI, 6000, .inl m_t)), (md, .inl (cI, 12000, .inl m_d)), (mk, .inl (cI, 61, .inl m_k)), (ms, .inl (cI, 61, .inl m_s)), (mu, .inl (cI, 41, .inl m_u)), (mn, .inl (cJ, 41, .inr (.inl m_n))), (mm, .inl (cI, 41, .inl m_m)), (mo, .inl (cI, 14000, .inl m_o)), (mw, .inl (cI, 61, .inl m_w))] [(m, .inr (6, [.ref mt, .int m_tl, .ref md, .int m_dl, .ref mk, .ref ms, .int m_c, .ref mu, .ref mn, .ref mm, .int m_e, .ref mo, .int z.1, .int m_fa, .int m_f, .ref mw, .int m_p, .int m_is])), (mt, .inl (cI, 6000, .inl m_t)), (md, .inl (cI, 12000, .inl m_d)), (mk, .inl (cI, 61, .inl m_k)), (ms, .inl (cI, 61, .inl m_s)), (mu, .inl (cI, 41, .inl m_u)), (mn, .inl (cJ, 41, .inr (.inl m_n))), (mm, .inl (cI, 41, .inl m_m)), (mo, .inl (cI, 14000, .inl z.2)), (mw, .inl (cI, 61, .inl m_w))] := by
  refine Cv_of (cc := cX10_put) (nL := 5) (own := RX10) (ret := none) (by decide) rfl rfl (Nat.le_of_ble_eq_true rfl) (fun X O hnm0 => ?_)
  rw [p_X10_put] at hf
  show J X 5 (JQv X [(m, .inr (6, [.ref mt, .int m_tl, .ref md, .int m_dl, .ref mk, .ref ms, .int m_c, .ref mu, .ref mn, .ref mm, .int m_e, .ref mo, .int z.1, .int m_fa, .int m_f, .ref mw, .int m_p, .int m_is])), (mt, .inl (cI, 6000, .inl m_t)), (md, .inl (cI, 12000, .inl m_d)), (mk, .inl (cI, 61, .inl m_k)), (ms, .inl (cI, 61, .inl m_s)), (mu, .inl (cI, 41, .inl m_u)), (mn, .inl (cJ, 41, .inr (.inl m_n))), (mm, .inl (cI, 41, .inl m_m)), (mo, .inl (cI, 14000, .inl z.2)), (mw, .inl (cI, 61, .inl m_w))] 0 0) [(m, .inr (6, [.ref mt, .int m_tl, .ref md, .int m_dl, .ref mk, .ref ms, .int m_c, .ref mu, .ref mn, .ref mm, .int m_e, .ref mo, .int m_ol, .int m_fa, .int m_f, .ref mw, .int m_p, .int m_is])), (mt, .inl (cI, 6000, .inl m_t)), (md, .inl (cI, 12000, .inl m_d)), (mk, .inl (cI, 61, .inl m_k)), (ms, .inl (cI, 61, .inl m_s)), (mu, .inl (cI, 41, .inl m_u)), (mn, .inl (cJ, 41, .inr (.inl m_n))), (mm, .inl (cI, 41, .inl m_m)), (mo, .inl (cI, 14000, .inl m_o)), (mw, .inl (cI, 61, .inl m_w))] 0 0 0 [(0, .ref m), (1, .long a1), (3, .int a3)] []
  refine J_iload_n O (i := 3) (k0 := 3) (pc := 0) 2 rfl rfl dX10_put_0 ?_
  refine J_iconst O (v := 1) (pc := 1) (by decide) dX10_put_1 ?_
  refine J_isub O (pc := 2) dX10_put_2 ?_
  refine J_istore O (i := 4) (pc := 3) [(4, .int (a3 - 1)), (0, .ref m), (1, .long a1), (3, .int a3)] (by decide) rfl dX10_put_3 ?_
  refine J_sub [1, 2, 0] (lv' := [(0, .ref m), (1, .long a1), (4, .int (a3 - 1))]) rfl ?_
  exact wk_X10_put_5 O m mt md mk ms mu mn mm mo mw m_tl m_dl m_c m_e m_fa m_f m_p m_is m_t m_d m_k m_s m_u m_n m_m m_w a1 a3 fu fu (a3 - 1) m_ol m_o hf
theorem in_X10_write_X10 : ∀ w ∈ u_ws RX10 TX10 18, w ∈ wsX10_write := fun _ h => List.mem_cons_of_mem _ (List.mem_append_right _ h)
theorem mb_X10_write_1 : Cond.fieldLink RX10 122 (TX10 12).1 (TX10 12).2.1 (TX10 12).2.2.1 ∈ wsX10_write := by decide +kernel
theorem mb_X10_write_2 : Cond.constantLong RX10 218 1179603533 ∈ wsX10_write := by decide +kernel
theorem hdV_X10_put : yX10_put.cls = RX10 ∧ yX10_put.cls ≠ "java/lang/invoke/MethodHandle" ∧ yX10_put.cls ≠ "java/lang/invoke/VarHandle" ∧ (parseMethodDescriptor yX10_put.desc).map (fun d => d.parameters.length) = some 2 := by decide +kernel
theorem mb_X10_write_3 : Cond.fieldLink RX10 113 (TX10 6).1 (TX10 6).2.1 (TX10 6).2.2.1 ∈ wsX10_write := by decide +kernel
theorem mb_X10_write_4 : Cond.constantLong RX10 224 1229345363 ∈ wsX10_write := by decide +kernel
theorem mb_X10_write_5 : Cond.constantLong RX10 226 1380541560 ∈ wsX10_write := by decide +kernel
theorem mb_X10_write_6 : Cond.fieldLink RX10 119 (TX10 10).1 (TX10 10).2.1 (TX10 10).2.2.1 ∈ wsX10_write := by decide +kernel
theorem mb_X10_write_7 : Cond.fieldLink RX10 16 (TX10 4).1 (TX10 4).2.1 (TX10 4).2.2.1 ∈ wsX10_write := by decide +kernel
theorem mb_X10_write_8 : Cond.fieldLink RX10 19 (TX10 5).1 (TX10 5).2.1 (TX10 5).2.2.1 ∈ wsX10_write := by decide +kernel
theorem mb_X10_write_9 : Cond.fieldLink RX10 13 (TX10 2).1 (TX10 2).2.1 (TX10 2).2.2.1 ∈ wsX10_write := by decide +kernel
theorem mb_X10_write_10 : Cond.fieldLink RX10 22 (TX10 7).1 (TX10 7).2.1 (TX10 7).2.2.1 ∈ wsX10_write := by decide +kernel
theorem mb_X10_write_11 : Cond.fieldLink RX10 25 (TX10 8).1 (TX10 8).2.1 (TX10 8).2.2.1 ∈ wsX10_write := by decide +kernel
theorem mb_X10_write_12 : Cond.fieldLink RX10 29 (TX10 9).1 (TX10 9).2.1 (TX10 9).2.2.1 ∈ wsX10_write := by decide +kernel
abbrev rmX10_write : Room := { frames := 1, cells := 0, slots := 0, locals := 24 }
set_option maxHeartbeats 4000000 in
set_option maxRecDepth 100000 in
theorem wk_X10_write_164 {X : JC} {l : Launch} {D : va_G} {cB cI cJ : ClassId} (O : Jo X (l, D, cB, cI, cJ) cX10_write 4 RX10 wsX10_write rmX10_write (some .int)) (m mt md mk ms mu mn mm mo mw : Nat) (m_tl : Int32) (m_dl : Int32) (m_c : Int32) (m_e : Int32) (m_fa : Int32) (m_f : Int32) (m_p : Int32) (m_is : Int32) (m_t : Nat → Int32) (m_d : Nat → Int32) (m_k : Nat → Int32) (m_s : Nat → Int32) (m_u : Nat → Int32) (m_n : Nat → Int64) (m_m : Nat → Int32) (m_w : Nat → Int32) (fu : Nat) {z : Int32 × Int32 × (Nat → Int32)} (k130 : Int32 → Int32 → Int32 → (Nat → Int32) → Option (Int32 × Int32 × (Nat → Int32))) (hk130 : ∀ (v1 : Int32) (v2 : Int32) (m_ol : Int32) (m_o : Nat → Int32), k130 v1 v2 m_ol m_o = some z → J X 4 (JQi X [(m, .inr (6, [.ref mt, .int m_tl, .ref md, .int m_dl, .ref mk, .ref ms, .int m_c, .ref mu, .ref mn, .ref mm, .int m_e, .ref mo, .int z.2.1, .int m_fa, .int m_f, .ref mw, .int m_p, .int m_is])), (mt, .inl (cI, 6000, .inl m_t)), (md, .inl (cI, 12000, .inl m_d)), (mk, .inl (cI, 61, .inl m_k)), (ms, .inl (cI, 61, .inl m_s)), (mu, .inl (cI, 41, .inl m_u)), (mn, .inl (cJ, 41, .inr (.inl m_n))), (mm, .inl (cI, 41, .inl m_m)), (mo, .inl (cI, 14000, .inl z.2.2)), (mw, .inl (cI, 61, .inl m_w))] z.1 0 0) [(m, .inr (6, [.ref mt, .int m_tl, .ref md, .int m_dl, .ref mk, .ref ms, .int m_c, .ref mu, .ref mn, .ref mm, .int m_e, .ref mo, .int m_ol, .int m_fa, .int m_f, .ref mw, .int m_p, .int m_is])), (mt, .inl (cI, 6000, .inl m_t)), (md, .inl (cI, 12000, .inl m_d)), (mk, .inl (cI, 61, .inl m_k)), (ms, .inl (cI, 61, .inl m_s)), (mu, .inl (cI, 41, .inl m_u)), (mn, .inl (cJ, 41, .inr (.inl m_n))), (mm, .inl (cI, 41, .inl m_m)), (mo, .inl (cI, 14000, .inl m_o)), (mw, .inl (cI, 61, .inl m_w))] 0 0 130 [(0, .ref m), (1, .int v1), (2, .int v2)] []) : ∀ (fn : Nat) (v1 : Int32) (v2 : Int32) (v3 : Int32) (m_ol : Int32) (m_o : Nat → Int32), p_X10_write_164 fu m_c m_e m_d m_k m_s m_u m_n m_m k130 fn v1 v2 v3 m_ol m_o = some z → J X 4 (JQi X [(m, .inr (6, [.ref mt, .int m_tl, .ref md, .int m_dl, .ref mk, .ref ms, .int m_c, .ref mu, .ref mn, .ref mm, .int m_e, .ref mo, .int z.2.1, .int m_fa, .int m_f, .ref mw, .int m_p, .int m_is])), (mt, .inl (cI, 6000, .inl m_t)), (md, .inl (cI, 12000, .inl m_d)), (mk, .inl (cI, 61, .inl m_k)), (ms, .inl (cI, 61, .inl m_s)), (mu, .inl (cI, 41, .inl m_u)), (mn, .inl (cJ, 41, .inr (.inl m_n))), (mm, .inl (cI, 41, .inl m_m)), (mo, .inl (cI, 14000, .inl z.2.2)), (mw, .inl (cI, 61, .inl m_w))] z.1 0 0) [(m, .inr (6, [.ref mt, .int m_tl, .ref md, .int m_dl, .ref mk, .ref ms, .int m_c, .ref mu, .ref mn, .ref mm, .int m_e, .ref mo, .int m_ol, .int m_fa, .int m_f, .ref mw, .int m_p, .int m_is])), (mt, .inl (cI, 6000, .inl m_t)), (md, .inl (cI, 12000, .inl m_d)), (mk, .inl (cI, 61, .inl m_k)), (ms, .inl (cI, 61, .inl m_s)), (mu, .inl (cI, 41, .inl m_u)), (mn, .inl (cJ, 41, .inr (.inl m_n))), (mm, .inl (cI, 41, .inl m_m)), (mo, .inl (cI, 14000, .inl m_o)), (mw, .inl (cI, 61, .inl m_w))] 0 0 164 [(0, .ref m), (1, .int v1), (2, .int v2), (3, .int v3)] [] := by
  intro fn
  induction fn with
  | zero =>
    intro v1 v2 v3 m_ol m_o hf
    rw [p_X10_write_164] at hf
    exact jt_n hf
  | succ fn ih =>
    intro v1 v2 v3 m_ol m_o hf
    rw [p_X10_write_164] at hf
    refine J_iload_n O (i := 3) (k0 := 3) (pc := 164) 3 rfl rfl dX10_write_164 ?_
    refine J_aload_n O (i := 0) (k0 := 0) (pc := 165) 0 rfl rfl dX10_write_165 ?_
    refine J_get O (pc := 166) in_X10_write_X10 0 rfl rfl 5 (by decide) mb_X10_write_8 rfl dX10_write_166 ?_
    refine J_iload_n O (i := 2) (k0 := 2) (pc := 169) 2 rfl rfl dX10_write_169 ?_
    obtain ⟨h170, hf⟩ := jt_g hf
    refine J_iald O (pc := 170) 4 1 rfl rfl h170 dX10_write_170 ?_
    refine J_icmp_ge O (tgt := 194) (pc := 171) dX10_write_171 (by decide) (fun c171 => ?_) (fun c171 => ?_)
    · have hf := jt_t c171 hf
      refine J_iload_n O (i := 1) (k0 := 1) (pc := 194) 1 rfl rfl dX10_write_194 ?_
      refine J_aload_n O (i := 0) (k0 := 0) (pc := 195) 0 rfl rfl dX10_write_195 ?_
      refine J_get O (pc := 196) in_X10_write_X10 0 rfl rfl 5 (by decide) mb_X10_write_8 rfl dX10_write_196 ?_
      refine J_iload_n O (i := 2) (k0 := 2) (pc := 199) 2 rfl rfl dX10_write_199 ?_
      obtain ⟨h200, hf⟩ := jt_g hf
      refine J_iald O (pc := 200) 4 1 rfl rfl h200 dX10_write_200 ?_
      refine J_iadd O (pc := 201) dX10_write_201 ?_
      refine J_istore_n O (i := 1) (k0 := 1) (pc := 202) rfl [(1, .int (v1 + (m_s (Int32.toNatClampNeg v2)))), (0, .ref m), (2, .int v2), (3, .int v3)] (by decide) rfl dX10_write_202 ?_
      refine J_aload_n O (i := 0) (k0 := 0) (pc := 203) 1 rfl rfl dX10_write_203 ?_
      refine J_get O (pc := 204) in_X10_write_X10 0 rfl rfl 5 (by decide) mb_X10_write_8 rfl dX10_write_204 ?_
      refine J_iload_n O (i := 2) (k0 := 2) (pc := 207) 2 rfl rfl dX10_write_207 ?_
      obtain ⟨h208, hf⟩ := jt_g hf
      refine J_iald O (pc := 208) 4 1 rfl rfl h208 dX10_write_208 ?_
      refine J_iconst O (v := 2) (pc := 209) (by decide) dX10_write_209 ?_
      refine J_irem O (pc := 210) (by decide) dX10_write_210 ?_
      refine J_iconst O (v := 1) (pc := 211) (by decide) dX10_write_211 ?_
      refine J_icmp_ne O (tgt := 221) (pc := 212) dX10_write_212 (by decide) (fun c212 => ?_) (fun c212 => ?_)
      · have hf := jt_f c212 hf
        refine J_iinc O (i := 2) (n := 1) (v := v2 + 1) (pc := 221) 2 rfl [(2, .int (v2 + 1)), (1, .int (v1 + (m_s (Int32.toNatClampNeg v2)))), (0, .ref m), (3, .int v3)] (by decide) (congrArg (_ + ·) (by decide)) rfl dX10_write_221 ?_
        refine J_goto O (tgt := 130) (pc := 224) dX10_write_224 (by decide) ?_
        refine J_sub [2, 1, 0] (lv' := [(0, .ref m), (1, .int (v1 + (m_s (Int32.toNatClampNeg v2)))), (2, .int (v2 + 1))]) rfl ?_
        exact hk130 (v1 + (m_s (Int32.toNatClampNeg v2))) (v2 + 1) m_ol m_o hf
      · have hf := jt_t c212 hf
        refine J_aload_n O (i := 0) (k0 := 0) (pc := 215) 1 rfl rfl dX10_write_215 ?_
        refine J_lconst O (v := 0) (pc := 216) (by decide) dX10_write_216 ?_
        refine J_iconst O (v := 1) (pc := 217) (by decide) dX10_write_217 ?_
        obtain ⟨z218, h218, hf⟩ := jt_b hf
        refine J_callVv O (pc := 218) (c_X10_put l D cB cI cJ m mt md mk ms mu mn mm mo mw m_tl m_dl m_c m_e m_ol m_fa m_f m_p m_is m_t m_d m_k m_s m_u m_n m_m m_o m_w 0 1 fu h218) rfl 0 rfl rfl gX10_write_X10_put hdV_X10_put ⟨(Nat.le_of_ble_eq_true rfl), (Nat.le_of_ble_eq_true rfl)⟩ rfl (st := []) rfl (Nat.le_of_ble_eq_true rfl) [0, 1, 2, 3, 4, 5, 6, 7, 8, 9] [] rfl rfl rfl rfl rfl (by decide) [(m, .inr (6, [.ref mt, .int m_tl, .ref md, .int m_dl, .ref mk, .ref ms, .int m_c, .ref mu, .ref mn, .ref mm, .int m_e, .ref mo, .int z218.1, .int m_fa, .int m_f, .ref mw, .int m_p, .int m_is])), (mt, .inl (cI, 6000, .inl m_t)), (md, .inl (cI, 12000, .inl m_d)), (mk, .inl (cI, 61, .inl m_k)), (ms, .inl (cI, 61, .inl m_s)), (mu, .inl (cI, 41, .inl m_u)), (mn, .inl (cJ, 41, .inr (.inl m_n))), (mm, .inl (cI, 41, .inl m_m)), (mo, .inl (cI, 14000, .inl z218.2)), (mw, .inl (cI, 61, .inl m_w))] [0, 1, 2, 3, 4, 5, 6, 7, 8, 9] rfl rfl rfl (0) (0) (Nat.le_of_ble_eq_true rfl) (Nat.le_of_ble_eq_true rfl) ⟨(Nat.le_of_ble_eq_true rfl), (Nat.le_of_ble_eq_true rfl)⟩ dX10_write_218 ?_
        refine J_iinc O (i := 2) (n := 1) (v := v2 + 1) (pc := 221) 2 rfl [(2, .int (v2 + 1)), (1, .int (v1 + (m_s (Int32.toNatClampNeg v2)))), (0, .ref m), (3, .int v3)] (by decide) (congrArg (_ + ·) (by decide)) rfl dX10_write_221 ?_
        refine J_goto O (tgt := 130) (pc := 224) dX10_write_224 (by decide) ?_
        refine J_sub [2, 1, 0] (lv' := [(0, .ref m), (1, .int (v1 + (m_s (Int32.toNatClampNeg v2)))), (2, .int (v2 + 1))]) rfl ?_
        exact hk130 (v1 + (m_s (Int32.toNatClampNeg v2))) (v2 + 1) z218.1 z218.2 hf
    · have hf := jt_f c171 hf
      refine J_aload_n O (i := 0) (k0 := 0) (pc := 174) 0 rfl rfl dX10_write_174 ?_
      refine J_aload_n O (i := 0) (k0 := 0) (pc := 175) 0 rfl rfl dX10_write_175 ?_
      refine J_get O (pc := 176) in_X10_write_X10 0 rfl rfl 2 (by decide) mb_X10_write_9 rfl dX10_write_176 ?_
      refine J_iload_n O (i := 1) (k0 := 1) (pc := 179) 1 rfl rfl dX10_write_179 ?_
      refine J_iload_n O (i := 3) (k0 := 3) (pc := 180) 3 rfl rfl dX10_write_180 ?_
      refine J_iadd O (pc := 181) dX10_write_181 ?_
      obtain ⟨h182, hf⟩ := jt_g hf
      refine J_iald O (pc := 182) 2 1 rfl rfl h182 dX10_write_182 ?_
      refine J_i2l O (pc := 183) dX10_write_183 ?_
      refine J_iconst O (v := 1) (pc := 184) (by decide) dX10_write_184 ?_
      obtain ⟨z185, h185, hf⟩ := jt_b hf
      refine J_callVv O (pc := 185) (c_X10_put l D cB cI cJ m mt md mk ms mu mn mm mo mw m_tl m_dl m_c m_e m_ol m_fa m_f m_p m_is m_t m_d m_k m_s m_u m_n m_m m_o m_w (Int32.toInt64 (m_d (Int32.toNatClampNeg (v1 + v3)))) 1 fu h185) rfl 0 rfl rfl gX10_write_X10_put hdV_X10_put ⟨(Nat.le_of_ble_eq_true rfl), (Nat.le_of_ble_eq_true rfl)⟩ rfl (st := []) rfl (Nat.le_of_ble_eq_true rfl) [0, 1, 2, 3, 4, 5, 6, 7, 8, 9] [] rfl rfl rfl rfl rfl (by decide) [(m, .inr (6, [.ref mt, .int m_tl, .ref md, .int m_dl, .ref mk, .ref ms, .int m_c, .ref mu, .ref mn, .ref mm, .int m_e, .ref mo, .int z185.1, .int m_fa, .int m_f, .ref mw, .int m_p, .int m_is])), (mt, .inl (cI, 6000, .inl m_t)), (md, .inl (cI, 12000, .inl m_d)), (mk, .inl (cI, 61, .inl m_k)), (ms, .inl (cI, 61, .inl m_s)), (mu, .inl (cI, 41, .inl m_u)), (mn, .inl (cJ, 41, .inr (.inl m_n))), (mm, .inl (cI, 41, .inl m_m)), (mo, .inl (cI, 14000, .inl z185.2)), (mw, .inl (cI, 61, .inl m_w))] [0, 1, 2, 3, 4, 5, 6, 7, 8, 9] rfl rfl rfl (0) (0) (Nat.le_of_ble_eq_true rfl) (Nat.le_of_ble_eq_true rfl) ⟨(Nat.le_of_ble_eq_true rfl), (Nat.le_of_ble_eq_true rfl)⟩ dX10_write_185 ?_
      refine J_iinc O (i := 3) (n := 1) (v := v3 + 1) (pc := 188) 3 rfl [(3, .int (v3 + 1)), (0, .ref m), (1, .int v1), (2, .int v2)] (by decide) (congrArg (_ + ·) (by decide)) rfl dX10_write_188 ?_
      refine J_goto O (tgt := 164) (pc := 191) dX10_write_191 (by decide) ?_
      refine J_sub [1, 2, 3, 0] (lv' := [(0, .ref m), (1, .int v1), (2, .int v2), (3, .int (v3 + 1))]) rfl ?_
      exact ih v1 v2 (v3 + 1) z185.1 z185.2 hf
set_option maxHeartbeats 4000000 in
set_option maxRecDepth 100000 in
theorem wk_X10_write_130 {X : JC} {l : Launch} {D : va_G} {cB cI cJ : ClassId} (O : Jo X (l, D, cB, cI, cJ) cX10_write 4 RX10 wsX10_write rmX10_write (some .int)) (m mt md mk ms mu mn mm mo mw : Nat) (m_tl : Int32) (m_dl : Int32) (m_c : Int32) (m_e : Int32) (m_fa : Int32) (m_f : Int32) (m_p : Int32) (m_is : Int32) (m_t : Nat → Int32) (m_d : Nat → Int32) (m_k : Nat → Int32) (m_s : Nat → Int32) (m_u : Nat → Int32) (m_n : Nat → Int64) (m_m : Nat → Int32) (m_w : Nat → Int32) (fu : Nat) {z : Int32 × Int32 × (Nat → Int32)} : ∀ (fn : Nat) (v1 : Int32) (v2 : Int32) (m_ol : Int32) (m_o : Nat → Int32), p_X10_write_130 fu m_c m_e m_d m_k m_s m_u m_n m_m fn v1 v2 m_ol m_o = some z → J X 4 (JQi X [(m, .inr (6, [.ref mt, .int m_tl, .ref md, .int m_dl, .ref mk, .ref ms, .int m_c, .ref mu, .ref mn, .ref mm, .int m_e, .ref mo, .int z.2.1, .int m_fa, .int m_f, .ref mw, .int m_p, .int m_is])), (mt, .inl (cI, 6000, .inl m_t)), (md, .inl (cI, 12000, .inl m_d)), (mk, .inl (cI, 61, .inl m_k)), (ms, .inl (cI, 61, .inl m_s)), (mu, .inl (cI, 41, .inl m_u)), (mn, .inl (cJ, 41, .inr (.inl m_n))), (mm, .inl (cI, 41, .inl m_m)), (mo, .inl (cI, 14000, .inl z.2.2)), (mw, .inl (cI, 61, .inl m_w))] z.1 0 0) [(m, .inr (6, [.ref mt, .int m_tl, .ref md, .int m_dl, .ref mk, .ref ms, .int m_c, .ref mu, .ref mn, .ref mm, .int m_e, .ref mo, .int m_ol, .int m_fa, .int m_f, .ref mw, .int m_p, .int m_is])), (mt, .inl (cI, 6000, .inl m_t)), (md, .inl (cI, 12000, .inl m_d)), (mk, .inl (cI, 61, .inl m_k)), (ms, .inl (cI, 61, .inl m_s)), (mu, .inl (cI, 41, .inl m_u)), (mn, .inl (cJ, 41, .inr (.inl m_n))), (mm, .inl (cI, 41, .inl m_m)), (mo, .inl (cI, 14000, .inl m_o)), (mw, .inl (cI, 61, .inl m_w))] 0 0 130 [(0, .ref m), (1, .int v1), (2, .int v2)] [] := by
  intro fn
  induction fn with
  | zero =>
    intro v1 v2 m_ol m_o hf
    rw [p_X10_write_130] at hf
    exact jt_n hf
  | succ fn ih =>
    intro v1 v2 m_ol m_o hf
    rw [p_X10_write_130] at hf
    refine J_iload_n O (i := 2) (k0 := 2) (pc := 130) 2 rfl rfl dX10_write_130 ?_
    refine J_aload_n O (i := 0) (k0 := 0) (pc := 131) 0 rfl rfl dX10_write_131 ?_
    refine J_get O (pc := 132) in_X10_write_X10 0 rfl rfl 6 (by decide) mb_X10_write_3 rfl dX10_write_132 ?_
    refine J_icmp_ge O (tgt := 227) (pc := 135) dX10_write_135 (by decide) (fun c135 => ?_) (fun c135 => ?_)
    · have hf := jt_t c135 hf
      refine J_aload_n O (i := 0) (k0 := 0) (pc := 227) 0 rfl rfl dX10_write_227 ?_
      refine J_get O (pc := 228) in_X10_write_X10 0 rfl rfl 12 (by decide) mb_X10_write_1 rfl dX10_write_228 ?_
      have e9 := Option.some.inj hf
      subst e9
      exact J_iret O (pc := 231) rfl dX10_write_231
    · have hf := jt_f c135 hf
      refine J_aload_n O (i := 0) (k0 := 0) (pc := 138) 0 rfl rfl dX10_write_138 ?_
      refine J_aload_n O (i := 0) (k0 := 0) (pc := 139) 0 rfl rfl dX10_write_139 ?_
      refine J_get O (pc := 140) in_X10_write_X10 0 rfl rfl 4 (by decide) mb_X10_write_7 rfl dX10_write_140 ?_
      refine J_iload_n O (i := 2) (k0 := 2) (pc := 143) 2 rfl rfl dX10_write_143 ?_
      obtain ⟨h144, hf⟩ := jt_g hf
      refine J_iald O (pc := 144) 3 1 rfl rfl h144 dX10_write_144 ?_
      refine J_i2l O (pc := 145) dX10_write_145 ?_
      refine J_iconst O (v := 4) (pc := 146) (by decide) dX10_write_146 ?_
      obtain ⟨z147, h147, hf⟩ := jt_b hf
      refine J_callVv O (pc := 147) (c_X10_put l D cB cI cJ m mt md mk ms mu mn mm mo mw m_tl m_dl m_c m_e m_ol m_fa m_f m_p m_is m_t m_d m_k m_s m_u m_n m_m m_o m_w (Int32.toInt64 (m_k (Int32.toNatClampNeg v2))) 4 fu h147) rfl 0 rfl rfl gX10_write_X10_put hdV_X10_put ⟨(Nat.le_of_ble_eq_true rfl), (Nat.le_of_ble_eq_true rfl)⟩ rfl (st := []) rfl (Nat.le_of_ble_eq_true rfl) [0, 1, 2, 3, 4, 5, 6, 7, 8, 9] [] rfl rfl rfl rfl rfl (by decide) [(m, .inr (6, [.ref mt, .int m_tl, .ref md, .int m_dl, .ref mk, .ref ms, .int m_c, .ref mu, .ref mn, .ref mm, .int m_e, .ref mo, .int z147.1, .int m_fa, .int m_f, .ref mw, .int m_p, .int m_is])), (mt, .inl (cI, 6000, .inl m_t)), (md, .inl (cI, 12000, .inl m_d)), (mk, .inl (cI, 61, .inl m_k)), (ms, .inl (cI, 61, .inl m_s)), (mu, .inl (cI, 41, .inl m_u)), (mn, .inl (cJ, 41, .inr (.inl m_n))), (mm, .inl (cI, 41, .inl m_m)), (mo, .inl (cI, 14000, .inl z147.2)), (mw, .inl (cI, 61, .inl m_w))] [0, 1, 2, 3, 4, 5, 6, 7, 8, 9] rfl rfl rfl (0) (0) (Nat.le_of_ble_eq_true rfl) (Nat.le_of_ble_eq_true rfl) ⟨(Nat.le_of_ble_eq_true rfl), (Nat.le_of_ble_eq_true rfl)⟩ dX10_write_147 ?_
      refine J_aload_n O (i := 0) (k0 := 0) (pc := 150) 0 rfl rfl dX10_write_150 ?_
      refine J_aload_n O (i := 0) (k0 := 0) (pc := 151) 0 rfl rfl dX10_write_151 ?_
      refine J_get O (pc := 152) in_X10_write_X10 0 rfl rfl 5 (by decide) mb_X10_write_8 rfl dX10_write_152 ?_
      refine J_iload_n O (i := 2) (k0 := 2) (pc := 155) 2 rfl rfl dX10_write_155 ?_
      obtain ⟨h156, hf⟩ := jt_g hf
      refine J_iald O (pc := 156) 4 1 rfl rfl h156 dX10_write_156 ?_
      refine J_i2l O (pc := 157) dX10_write_157 ?_
      refine J_iconst O (v := 4) (pc := 158) (by decide) dX10_write_158 ?_
      obtain ⟨z159, h159, hf⟩ := jt_b hf
      refine J_callVv O (pc := 159) (c_X10_put l D cB cI cJ m mt md mk ms mu mn mm mo mw m_tl m_dl m_c m_e z147.1 m_fa m_f m_p m_is m_t m_d m_k m_s m_u m_n m_m z147.2 m_w (Int32.toInt64 (m_s (Int32.toNatClampNeg v2))) 4 fu h159) rfl 0 rfl rfl gX10_write_X10_put hdV_X10_put ⟨(Nat.le_of_ble_eq_true rfl), (Nat.le_of_ble_eq_true rfl)⟩ rfl (st := []) rfl (Nat.le_of_ble_eq_true rfl) [0, 1, 2, 3, 4, 5, 6, 7, 8, 9] [] rfl rfl rfl rfl rfl (by decide) [(m, .inr (6, [.ref mt, .int m_tl, .ref md, .int m_dl, .ref mk, .ref ms, .int m_c, .ref mu, .ref mn, .ref mm, .int m_e, .ref mo, .int z159.1, .int m_fa, .int m_f, .ref mw, .int m_p, .int m_is])), (mt, .inl (cI, 6000, .inl m_t)), (md, .inl (cI, 12000, .inl m_d)), (mk, .inl (cI, 61, .inl m_k)), (ms, .inl (cI, 61, .inl m_s)), (mu, .inl (cI, 41, .inl m_u)), (mn, .inl (cJ, 41, .inr (.inl m_n))), (mm, .inl (cI, 41, .inl m_m)), (mo, .inl (cI, 14000, .inl z159.2)), (mw, .inl (cI, 61, .inl m_w))] [0, 1, 2, 3, 4, 5, 6, 7, 8, 9] rfl rfl rfl (0) (0) (Nat.le_of_ble_eq_true rfl) (Nat.le_of_ble_eq_true rfl) ⟨(Nat.le_of_ble_eq_true rfl), (Nat.le_of_ble_eq_true rfl)⟩ dX10_write_159 ?_
      refine J_iconst O (v := 0) (pc := 162) (by decide) dX10_write_162 ?_
      refine J_istore_n O (i := 3) (k0 := 3) (pc := 163) rfl [(3, .int 0), (0, .ref m), (1, .int v1), (2, .int v2)] (by decide) rfl dX10_write_163 ?_
      refine J_sub [1, 2, 3, 0] (lv' := [(0, .ref m), (1, .int v1), (2, .int v2), (3, .int 0)]) rfl ?_
      exact wk_X10_write_164 O m mt md mk ms mu mn mm mo mw m_tl m_dl m_c m_e m_fa m_f m_p m_is m_t m_d m_k m_s m_u m_n m_m m_w fu _ ih fu v1 v2 0 z159.1 z159.2 hf
set_option maxHeartbeats 4000000 in
set_option maxRecDepth 100000 in
theorem wk_X10_write_73 {X : JC} {l : Launch} {D : va_G} {cB cI cJ : ClassId} (O : Jo X (l, D, cB, cI, cJ) cX10_write 4 RX10 wsX10_write rmX10_write (some .int)) (m mt md mk ms mu mn mm mo mw : Nat) (m_tl : Int32) (m_dl : Int32) (m_c : Int32) (m_e : Int32) (m_fa : Int32) (m_f : Int32) (m_p : Int32) (m_is : Int32) (m_t : Nat → Int32) (m_d : Nat → Int32) (m_k : Nat → Int32) (m_s : Nat → Int32) (m_u : Nat → Int32) (m_n : Nat → Int64) (m_m : Nat → Int32) (m_w : Nat → Int32) (fu : Nat) {z : Int32 × Int32 × (Nat → Int32)} : ∀ (fn : Nat) (v1 : Int32) (m_ol : Int32) (m_o : Nat → Int32), p_X10_write_73 fu m_c m_e m_d m_k m_s m_u m_n m_m fn v1 m_ol m_o = some z → J X 4 (JQi X [(m, .inr (6, [.ref mt, .int m_tl, .ref md, .int m_dl, .ref mk, .ref ms, .int m_c, .ref mu, .ref mn, .ref mm, .int m_e, .ref mo, .int z.2.1, .int m_fa, .int m_f, .ref mw, .int m_p, .int m_is])), (mt, .inl (cI, 6000, .inl m_t)), (md, .inl (cI, 12000, .inl m_d)), (mk, .inl (cI, 61, .inl m_k)), (ms, .inl (cI, 61, .inl m_s)), (mu, .inl (cI, 41, .inl m_u)), (mn, .inl (cJ, 41, .inr (.inl m_n))), (mm, .inl (cI, 41, .inl m_m)), (mo, .inl (cI, 14000, .inl z.2.2)), (mw, .inl (cI, 61, .inl m_w))] z.1 0 0) [(m, .inr (6, [.ref mt, .int m_tl, .ref md, .int m_dl, .ref mk, .ref ms, .int m_c, .ref mu, .ref mn, .ref mm, .int m_e, .ref mo, .int m_ol, .int m_fa, .int m_f, .ref mw, .int m_p, .int m_is])), (mt, .inl (cI, 6000, .inl m_t)), (md, .inl (cI, 12000, .inl m_d)), (mk, .inl (cI, 61, .inl m_k)), (ms, .inl (cI, 61, .inl m_s)), (mu, .inl (cI, 41, .inl m_u)), (mn, .inl (cJ, 41, .inr (.inl m_n))), (mm, .inl (cI, 41, .inl m_m)), (mo, .inl (cI, 14000, .inl m_o)), (mw, .inl (cI, 61, .inl m_w))] 0 0 73 [(0, .ref m), (1, .int v1)] [] := by
  intro fn
  induction fn with
  | zero =>
    intro v1 m_ol m_o hf
    rw [p_X10_write_73] at hf
    exact jt_n hf
  | succ fn ih =>
    intro v1 m_ol m_o hf
    rw [p_X10_write_73] at hf
    refine J_iload_n O (i := 1) (k0 := 1) (pc := 73) 1 rfl rfl dX10_write_73 ?_
    refine J_aload_n O (i := 0) (k0 := 0) (pc := 74) 0 rfl rfl dX10_write_74 ?_
    refine J_get O (pc := 75) in_X10_write_X10 0 rfl rfl 10 (by decide) mb_X10_write_6 rfl dX10_write_75 ?_
    refine J_icmp_ge O (tgt := 126) (pc := 78) dX10_write_78 (by decide) (fun c78 => ?_) (fun c78 => ?_)
    · have hf := jt_t c78 hf
      refine J_iconst O (v := 0) (pc := 126) (by decide) dX10_write_126 ?_
      refine J_istore_n O (i := 1) (k0 := 1) (pc := 127) rfl [(1, .int 0), (0, .ref m)] (by decide) rfl dX10_write_127 ?_
      refine J_iconst O (v := 0) (pc := 128) (by decide) dX10_write_128 ?_
      refine J_istore_n O (i := 2) (k0 := 2) (pc := 129) rfl [(2, .int 0), (1, .int 0), (0, .ref m)] (by decide) rfl dX10_write_129 ?_
      refine J_sub [2, 1, 0] (lv' := [(0, .ref m), (1, .int 0), (2, .int 0)]) rfl ?_
      exact wk_X10_write_130 O m mt md mk ms mu mn mm mo mw m_tl m_dl m_c m_e m_fa m_f m_p m_is m_t m_d m_k m_s m_u m_n m_m m_w fu fu 0 0 m_ol m_o hf
    · have hf := jt_f c78 hf
      refine J_aload_n O (i := 0) (k0 := 0) (pc := 81) 0 rfl rfl dX10_write_81 ?_
      refine J_aload_n O (i := 0) (k0 := 0) (pc := 82) 0 rfl rfl dX10_write_82 ?_
      refine J_get O (pc := 83) in_X10_write_X10 0 rfl rfl 7 (by decide) mb_X10_write_10 rfl dX10_write_83 ?_
      refine J_iload_n O (i := 1) (k0 := 1) (pc := 86) 1 rfl rfl dX10_write_86 ?_
      obtain ⟨h87, hf⟩ := jt_g hf
      refine J_iald O (pc := 87) 5 1 rfl rfl h87 dX10_write_87 ?_
      refine J_i2l O (pc := 88) dX10_write_88 ?_
      refine J_iconst O (v := 4) (pc := 89) (by decide) dX10_write_89 ?_
      obtain ⟨z90, h90, hf⟩ := jt_b hf
      refine J_callVv O (pc := 90) (c_X10_put l D cB cI cJ m mt md mk ms mu mn mm mo mw m_tl m_dl m_c m_e m_ol m_fa m_f m_p m_is m_t m_d m_k m_s m_u m_n m_m m_o m_w (Int32.toInt64 (m_u (Int32.toNatClampNeg v1))) 4 fu h90) rfl 0 rfl rfl gX10_write_X10_put hdV_X10_put ⟨(Nat.le_of_ble_eq_true rfl), (Nat.le_of_ble_eq_true rfl)⟩ rfl (st := []) rfl (Nat.le_of_ble_eq_true rfl) [0, 1, 2, 3, 4, 5, 6, 7, 8, 9] [] rfl rfl rfl rfl rfl (by decide) [(m, .inr (6, [.ref mt, .int m_tl, .ref md, .int m_dl, .ref mk, .ref ms, .int m_c, .ref mu, .ref mn, .ref mm, .int m_e, .ref mo, .int z90.1, .int m_fa, .int m_f, .ref mw, .int m_p, .int m_is])), (mt, .inl (cI, 6000, .inl m_t)), (md, .inl (cI, 12000, .inl m_d)), (mk, .inl (cI, 61, .inl m_k)), (ms, .inl (cI, 61, .inl m_s)), (mu, .inl (cI, 41, .inl m_u)), (mn, .inl (cJ, 41, .inr (.inl m_n))), (mm, .inl (cI, 41, .inl m_m)), (mo, .inl (cI, 14000, .inl z90.2)), (mw, .inl (cI, 61, .inl m_w))] [0, 1, 2, 3, 4, 5, 6, 7, 8, 9] rfl rfl rfl (0) (0) (Nat.le_of_ble_eq_true rfl) (Nat.le_of_ble_eq_true rfl) ⟨(Nat.le_of_ble_eq_true rfl), (Nat.le_of_ble_eq_true rfl)⟩ dX10_write_90 ?_
      refine J_aload_n O (i := 0) (k0 := 0) (pc := 93) 0 rfl rfl dX10_write_93 ?_
      refine J_aload_n O (i := 0) (k0 := 0) (pc := 94) 0 rfl rfl dX10_write_94 ?_
      refine J_get O (pc := 95) in_X10_write_X10 0 rfl rfl 8 (by decide) mb_X10_write_11 rfl dX10_write_95 ?_
      refine J_iload_n O (i := 1) (k0 := 1) (pc := 98) 1 rfl rfl dX10_write_98 ?_
      obtain ⟨h99, hf⟩ := jt_g hf
      refine J_lald O (pc := 99) 6 2 rfl rfl h99 dX10_write_99 ?_
      refine J_iconst O (v := 4) (pc := 100) (by decide) dX10_write_100 ?_
      obtain ⟨z101, h101, hf⟩ := jt_b hf
      refine J_callVv O (pc := 101) (c_X10_put l D cB cI cJ m mt md mk ms mu mn mm mo mw m_tl m_dl m_c m_e z90.1 m_fa m_f m_p m_is m_t m_d m_k m_s m_u m_n m_m z90.2 m_w (m_n (Int32.toNatClampNeg v1)) 4 fu h101) rfl 0 rfl rfl gX10_write_X10_put hdV_X10_put ⟨(Nat.le_of_ble_eq_true rfl), (Nat.le_of_ble_eq_true rfl)⟩ rfl (st := []) rfl (Nat.le_of_ble_eq_true rfl) [0, 1, 2, 3, 4, 5, 6, 7, 8, 9] [] rfl rfl rfl rfl rfl (by decide) [(m, .inr (6, [.ref mt, .int m_tl, .ref md, .int m_dl, .ref mk, .ref ms, .int m_c, .ref mu, .ref mn, .ref mm, .int m_e, .ref mo, .int z101.1, .int m_fa, .int m_f, .ref mw, .int m_p, .int m_is])), (mt, .inl (cI, 6000, .inl m_t)), (md, .inl (cI, 12000, .inl m_d)), (mk, .inl (cI, 61, .inl m_k)), (ms, .inl (cI, 61, .inl m_s)), (mu, .inl (cI, 41, .inl m_u)), (mn, .inl (cJ, 41, .inr (.inl m_n))), (mm, .inl (cI, 41, .inl m_m)), (mo, .inl (cI, 14000, .inl z101.2)), (mw, .inl (cI, 61, .inl m_w))] [0, 1, 2, 3, 4, 5, 6, 7, 8, 9] rfl rfl rfl (0) (0) (Nat.le_of_ble_eq_true rfl) (Nat.le_of_ble_eq_true rfl) ⟨(Nat.le_of_ble_eq_true rfl), (Nat.le_of_ble_eq_true rfl)⟩ dX10_write_101 ?_
      refine J_aload_n O (i := 0) (k0 := 0) (pc := 104) 0 rfl rfl dX10_write_104 ?_
      refine J_aload_n O (i := 0) (k0 := 0) (pc := 105) 0 rfl rfl dX10_write_105 ?_
      refine J_aload_n O (i := 0) (k0 := 0) (pc := 106) 0 rfl rfl dX10_write_106 ?_
      refine J_get O (pc := 107) in_X10_write_X10 0 rfl rfl 9 (by decide) mb_X10_write_12 rfl dX10_write_107 ?_
      refine J_iload_n O (i := 1) (k0 := 1) (pc := 110) 1 rfl rfl dX10_write_110 ?_
      obtain ⟨h111, hf⟩ := jt_g hf
      refine J_iald O (pc := 111) 7 1 rfl rfl h111 dX10_write_111 ?_
      obtain ⟨z112, h112, hf⟩ := jt_b hf
      refine J_callVi O (pc := 112) (c_X10_placeOf l D cB cI cJ m mt md mk ms mu mn mm mo mw m_tl m_dl m_c m_e z101.1 m_fa m_f m_p m_is m_t m_d m_k m_s m_u m_n m_m z101.2 m_w (m_m (Int32.toNatClampNeg v1)) fu h112) rfl 0 rfl rfl gX10_write_X10_placeOf hdV_X10_placeOf ⟨(Nat.le_of_ble_eq_true rfl), (Nat.le_of_ble_eq_true rfl)⟩ rfl (st := [.ref m]) rfl (Nat.le_of_ble_eq_true rfl) [0, 1, 2, 3, 4, 5, 6, 7, 8, 9] [] rfl rfl rfl rfl rfl (by decide) [(m, .inr (6, [.ref mt, .int m_tl, .ref md, .int m_dl, .ref mk, .ref ms, .int m_c, .ref mu, .ref mn, .ref mm, .int m_e, .ref mo, .int z101.1, .int m_fa, .int m_f, .ref mw, .int m_p, .int m_is])), (mt, .inl (cI, 6000, .inl m_t)), (md, .inl (cI, 12000, .inl m_d)), (mk, .inl (cI, 61, .inl m_k)), (ms, .inl (cI, 61, .inl m_s)), (mu, .inl (cI, 41, .inl m_u)), (mn, .inl (cJ, 41, .inr (.inl m_n))), (mm, .inl (cI, 41, .inl m_m)), (mo, .inl (cI, 14000, .inl z101.2)), (mw, .inl (cI, 61, .inl m_w))] [0, 1, 2, 3, 4, 5, 6, 7, 8, 9] rfl rfl rfl (0) (0) (Nat.le_of_ble_eq_true rfl) (Nat.le_of_ble_eq_true rfl) ⟨(Nat.le_of_ble_eq_true rfl), (Nat.le_of_ble_eq_true rfl)⟩ dX10_write_112 ?_
      refine J_i2l O (pc := 115) dX10_write_115 ?_
      refine J_iconst O (v := 4) (pc := 116) (by decide) dX10_write_116 ?_
      obtain ⟨z117, h117, hf⟩ := jt_b hf
      refine J_callVv O (pc := 117) (c_X10_put l D cB cI cJ m mt md mk ms mu mn mm mo mw m_tl m_dl m_c m_e z101.1 m_fa m_f m_p m_is m_t m_d m_k m_s m_u m_n m_m z101.2 m_w (Int32.toInt64 z112) 4 fu h117) rfl 0 rfl rfl gX10_write_X10_put hdV_X10_put ⟨(Nat.le_of_ble_eq_true rfl), (Nat.le_of_ble_eq_true rfl)⟩ rfl (st := []) rfl (Nat.le_of_ble_eq_true rfl) [0, 1, 2, 3, 4, 5, 6, 7, 8, 9] [] rfl rfl rfl rfl rfl (by decide) [(m, .inr (6, [.ref mt, .int m_tl, .ref md, .int m_dl, .ref mk, .ref ms, .int m_c, .ref mu, .ref mn, .ref mm, .int m_e, .ref mo, .int z117.1, .int m_fa, .int m_f, .ref mw, .int m_p, .int m_is])), (mt, .inl (cI, 6000, .inl m_t)), (md, .inl (cI, 12000, .inl m_d)), (mk, .inl (cI, 61, .inl m_k)), (ms, .inl (cI, 61, .inl m_s)), (mu, .inl (cI, 41, .inl m_u)), (mn, .inl (cJ, 41, .inr (.inl m_n))), (mm, .inl (cI, 41, .inl m_m)), (mo, .inl (cI, 14000, .inl z117.2)), (mw, .inl (cI, 61, .inl m_w))] [0, 1, 2, 3, 4, 5, 6, 7, 8, 9] rfl rfl rfl (0) (0) (Nat.le_of_ble_eq_true rfl) (Nat.le_of_ble_eq_true rfl) ⟨(Nat.le_of_ble_eq_true rfl), (Nat.le_of_ble_eq_true rfl)⟩ dX10_write_117 ?_
      refine J_iinc O (i := 1) (n := 1) (v := v1 + 1) (pc := 120) 1 rfl [(1, .int (v1 + 1)), (0, .ref m)] (by decide) (congrArg (_ + ·) (by decide)) rfl dX10_write_120 ?_
      refine J_goto O (tgt := 73) (pc := 123) dX10_write_123 (by decide) ?_
      refine J_sub [1, 0] (lv' := [(0, .ref m), (1, .int (v1 + 1))]) rfl ?_
      exact ih (v1 + 1) z117.1 z117.2 hf
set_option maxHeartbeats 4000000 in
set_option maxRecDepth 100000 in
theorem c_X10_write (l : Launch) (D : va_G) (cB cI cJ : ClassId) (m mt md mk ms mu mn mm mo mw : Nat) (m_tl : Int32) (m_dl : Int32) (m_c : Int32) (m_e : Int32) (m_ol : Int32) (m_fa : Int32) (m_f : Int32) (m_p : Int32) (m_is : Int32) (m_t : Nat → Int32) (m_d : Nat → Int32) (m_k : Nat → Int32) (m_s : Nat → Int32) (m_u : Nat → Int32) (m_n : Nat → Int64) (m_m : Nat → Int32) (m_o : Nat → Int32) (m_w : Nat → Int32) (fu : Nat) {z : Int32 × Int32 × (Nat → Int32)} (hf : p_X10_write fu m_c m_e m_ol m_d m_k m_s m_u m_n m_m m_o = some z) : Ci (l, D, cB, cI, cJ) yX10_write wsX10_write rmX10_write [.ref m] [(m, .inr (6, [.ref mt, .int m_tl, .ref md, .int m_dl, .ref mk, .ref ms, .int m_c, .ref mu, .ref mn, .ref mm, .int m_e, .ref mo, .int m_ol, .int m_fa, .int m_f, .ref mw, .int m_p, .int m_is])), (mt, .inl (cI, 6000, .inl m_t)), (md, .inl (cI, 12000, .inl m_d)), (mk, .inl (cI, 61, .inl m_k)), (ms, .inl (cI, 61, .inl m_s)), (mu, .inl (cI, 41, .inl m_u)), (mn, .inl (cJ, 41, .inr (.inl m_n))), (mm, .inl (cI, 41, .inl m_m)), (mo, .inl (cI, 14000, .inl m_o)), (mw, .inl (cI, 61, .inl m_w))] [(m, .inr (6, [.ref mt, .int m_tl, .ref md, .int m_dl, .ref mk, .ref ms, .int m_c, .ref mu, .ref mn, .ref mm, .int m_e, .ref mo, .int z.2.1, .int m_fa, .int m_f, .ref mw, .int m_p, .int m_is])), (mt, .inl (cI, 6000, .inl m_t)), (md, .inl (cI, 12000, .inl m_d)), (mk, .inl (cI, 61, .inl m_k)), (ms, .inl (cI, 61, .inl m_s)), (mu, .inl (cI, 41, .inl m_u)), (mn, .inl (cJ, 41, .inr (.inl m_n))), (mm, .inl (cI, 41, .inl m_m)), (mo, .inl (cI, 14000, .inl z.2.2)), (mw, .inl (cI, 61, .inl m_w))] z.1 := by
  refine Ci_of (cc := cX10_write) (nL := 4) (own := RX10) (ret := (some .int)) (by decide) rfl rfl (Nat.le_of_ble_eq_true rfl) (fun X O hnm0 => ?_)
  rw [p_X10_write] at hf
  show J X 4 (JQi X [(m, .inr (6, [.ref mt, .int m_tl, .ref md, .int m_dl, .ref mk, .ref ms, .int m_c, .ref mu, .ref mn, .ref mm, .int m_e, .ref mo, .int z.2.1, .int m_fa, .int m_f, .ref mw, .int m_p, .int m_is])), (mt, .inl (cI, 6000, .inl m_t)), (md, .inl (cI, 12000, .inl m_d)), (mk, .inl (cI, 61, .inl m_k)), (ms, .inl (cI, 61, .inl m_s)), (mu, .inl (cI, 41, .inl m_u)), (mn, .inl (cJ, 41, .inr (.inl m_n))), (mm, .inl (cI, 41, .inl m_m)), (mo, .inl (cI, 14000, .inl z.2.2)), (mw, .inl (cI, 61, .inl m_w))] z.1 0 0) [(m, .inr (6, [.ref mt, .int m_tl, .ref md, .int m_dl, .ref mk, .ref ms, .int m_c, .ref mu, .ref mn, .ref mm, .int m_e, .ref mo, .int m_ol, .int m_fa, .int m_f, .ref mw, .int m_p, .int m_is])), (mt, .inl (cI, 6000, .inl m_t)), (md, .inl (cI, 12000, .inl m_d)), (mk, .inl (cI, 61, .inl m_k)), (ms, .inl (cI, 61, .inl m_s)), (mu, .inl (cI, 41, .inl m_u)), (mn, .inl (cJ, 41, .inr (.inl m_n))), (mm, .inl (cI, 41, .inl m_m)), (mo, .inl (cI, 14000, .inl m_o)), (mw, .inl (cI, 61, .inl m_w))] 0 0 0 [(0, .ref m)] []
  refine J_aload_n O (i := 0) (k0 := 0) (pc := 0) 0 rfl rfl dX10_write_0 ?_
  refine J_iconst O (v := 0) (pc := 1) (by decide) dX10_write_1 ?_
  refine J_put O (pc := 2) in_X10_write_X10 tyX10 tyX10_ok nmX10 0 rfl rfl 12 (by decide) mb_X10_write_1 rfl rfl rfl (Nat.le_of_ble_eq_true rfl) [(m, .inr (6, [.ref mt, .int m_tl, .ref md, .int m_dl, .ref mk, .ref ms, .int m_c, .ref mu, .ref mn, .ref mm, .int m_e, .ref mo, .int 0, .int m_fa, .int m_f, .ref mw, .int m_p, .int m_is])), (mt, .inl (cI, 6000, .inl m_t)), (md, .inl (cI, 12000, .inl m_d)), (mk, .inl (cI, 61, .inl m_k)), (ms, .inl (cI, 61, .inl m_s)), (mu, .inl (cI, 41, .inl m_u)), (mn, .inl (cJ, 41, .inr (.inl m_n))), (mm, .inl (cI, 41, .inl m_m)), (mo, .inl (cI, 14000, .inl m_o)), (mw, .inl (cI, 61, .inl m_w))] rfl dX10_write_2 ?_
  refine J_aload_n O (i := 0) (k0 := 0) (pc := 5) 0 rfl rfl dX10_write_5 ?_
  refine J_ldc2 O (pc := 6) mb_X10_write_2 dX10_write_6 ?_
  refine J_iconst O (v := 4) (pc := 9) (by decide) dX10_write_9 ?_
  obtain ⟨z10, h10, hf⟩ := jt_b hf
  refine J_callVv O (pc := 10) (c_X10_put l D cB cI cJ m mt md mk ms mu mn mm mo mw m_tl m_dl m_c m_e 0 m_fa m_f m_p m_is m_t m_d m_k m_s m_u m_n m_m m_o m_w 1179603533 4 fu h10) rfl 0 rfl rfl gX10_write_X10_put hdV_X10_put ⟨(Nat.le_of_ble_eq_true rfl), (Nat.le_of_ble_eq_true rfl)⟩ rfl (st := []) rfl (Nat.le_of_ble_eq_true rfl) [0, 1, 2, 3, 4, 5, 6, 7, 8, 9] [] rfl rfl rfl rfl rfl (by decide) [(m, .inr (6, [.ref mt, .int m_tl, .ref md, .int m_dl, .ref mk, .ref ms, .int m_c, .ref mu, .ref mn, .ref mm, .int m_e, .ref mo, .int z10.1, .int m_fa, .int m_f, .ref mw, .int m_p, .int m_is])), (mt, .inl (cI, 6000, .inl m_t)), (md, .inl (cI, 12000, .inl m_d)), (mk, .inl (cI, 61, .inl m_k)), (ms, .inl (cI, 61, .inl m_s)), (mu, .inl (cI, 41, .inl m_u)), (mn, .inl (cJ, 41, .inr (.inl m_n))), (mm, .inl (cI, 41, .inl m_m)), (mo, .inl (cI, 14000, .inl z10.2)), (mw, .inl (cI, 61, .inl m_w))] [0, 1, 2, 3, 4, 5, 6, 7, 8, 9] rfl rfl rfl (0) (0) (Nat.le_of_ble_eq_true rfl) (Nat.le_of_ble_eq_true rfl) ⟨(Nat.le_of_ble_eq_true rfl), (Nat.le_of_ble_eq_true rfl)⟩ dX10_write_10 ?_
  refine J_aload_n O (i := 0) (k0 := 0) (pc := 13) 0 rfl rfl dX10_write_13 ?_
  refine J_aload_n O (i := 0) (k0 := 0) (pc := 14) 0 rfl rfl dX10_write_14 ?_
  refine J_aload_n O (i := 0) (k0 := 0) (pc := 15) 0 rfl rfl dX10_write_15 ?_
  refine J_get O (pc := 16) in_X10_write_X10 0 rfl rfl 6 (by decide) mb_X10_write_3 rfl dX10_write_16 ?_
  obtain ⟨z19, h19, hf⟩ := jt_b hf
  refine J_callVi O (pc := 19) (c_X10_placeOf l D cB cI cJ m mt md mk ms mu mn mm mo mw m_tl m_dl m_c m_e z10.1 m_fa m_f m_p m_is m_t m_d m_k m_s m_u m_n m_m z10.2 m_w m_c fu h19) rfl 0 rfl rfl gX10_write_X10_placeOf hdV_X10_placeOf ⟨(Nat.le_of_ble_eq_true rfl), (Nat.le_of_ble_eq_true rfl)⟩ rfl (st := [.ref m]) rfl (Nat.le_of_ble_eq_true rfl) [0, 1, 2, 3, 4, 5, 6, 7, 8, 9] [] rfl rfl rfl rfl rfl (by decide) [(m, .inr (6, [.ref mt, .int m_tl, .ref md, .int m_dl, .ref mk, .ref ms, .int m_c, .ref mu, .ref mn, .ref mm, .int m_e, .ref mo, .int z10.1, .int m_fa, .int m_f, .ref mw, .int m_p, .int m_is])), (mt, .inl (cI, 6000, .inl m_t)), (md, .inl (cI, 12000, .inl m_d)), (mk, .inl (cI, 61, .inl m_k)), (ms, .inl (cI, 61, .inl m_s)), (mu, .inl (cI, 41, .inl m_u)), (mn, .inl (cJ, 41, .inr (.inl m_n))), (mm, .inl (cI, 41, .inl m_m)), (mo, .inl (cI, 14000, .inl z10.2)), (mw, .inl (cI, 61, .inl m_w))] [0, 1, 2, 3, 4, 5, 6, 7, 8, 9] rfl rfl rfl (0) (0) (Nat.le_of_ble_eq_true rfl) (Nat.le_of_ble_eq_true rfl) ⟨(Nat.le_of_ble_eq_true rfl), (Nat.le_of_ble_eq_true rfl)⟩ dX10_write_19 ?_
  refine J_bipush O (v := 8) (pc := 22) (by decide) dX10_write_22 ?_
  refine J_isub O (pc := 24) dX10_write_24 ?_
  refine J_i2l O (pc := 25) dX10_write_25 ?_
  refine J_iconst O (v := 4) (pc := 26) (by decide) dX10_write_26 ?_
  obtain ⟨z27, h27, hf⟩ := jt_b hf
  refine J_callVv O (pc := 27) (c_X10_put l D cB cI cJ m mt md mk ms mu mn mm mo mw m_tl m_dl m_c m_e z10.1 m_fa m_f m_p m_is m_t m_d m_k m_s m_u m_n m_m z10.2 m_w (Int32.toInt64 (z19 - 8)) 4 fu h27) rfl 0 rfl rfl gX10_write_X10_put hdV_X10_put ⟨(Nat.le_of_ble_eq_true rfl), (Nat.le_of_ble_eq_true rfl)⟩ rfl (st := []) rfl (Nat.le_of_ble_eq_true rfl) [0, 1, 2, 3, 4, 5, 6, 7, 8, 9] [] rfl rfl rfl rfl rfl (by decide) [(m, .inr (6, [.ref mt, .int m_tl, .ref md, .int m_dl, .ref mk, .ref ms, .int m_c, .ref mu, .ref mn, .ref mm, .int m_e, .ref mo, .int z27.1, .int m_fa, .int m_f, .ref mw, .int m_p, .int m_is])), (mt, .inl (cI, 6000, .inl m_t)), (md, .inl (cI, 12000, .inl m_d)), (mk, .inl (cI, 61, .inl m_k)), (ms, .inl (cI, 61, .inl m_s)), (mu, .inl (cI, 41, .inl m_u)), (mn, .inl (cJ, 41, .inr (.inl m_n))), (mm, .inl (cI, 41, .inl m_m)), (mo, .inl (cI, 14000, .inl z27.2)), (mw, .inl (cI, 61, .inl m_w))] [0, 1, 2, 3, 4, 5, 6, 7, 8, 9] rfl rfl rfl (0) (0) (Nat.le_of_ble_eq_true rfl) (Nat.le_of_ble_eq_true rfl) ⟨(Nat.le_of_ble_eq_true rfl), (Nat.le_of_ble_eq_true rfl)⟩ dX10_write_27 ?_
  refine J_aload_n O (i := 0) (k0 := 0) (pc := 30) 0 rfl rfl dX10_write_30 ?_
  refine J_ldc2 O (pc := 31) mb_X10_write_4 dX10_write_31 ?_
  refine J_iconst O (v := 4) (pc := 34) (by decide) dX10_write_34 ?_
  obtain ⟨z35, h35, hf⟩ := jt_b hf
  refine J_callVv O (pc := 35) (c_X10_put l D cB cI cJ m mt md mk ms mu mn mm mo mw m_tl m_dl m_c m_e z27.1 m_fa m_f m_p m_is m_t m_d m_k m_s m_u m_n m_m z27.2 m_w 1229345363 4 fu h35) rfl 0 rfl rfl gX10_write_X10_put hdV_X10_put ⟨(Nat.le_of_ble_eq_true rfl), (Nat.le_of_ble_eq_true rfl)⟩ rfl (st := []) rfl (Nat.le_of_ble_eq_true rfl) [0, 1, 2, 3, 4, 5, 6, 7, 8, 9] [] rfl rfl rfl rfl rfl (by decide) [(m, .inr (6, [.ref mt, .int m_tl, .ref md, .int m_dl, .ref mk, .ref ms, .int m_c, .ref mu, .ref mn, .ref mm, .int m_e, .ref mo, .int z35.1, .int m_fa, .int m_f, .ref mw, .int m_p, .int m_is])), (mt, .inl (cI, 6000, .inl m_t)), (md, .inl (cI, 12000, .inl m_d)), (mk, .inl (cI, 61, .inl m_k)), (ms, .inl (cI, 61, .inl m_s)), (mu, .inl (cI, 41, .inl m_u)), (mn, .inl (cJ, 41, .inr (.inl m_n))), (mm, .inl (cI, 41, .inl m_m)), (mo, .inl (cI, 14000, .inl z35.2)), (mw, .inl (cI, 61, .inl m_w))] [0, 1, 2, 3, 4, 5, 6, 7, 8, 9] rfl rfl rfl (0) (0) (Nat.le_of_ble_eq_true rfl) (Nat.le_of_ble_eq_true rfl) ⟨(Nat.le_of_ble_eq_true rfl), (Nat.le_of_ble_eq_true rfl)⟩ dX10_write_35 ?_
  refine J_aload_n O (i := 0) (k0 := 0) (pc := 38) 0 rfl rfl dX10_write_38 ?_
  refine J_ldc2 O (pc := 39) mb_X10_write_5 dX10_write_39 ?_
  refine J_iconst O (v := 4) (pc := 42) (by decide) dX10_write_42 ?_
  obtain ⟨z43, h43, hf⟩ := jt_b hf
  refine J_callVv O (pc := 43) (c_X10_put l D cB cI cJ m mt md mk ms mu mn mm mo mw m_tl m_dl m_c m_e z35.1 m_fa m_f m_p m_is m_t m_d m_k m_s m_u m_n m_m z35.2 m_w 1380541560 4 fu h43) rfl 0 rfl rfl gX10_write_X10_put hdV_X10_put ⟨(Nat.le_of_ble_eq_true rfl), (Nat.le_of_ble_eq_true rfl)⟩ rfl (st := []) rfl (Nat.le_of_ble_eq_true rfl) [0, 1, 2, 3, 4, 5, 6, 7, 8, 9] [] rfl rfl rfl rfl rfl (by decide) [(m, .inr (6, [.ref mt, .int m_tl, .ref md, .int m_dl, .ref mk, .ref ms, .int m_c, .ref mu, .ref mn, .ref mm, .int m_e, .ref mo, .int z43.1, .int m_fa, .int m_f, .ref mw, .int m_p, .int m_is])), (mt, .inl (cI, 6000, .inl m_t)), (md, .inl (cI, 12000, .inl m_d)), (mk, .inl (cI, 61, .inl m_k)), (ms, .inl (cI, 61, .inl m_s)), (mu, .inl (cI, 41, .inl m_u)), (mn, .inl (cJ, 41, .inr (.inl m_n))), (mm, .inl (cI, 41, .inl m_m)), (mo, .inl (cI, 14000, .inl z43.2)), (mw, .inl (cI, 61, .inl m_w))] [0, 1, 2, 3, 4, 5, 6, 7, 8, 9] rfl rfl rfl (0) (0) (Nat.le_of_ble_eq_true rfl) (Nat.le_of_ble_eq_true rfl) ⟨(Nat.le_of_ble_eq_true rfl), (Nat.le_of_ble_eq_true rfl)⟩ dX10_write_43 ?_
  refine J_aload_n O (i := 0) (k0 := 0) (pc := 46) 0 rfl rfl dX10_write_46 ?_
  refine J_iconst O (v := 4) (pc := 47) (by decide) dX10_write_47 ?_
  refine J_bipush O (v := 12) (pc := 48) (by decide) dX10_write_48 ?_
  refine J_aload_n O (i := 0) (k0 := 0) (pc := 50) 0 rfl rfl dX10_write_50 ?_
  refine J_get O (pc := 51) in_X10_write_X10 0 rfl rfl 10 (by decide) mb_X10_write_6 rfl dX10_write_51 ?_
  refine J_imul O (pc := 54) dX10_write_54 ?_
  refine J_iadd O (pc := 55) dX10_write_55 ?_
  refine J_i2l O (pc := 56) dX10_write_56 ?_
  refine J_iconst O (v := 4) (pc := 57) (by decide) dX10_write_57 ?_
  obtain ⟨z58, h58, hf⟩ := jt_b hf
  refine J_callVv O (pc := 58) (c_X10_put l D cB cI cJ m mt md mk ms mu mn mm mo mw m_tl m_dl m_c m_e z43.1 m_fa m_f m_p m_is m_t m_d m_k m_s m_u m_n m_m z43.2 m_w (Int32.toInt64 (4 + (12 * m_e))) 4 fu h58) rfl 0 rfl rfl gX10_write_X10_put hdV_X10_put ⟨(Nat.le_of_ble_eq_true rfl), (Nat.le_of_ble_eq_true rfl)⟩ rfl (st := []) rfl (Nat.le_of_ble_eq_true rfl) [0, 1, 2, 3, 4, 5, 6, 7, 8, 9] [] rfl rfl rfl rfl rfl (by decide) [(m, .inr (6, [.ref mt, .int m_tl, .ref md, .int m_dl, .ref mk, .ref ms, .int m_c, .ref mu, .ref mn, .ref mm, .int m_e, .ref mo, .int z58.1, .int m_fa, .int m_f, .ref mw, .int m_p, .int m_is])), (mt, .inl (cI, 6000, .inl m_t)), (md, .inl (cI, 12000, .inl m_d)), (mk, .inl (cI, 61, .inl m_k)), (ms, .inl (cI, 61, .inl m_s)), (mu, .inl (cI, 41, .inl m_u)), (mn, .inl (cJ, 41, .inr (.inl m_n))), (mm, .inl (cI, 41, .inl m_m)), (mo, .inl (cI, 14000, .inl z58.2)), (mw, .inl (cI, 61, .inl m_w))] [0, 1, 2, 3, 4, 5, 6, 7, 8, 9] rfl rfl rfl (0) (0) (Nat.le_of_ble_eq_true rfl) (Nat.le_of_ble_eq_true rfl) ⟨(Nat.le_of_ble_eq_true rfl), (Nat.le_of_ble_eq_true rfl)⟩ dX10_write_58 ?_
  refine J_aload_n O (i := 0) (k0 := 0) (pc := 61) 0 rfl rfl dX10_write_61 ?_
  refine J_aload_n O (i := 0) (k0 := 0) (pc := 62) 0 rfl rfl dX10_write_62 ?_
  refine J_get O (pc := 63) in_X10_write_X10 0 rfl rfl 10 (by decide) mb_X10_write_6 rfl dX10_write_63 ?_
  refine J_i2l O (pc := 66) dX10_write_66 ?_
  refine J_iconst O (v := 4) (pc := 67) (by decide) dX10_write_67 ?_
  obtain ⟨z68, h68, hf⟩ := jt_b hf
  refine J_callVv O (pc := 68) (c_X10_put l D cB cI cJ m mt md mk ms mu mn mm mo mw m_tl m_dl m_c m_e z58.1 m_fa m_f m_p m_is m_t m_d m_k m_s m_u m_n m_m z58.2 m_w (Int32.toInt64 m_e) 4 fu h68) rfl 0 rfl rfl gX10_write_X10_put hdV_X10_put ⟨(Nat.le_of_ble_eq_true rfl), (Nat.le_of_ble_eq_true rfl)⟩ rfl (st := []) rfl (Nat.le_of_ble_eq_true rfl) [0, 1, 2, 3, 4, 5, 6, 7, 8, 9] [] rfl rfl rfl rfl rfl (by decide) [(m, .inr (6, [.ref mt, .int m_tl, .ref md, .int m_dl, .ref mk, .ref ms, .int m_c, .ref mu, .ref mn, .ref mm, .int m_e, .ref mo, .int z68.1, .int m_fa, .int m_f, .ref mw, .int m_p, .int m_is])), (mt, .inl (cI, 6000, .inl m_t)), (md, .inl (cI, 12000, .inl m_d)), (mk, .inl (cI, 61, .inl m_k)), (ms, .inl (cI, 61, .inl m_s)), (mu, .inl (cI, 41, .inl m_u)), (mn, .inl (cJ, 41, .inr (.inl m_n))), (mm, .inl (cI, 41, .inl m_m)), (mo, .inl (cI, 14000, .inl z68.2)), (mw, .inl (cI, 61, .inl m_w))] [0, 1, 2, 3, 4, 5, 6, 7, 8, 9] rfl rfl rfl (0) (0) (Nat.le_of_ble_eq_true rfl) (Nat.le_of_ble_eq_true rfl) ⟨(Nat.le_of_ble_eq_true rfl), (Nat.le_of_ble_eq_true rfl)⟩ dX10_write_68 ?_
  refine J_iconst O (v := 0) (pc := 71) (by decide) dX10_write_71 ?_
  refine J_istore_n O (i := 1) (k0 := 1) (pc := 72) rfl [(1, .int 0), (0, .ref m)] (by decide) rfl dX10_write_72 ?_
  refine J_sub [1, 0] (lv' := [(0, .ref m), (1, .int 0)]) rfl ?_
  exact wk_X10_write_73 O m mt md mk ms mu mn mm mo mw m_tl m_dl m_c m_e m_fa m_f m_p m_is m_t m_d m_k m_s m_u m_n m_m m_w fu fu 0 z68.1 z68.2 hf
theorem in_X10_out_X10 : ∀ w ∈ u_ws RX10 TX10 18, w ∈ wsX10_out := fun _ h => List.mem_cons_of_mem _ (List.mem_append_right _ h)
theorem mb_X10_out_1 : Cond.fieldLink RX10 122 (TX10 12).1 (TX10 12).2.1 (TX10 12).2.2.1 ∈ wsX10_out := by decide +kernel
theorem mb_X10_out_2 : Cond.fieldLink RX10 32 (TX10 11).1 (TX10 11).2.1 (TX10 11).2.2.1 ∈ wsX10_out := by decide +kernel
abbrev rmX10_out : Room := { frames := 1, cells := 0, slots := 0, locals := 25 }
set_option maxHeartbeats 4000000 in
set_option maxRecDepth 100000 in
theorem c_X10_out (l : Launch) (D : va_G) (cB cI cJ : ClassId) (m mt md mk ms mu mn mm mo mw : Nat) (m_tl : Int32) (m_dl : Int32) (m_c : Int32) (m_e : Int32) (m_ol : Int32) (m_fa : Int32) (m_f : Int32) (m_p : Int32) (m_is : Int32) (m_t : Nat → Int32) (m_d : Nat → Int32) (m_k : Nat → Int32) (m_s : Nat → Int32) (m_u : Nat → Int32) (m_n : Nat → Int64) (m_m : Nat → Int32) (m_o : Nat → Int32) (m_w : Nat → Int32) (a1 : Int32) {z : Int32} (hf : p_X10_out m_ol m_o a1 = some z) : Ci (l, D, cB, cI, cJ) yX10_out wsX10_out rmX10_out [.ref m, .int a1] [(m, .inr (6, [.ref mt, .int m_tl, .ref md, .int m_dl, .ref mk, .ref ms, .int m_c, .ref mu, .ref mn, .ref mm, .int m_e, .ref mo, .int m_ol, .int m_fa, .int m_f, .ref mw, .int m_p, .int m_is])), (mt, .inl (cI, 6000, .inl m_t)), (md, .inl (cI, 12000, .inl m_d)), (mk, .inl (cI, 61, .inl m_k)), (ms, .inl (cI, 61, .inl m_s)), (mu, .inl (cI, 41, .inl m_u)), (mn, .inl (cJ, 41, .inr (.inl m_n))), (mm, .inl (cI, 41, .inl m_m)), (mo, .inl (cI, 14000, .inl m_o)), (mw, .inl (cI, 61, .inl m_w))] [(m, .inr (6, [.ref mt, .int m_tl, .ref md, .int m_dl, .ref mk, .ref ms, .int m_c, .ref mu, .ref mn, .ref mm, .int m_e, .ref mo, .int m_ol, .int m_fa, .int m_f, .ref mw, .int m_p, .int m_is])), (mt, .inl (cI, 6000, .inl m_t)), (md, .inl (cI, 12000, .inl m_d)), (mk, .inl (cI, 61, .inl m_k)), (ms, .inl (cI, 61, .inl m_s)), (mu, .inl (cI, 41, .inl m_u)), (mn, .inl (cJ, 41, .inr (.inl m_n))), (mm, .inl (cI, 41, .inl m_m)), (mo, .inl (cI, 14000, .inl m_o)), (mw, .inl (cI, 61, .inl m_w))] z := by
  refine Ci_of (cc := cX10_out) (nL := 2) (own := RX10) (ret := (some .int)) (by decide) rfl rfl (Nat.le_of_ble_eq_true rfl) (fun X O hnm0 => ?_)
  rw [p_X10_out] at hf
  show J X 2 (JQi X [(m, .inr (6, [.ref mt, .int m_tl, .ref md, .int m_dl, .ref mk, .ref ms, .int m_c, .ref mu, .ref mn, .ref mm, .int m_e, .ref mo, .int m_ol, .int m_fa, .int m_f, .ref mw, .int m_p, .int m_is])), (mt, .inl (cI, 6000, .inl m_t)), (md, .inl (cI, 12000, .inl m_d)), (mk, .inl (cI, 61, .inl m_k)), (ms, .inl (cI, 61, .inl m_s)), (mu, .inl (cI, 41, .inl m_u)), (mn, .inl (cJ, 41, .inr (.inl m_n))), (mm, .inl (cI, 41, .inl m_m)), (mo, .inl (cI, 14000, .inl m_o)), (mw, .inl (cI, 61, .inl m_w))] z 0 0) [(m, .inr (6, [.ref mt, .int m_tl, .ref md, .int m_dl, .ref mk, .ref ms, .int m_c, .ref mu, .ref mn, .ref mm, .int m_e, .ref mo, .int m_ol, .int m_fa, .int m_f, .ref mw, .int m_p, .int m_is])), (mt, .inl (cI, 6000, .inl m_t)), (md, .inl (cI, 12000, .inl m_d)), (mk, .inl (cI, 61, .inl m_k)), (ms, .inl (cI, 61, .inl m_s)), (mu, .inl (cI, 41, .inl m_u)), (mn, .inl (cJ, 41, .inr (.inl m_n))), (mm, .inl (cI, 41, .inl m_m)), (mo, .inl (cI, 14000, .inl m_o)), (mw, .inl (cI, 61, .inl m_w))] 0 0 0 [(0, .ref m), (1, .int a1)] []
  refine J_iload_n O (i := 1) (k0 := 1) (pc := 0) 1 rfl rfl dX10_out_0 ?_
  refine J_i2l O (pc := 1) dX10_out_1 ?_
  refine J_lconst O (v := 0) (pc := 2) (by decide) dX10_out_2 ?_
  refine J_aload_n O (i := 0) (k0 := 0) (pc := 3) 0 rfl rfl dX10_out_3 ?_
  refine J_get O (pc := 4) in_X10_out_X10 0 rfl rfl 12 (by decide) mb_X10_out_1 rfl dX10_out_4 ?_
  refine J_iconst O (v := 1) (pc := 7) (by decide) dX10_out_7 ?_
  refine J_isub O (pc := 8) dX10_out_8 ?_
  refine J_i2l O (pc := 9) dX10_out_9 ?_
  obtain ⟨z10, h10, hf⟩ := jt_b hf
  refine J_callSi O (pc := 10) (c_X10_in l D cB cI cJ (Int32.toInt64 a1) 0 (Int32.toInt64 (m_ol - 1)) h10) rfl gX10_out_X10_in hdS_X10_in ⟨(Nat.le_of_ble_eq_true rfl), (Nat.le_of_ble_eq_true rfl)⟩ rfl (st := []) rfl (Nat.le_of_ble_eq_true rfl) [] [0, 1, 2, 3, 4, 5, 6, 7, 8, 9] rfl rfl rfl rfl rfl (by decide) [(m, .inr (6, [.ref mt, .int m_tl, .ref md, .int m_dl, .ref mk, .ref ms, .int m_c, .ref mu, .ref mn, .ref mm, .int m_e, .ref mo, .int m_ol, .int m_fa, .int m_f, .ref mw, .int m_p, .int m_is])), (mt, .inl (cI, 6000, .inl m_t)), (md, .inl (cI, 12000, .inl m_d)), (mk, .inl (cI, 61, .inl m_k)), (ms, .inl (cI, 61, .inl m_s)), (mu, .inl (cI, 41, .inl m_u)), (mn, .inl (cJ, 41, .inr (.inl m_n))), (mm, .inl (cI, 41, .inl m_m)), (mo, .inl (cI, 14000, .inl m_o)), (mw, .inl (cI, 61, .inl m_w))] [0, 1, 2, 3, 4, 5, 6, 7, 8, 9] rfl rfl rfl (0) (0) (Nat.le_of_ble_eq_true rfl) (Nat.le_of_ble_eq_true rfl) ⟨(Nat.le_of_ble_eq_true rfl), (Nat.le_of_ble_eq_true rfl)⟩ dX10_out_10 ?_
  refine J_zeq O (tgt := 25) (pc := 13) dX10_out_13 (by decide) (fun c13 => ?_) (fun c13 => ?_)
  · have hf := jt_f c13 hf
    refine J_iconst O (v := (-1)) (pc := 25) (by decide) dX10_out_25 ?_
    have e9 := Option.some.inj hf
    subst e9
    exact J_iret O (pc := 26) rfl dX10_out_26
  · have hf := jt_t c13 hf
    refine J_aload_n O (i := 0) (k0 := 0) (pc := 16) 0 rfl rfl dX10_out_16 ?_
    refine J_get O (pc := 17) in_X10_out_X10 0 rfl rfl 11 (by decide) mb_X10_out_2 rfl dX10_out_17 ?_
    refine J_iload_n O (i := 1) (k0 := 1) (pc := 20) 1 rfl rfl dX10_out_20 ?_
    obtain ⟨h21, hf⟩ := jt_g hf
    refine J_iald O (pc := 21) 8 1 rfl rfl h21 dX10_out_21 ?_
    refine J_goto O (tgt := 26) (pc := 22) dX10_out_22 (by decide) ?_
    have e9 := Option.some.inj hf
    subst e9
    exact J_iret O (pc := 26) rfl dX10_out_26
