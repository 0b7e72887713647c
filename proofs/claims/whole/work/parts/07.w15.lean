theorem in_X10_goes_X10 : ∀ w ∈ u_ws RX10 TX10 18, w ∈ wsX10_goes := fun _ h => List.mem_cons_of_mem _ (List.mem_append_right _ h)
theorem mb_X10_goes_1 : Cond.fieldLink RX10 16 (TX10 4).1 (TX10 4).2.1 (TX10 4).2.2.1 ∈ wsX10_goes := by decide +kernel
theorem mb_X10_goes_2 : Cond.constant RX10 48 1349084020 ∈ wsX10_goes := by decide +kernel
theorem mb_X10_goes_3 : Cond.constant RX10 49 1399743520 ∈ wsX10_goes := by decide +kernel
theorem mb_X10_goes_4 : Cond.constant RX10 50 1147237473 ∈ wsX10_goes := by decide +kernel
theorem mb_X10_goes_5 : Cond.constant RX10 148 1514360644 ∈ wsX10_goes := by decide +kernel
theorem mb_X10_goes_6 : Cond.constant RX10 149 1196184908 ∈ wsX10_goes := by decide +kernel
theorem mb_X10_goes_7 : Cond.constant RX10 146 1413830740 ∈ wsX10_goes := by decide +kernel
theorem mb_X10_goes_8 : Cond.constant RX10 147 1112100417 ∈ wsX10_goes := by decide +kernel
theorem mb_X10_goes_9 : Cond.constant RX10 74 1179603533 ∈ wsX10_goes := by decide +kernel
theorem mb_X10_goes_10 : Cond.constant RX10 143 1330071382 ∈ wsX10_goes := by decide +kernel
theorem mb_X10_goes_11 : Cond.constant RX10 144 1297040416 ∈ wsX10_goes := by decide +kernel
theorem mb_X10_goes_12 : Cond.constant RX10 145 1397706311 ∈ wsX10_goes := by decide +kernel
theorem mb_X10_goes_13 : Cond.fieldLink RX10 19 (TX10 5).1 (TX10 5).2.1 (TX10 5).2.2.1 ∈ wsX10_goes := by decide +kernel
theorem mb_X10_goes_14 : Cond.fieldLink RX10 13 (TX10 2).1 (TX10 2).2.1 (TX10 2).2.2.1 ∈ wsX10_goes := by decide +kernel
theorem mb_X10_goes_15 : Cond.constant RX10 142 1095321158 ∈ wsX10_goes := by decide +kernel
theorem mb_X10_goes_16 : Cond.constant RX10 139 1347307296 ∈ wsX10_goes := by decide +kernel
theorem mb_X10_goes_17 : Cond.constant RX10 140 1246774599 ∈ wsX10_goes := by decide +kernel
theorem mb_X10_goes_18 : Cond.constant RX10 141 1382376308 ∈ wsX10_goes := by decide +kernel
abbrev rmX10_goes : Room := { frames := 1, cells := 0, slots := 0, locals := 23 }
set_option maxHeartbeats 4000000 in
set_option maxRecDepth 100000 in
theorem wk_X10_goes_76 {X : JC} {l : Launch} {D : va_G} {cB cI cJ : ClassId} (O : Jo X (l, D, cB, cI, cJ) cX10_goes 4 RX10 wsX10_goes rmX10_goes (some .boolean)) (m mt md mk ms mu mn mm mo mw : Nat) (m_tl : Int32) (m_dl : Int32) (m_c : Int32) (m_e : Int32) (m_ol : Int32) (m_fa : Int32) (m_f : Int32) (m_p : Int32) (m_is : Int32) (m_t : Nat → Int32) (m_d : Nat → Int32) (m_k : Nat → Int32) (m_s : Nat → Int32) (m_u : Nat → Int32) (m_n : Nat → Int64) (m_m : Nat → Int32) (m_o : Nat → Int32) (m_w : Nat → Int32) (a1 : Int32) (a2 : Int32) (fu : Nat) {z : Bool} (v3 : Int32) (hf : p_X10_goes_76 fu m_d m_k m_s a1 a2 v3 = some z) : J X 4 (JQi X [(m, .inr (6, [.ref mt, .int m_tl, .ref md, .int m_dl, .ref mk, .ref ms, .int m_c, .ref mu, .ref mn, .ref mm, .int m_e, .ref mo, .int m_ol, .int m_fa, .int m_f, .ref mw, .int m_p, .int m_is])), (mt, .inl (cI, 6000, .inl m_t)), (md, .inl (cI, 12000, .inl m_d)), (mk, .inl (cI, 61, .inl m_k)), (ms, .inl (cI, 61, .inl m_s)), (mu, .inl (cI, 41, .inl m_u)), (mn, .inl (cJ, 41, .inr (.inl m_n))), (mm, .inl (cI, 41, .inl m_m)), (mo, .inl (cI, 14000, .inl m_o)), (mw, .inl (cI, 61, .inl m_w))] (bI z) 0 0) [(m, .inr (6, [.ref mt, .int m_tl, .ref md, .int m_dl, .ref mk, .ref ms, .int m_c, .ref mu, .ref mn, .ref mm, .int m_e, .ref mo, .int m_ol, .int m_fa, .int m_f, .ref mw, .int m_p, .int m_is])), (mt, .inl (cI, 6000, .inl m_t)), (md, .inl (cI, 12000, .inl m_d)), (mk, .inl (cI, 61, .inl m_k)), (ms, .inl (cI, 61, .inl m_s)), (mu, .inl (cI, 41, .inl m_u)), (mn, .inl (cJ, 41, .inr (.inl m_n))), (mm, .inl (cI, 41, .inl m_m)), (mo, .inl (cI, 14000, .inl m_o)), (mw, .inl (cI, 61, .inl m_w))] 0 0 76 [(3, .int v3)] [] := by
  rw [p_X10_goes_76] at hf
  refine J_iload_n O (i := 3) (k0 := 3) (pc := 76) 0 rfl rfl dX10_goes_76 ?_
  refine J_ldc O (pc := 77) mb_X10_goes_10 dX10_goes_77 ?_
  refine J_icmp_eq O (tgt := 94) (pc := 79) dX10_goes_79 (by decide) (fun c79 => ?_) (fun c79 => ?_)
  · have hf := jt_t c79 hf
    refine J_iconst O (v := 1) (pc := 94) (by decide) dX10_goes_94 ?_
    refine J_goto O (tgt := 99) (pc := 95) dX10_goes_95 (by decide) ?_
    have e9 := Option.some.inj hf
    subst e9
    exact J_zret O (pc := 99) rfl dX10_goes_99
  · have hf := jt_f c79 hf
    refine J_iload_n O (i := 3) (k0 := 3) (pc := 82) 0 rfl rfl dX10_goes_82 ?_
    refine J_ldc O (pc := 83) mb_X10_goes_11 dX10_goes_83 ?_
    refine J_icmp_eq O (tgt := 94) (pc := 85) dX10_goes_85 (by decide) (fun c85 => ?_) (fun c85 => ?_)
    · have hf := jt_t c85 hf
      refine J_iconst O (v := 1) (pc := 94) (by decide) dX10_goes_94 ?_
      refine J_goto O (tgt := 99) (pc := 95) dX10_goes_95 (by decide) ?_
      have e9 := Option.some.inj hf
      subst e9
      exact J_zret O (pc := 99) rfl dX10_goes_99
    · have hf := jt_f c85 hf
      refine J_iload_n O (i := 3) (k0 := 3) (pc := 88) 0 rfl rfl dX10_goes_88 ?_
      refine J_ldc O (pc := 89) mb_X10_goes_12 dX10_goes_89 ?_
      refine J_icmp_ne O (tgt := 98) (pc := 91) dX10_goes_91 (by decide) (fun c91 => ?_) (fun c91 => ?_)
      · have hf := jt_f c91 hf
        refine J_iconst O (v := 0) (pc := 98) (by decide) dX10_goes_98 ?_
        have e9 := Option.some.inj hf
        subst e9
        exact J_zret O (pc := 99) rfl dX10_goes_99
      · have hf := jt_t c91 hf
        refine J_iconst O (v := 1) (pc := 94) (by decide) dX10_goes_94 ?_
        refine J_goto O (tgt := 99) (pc := 95) dX10_goes_95 (by decide) ?_
        have e9 := Option.some.inj hf
        subst e9
        exact J_zret O (pc := 99) rfl dX10_goes_99
set_option maxHeartbeats 4000000 in
set_option maxRecDepth 100000 in
theorem c_X10_goes (l : Launch) (D : va_G) (cB cI cJ : ClassId) (m mt md mk ms mu mn mm mo mw : Nat) (m_tl : Int32) (m_dl : Int32) (m_c : Int32) (m_e : Int32) (m_ol : Int32) (m_fa : Int32) (m_f : Int32) (m_p : Int32) (m_is : Int32) (m_t : Nat → Int32) (m_d : Nat → Int32) (m_k : Nat → Int32) (m_s : Nat → Int32) (m_u : Nat → Int32) (m_n : Nat → Int64) (m_m : Nat → Int32) (m_o : Nat → Int32) (m_w : Nat → Int32) (a1 : Int32) (a2 : Int32) (fu : Nat) {z : Bool} (hf : p_X10_goes fu m_d m_k m_s a1 a2 = some z) : Ci (l, D, cB, cI, cJ) yX10_goes wsX10_goes rmX10_goes [.ref m, .int a1, .int a2] [(m, .inr (6, [.ref mt, .int m_tl, .ref md, .int m_dl, .ref mk, .ref ms, .int m_c, .ref mu, .ref mn, .ref mm, .int m_e, .ref mo, .int m_ol, .int m_fa, .int m_f, .ref mw, .int m_p, .int m_is])), (mt, .inl (cI, 6000, .inl m_t)), (md, .inl (cI, 12000, .inl m_d)), (mk, .inl (cI, 61, .inl m_k)), (ms, .inl (cI, 61, .inl m_s)), (mu, .inl (cI, 41, .inl m_u)), (mn, .inl (cJ, 41, .inr (.inl m_n))), (mm, .inl (cI, 41, .inl m_m)), (mo, .inl (cI, 14000, .inl m_o)), (mw, .inl (cI, 61, .inl m_w))] [(m, .inr (6, [.ref mt, .int m_tl, .ref md, .int m_dl, .ref mk, .ref ms, .int m_c, .ref mu, .ref mn, .ref mm, .int m_e, .ref mo, .int m_ol, .int m_fa, .int m_f, .ref mw, .int m_p, .int m_is])), (mt, .inl (cI, 6000, .inl m_t)), (md, .inl (cI, 12000, .inl m_d)), (mk, .inl (cI, 61, .inl m_k)), (ms, .inl (cI, 61, .inl m_s)), (mu, .inl (cI, 41, .inl m_u)), (mn, .inl (cJ, 41, .inr (.inl m_n))), (mm, .inl (cI, 41, .inl m_m)), (mo, .inl (cI, 14000, .inl m_o)), (mw, .inl (cI, 61, .inl m_w))] (bI z) := by
  refine Ci_of (cc := cX10_goes) (nL := 4) (own := RX10) (ret := (some .boolean)) (by decide) rfl rfl (Nat.le_of_ble_eq_true rfl) (fun X O hnm0 => ?_)
  rw [p_X10_goes] at hf
  show J X 4 (JQi X [(m, .inr (6, [.ref mt, .int m_tl, .ref md, .int m_dl, .ref mk, .ref ms, .int m_c, .ref mu, .ref mn, .ref mm, .int m_e, .ref mo, .int m_ol, .int m_fa, .int m_f, .ref mw, .int m_p, .int m_is])), (mt, .inl (cI, 6000, .inl m_t)), (md, .inl (cI, 12000, .inl m_d)), (mk, .inl (cI, 61, .inl m_k)), (ms, .inl (cI, 61, .inl m_s)), (mu, .inl (cI, 41, .inl m_u)), (mn, .inl (cJ, 41, .inr (.inl m_n))), (mm, .inl (cI, 41, .inl m_m)), (mo, .inl (cI, 14000, .inl m_o)), (mw, .inl (cI, 61, .inl m_w))] (bI z) 0 0) [(m, .inr (6, [.ref mt, .int m_tl, .ref md, .int m_dl, .ref mk, .ref ms, .int m_c, .ref mu, .ref mn, .ref mm, .int m_e, .ref mo, .int m_ol, .int m_fa, .int m_f, .ref mw, .int m_p, .int m_is])), (mt, .inl (cI, 6000, .inl m_t)), (md, .inl (cI, 12000, .inl m_d)), (mk, .inl (cI, 61, .inl m_k)), (ms, .inl (cI, 61, .inl m_s)), (mu, .inl (cI, 41, .inl m_u)), (mn, .inl (cJ, 41, .inr (.inl m_n))), (mm, .inl (cI, 41, .inl m_m)), (mo, .inl (cI, 14000, .inl m_o)), (mw, .inl (cI, 61, .inl m_w))] 0 0 0 [(0, .ref m), (1, .int a1), (2, .int a2)] []
  refine J_aload_n O (i := 0) (k0 := 0) (pc := 0) 0 rfl rfl dX10_goes_0 ?_
  refine J_get O (pc := 1) in_X10_goes_X10 0 rfl rfl 4 (by decide) mb_X10_goes_1 rfl dX10_goes_1 ?_
  refine J_iload_n O (i := 2) (k0 := 2) (pc := 4) 2 rfl rfl dX10_goes_4 ?_
  obtain ⟨h5, hf⟩ := jt_g hf
  refine J_iald O (pc := 5) 3 1 rfl rfl h5 dX10_goes_5 ?_
  refine J_istore_n O (i := 3) (k0 := 3) (pc := 6) rfl [(3, .int (m_k (Int32.toNatClampNeg a2))), (0, .ref m), (1, .int a1), (2, .int a2)] (by decide) rfl dX10_goes_6 ?_
  refine J_iload_n O (i := 1) (k0 := 1) (pc := 7) 2 rfl rfl dX10_goes_7 ?_
  refine J_ldc O (pc := 8) mb_X10_goes_2 dX10_goes_8 ?_
  refine J_icmp_ne O (tgt := 37) (pc := 10) dX10_goes_10 (by decide) (fun c10 => ?_) (fun c10 => ?_)
  · have hf := jt_f c10 hf
    refine J_iload_n O (i := 1) (k0 := 1) (pc := 37) 2 rfl rfl dX10_goes_37 ?_
    refine J_ldc O (pc := 38) mb_X10_goes_3 dX10_goes_38 ?_
    refine J_icmp_ne O (tgt := 100) (pc := 40) dX10_goes_40 (by decide) (fun c40 => ?_) (fun c40 => ?_)
    · have hf := jt_f c40 hf
      refine J_iload_n O (i := 1) (k0 := 1) (pc := 100) 2 rfl rfl dX10_goes_100 ?_
      refine J_ldc O (pc := 101) mb_X10_goes_4 dX10_goes_101 ?_
      refine J_icmp_ne O (tgt := 132) (pc := 103) dX10_goes_103 (by decide) (fun c103 => ?_) (fun c103 => ?_)
      · have hf := jt_f c103 hf
        refine J_iload_n O (i := 3) (k0 := 3) (pc := 132) 0 rfl rfl dX10_goes_132 ?_
        refine J_ldc O (pc := 133) mb_X10_goes_5 dX10_goes_133 ?_
        refine J_icmp_eq O (tgt := 144) (pc := 135) dX10_goes_135 (by decide) (fun c135 => ?_) (fun c135 => ?_)
        · have hf := jt_t c135 hf
          refine J_iconst O (v := 1) (pc := 144) (by decide) dX10_goes_144 ?_
          refine J_goto O (tgt := 149) (pc := 145) dX10_goes_145 (by decide) ?_
          have e9 := Option.some.inj hf
          subst e9
          exact J_zret O (pc := 149) rfl dX10_goes_149
        · have hf := jt_f c135 hf
          refine J_iload_n O (i := 3) (k0 := 3) (pc := 138) 0 rfl rfl dX10_goes_138 ?_
          refine J_ldc O (pc := 139) mb_X10_goes_6 dX10_goes_139 ?_
          refine J_icmp_ne O (tgt := 148) (pc := 141) dX10_goes_141 (by decide) (fun c141 => ?_) (fun c141 => ?_)
          · have hf := jt_f c141 hf
            refine J_iconst O (v := 0) (pc := 148) (by decide) dX10_goes_148 ?_
            have e9 := Option.some.inj hf
            subst e9
            exact J_zret O (pc := 149) rfl dX10_goes_149
          · have hf := jt_t c141 hf
            refine J_iconst O (v := 1) (pc := 144) (by decide) dX10_goes_144 ?_
            refine J_goto O (tgt := 149) (pc := 145) dX10_goes_145 (by decide) ?_
            have e9 := Option.some.inj hf
            subst e9
            exact J_zret O (pc := 149) rfl dX10_goes_149
      · have hf := jt_t c103 hf
        refine J_iload_n O (i := 3) (k0 := 3) (pc := 106) 0 rfl rfl dX10_goes_106 ?_
        refine J_ldc O (pc := 107) mb_X10_goes_7 dX10_goes_107 ?_
        refine J_icmp_eq O (tgt := 124) (pc := 109) dX10_goes_109 (by decide) (fun c109 => ?_) (fun c109 => ?_)
        · have hf := jt_t c109 hf
          refine J_iconst O (v := 1) (pc := 124) (by decide) dX10_goes_124 ?_
          refine J_goto O (tgt := 149) (pc := 125) dX10_goes_125 (by decide) ?_
          have e9 := Option.some.inj hf
          subst e9
          exact J_zret O (pc := 149) rfl dX10_goes_149
        · have hf := jt_f c109 hf
          refine J_iload_n O (i := 3) (k0 := 3) (pc := 112) 0 rfl rfl dX10_goes_112 ?_
          refine J_ldc O (pc := 113) mb_X10_goes_8 dX10_goes_113 ?_
          refine J_icmp_eq O (tgt := 124) (pc := 115) dX10_goes_115 (by decide) (fun c115 => ?_) (fun c115 => ?_)
          · have hf := jt_t c115 hf
            refine J_iconst O (v := 1) (pc := 124) (by decide) dX10_goes_124 ?_
            refine J_goto O (tgt := 149) (pc := 125) dX10_goes_125 (by decide) ?_
            have e9 := Option.some.inj hf
            subst e9
            exact J_zret O (pc := 149) rfl dX10_goes_149
          · have hf := jt_f c115 hf
            refine J_iload_n O (i := 3) (k0 := 3) (pc := 118) 0 rfl rfl dX10_goes_118 ?_
            refine J_ldc O (pc := 119) mb_X10_goes_9 dX10_goes_119 ?_
            refine J_icmp_ne O (tgt := 128) (pc := 121) dX10_goes_121 (by decide) (fun c121 => ?_) (fun c121 => ?_)
            · have hf := jt_f c121 hf
              refine J_iconst O (v := 0) (pc := 128) (by decide) dX10_goes_128 ?_
              refine J_goto O (tgt := 149) (pc := 129) dX10_goes_129 (by decide) ?_
              have e9 := Option.some.inj hf
              subst e9
              exact J_zret O (pc := 149) rfl dX10_goes_149
            · have hf := jt_t c121 hf
              refine J_iconst O (v := 1) (pc := 124) (by decide) dX10_goes_124 ?_
              refine J_goto O (tgt := 149) (pc := 125) dX10_goes_125 (by decide) ?_
              have e9 := Option.some.inj hf
              subst e9
              exact J_zret O (pc := 149) rfl dX10_goes_149
    · have hf := jt_t c40 hf
      refine J_iload_n O (i := 3) (k0 := 3) (pc := 43) 0 rfl rfl dX10_goes_43 ?_
      refine J_ldc O (pc := 44) mb_X10_goes_9 dX10_goes_44 ?_
      refine J_icmp_ne O (tgt := 76) (pc := 46) dX10_goes_46 (by decide) (fun c46 => ?_) (fun c46 => ?_)
      · have hf := jt_f c46 hf
        refine J_sub [0] (lv' := [(3, .int (m_k (Int32.toNatClampNeg a2)))]) rfl ?_
        exact wk_X10_goes_76 O m mt md mk ms mu mn mm mo mw m_tl m_dl m_c m_e m_ol m_fa m_f m_p m_is m_t m_d m_k m_s m_u m_n m_m m_o m_w a1 a2 fu (m_k (Int32.toNatClampNeg a2)) hf
      · have hf := jt_t c46 hf
        refine J_aload_n O (i := 0) (k0 := 0) (pc := 49) 1 rfl rfl dX10_goes_49 ?_
        refine J_get O (pc := 50) in_X10_goes_X10 0 rfl rfl 5 (by decide) mb_X10_goes_13 rfl dX10_goes_50 ?_
        refine J_iload_n O (i := 2) (k0 := 2) (pc := 53) 3 rfl rfl dX10_goes_53 ?_
        obtain ⟨h54, hf⟩ := jt_g hf
        refine J_iald O (pc := 54) 4 1 rfl rfl h54 dX10_goes_54 ?_
        refine J_iconst O (v := 4) (pc := 55) (by decide) dX10_goes_55 ?_
        refine J_icmp_lt O (tgt := 76) (pc := 56) dX10_goes_56 (by decide) (fun c56 => ?_) (fun c56 => ?_)
        · have hf := jt_t c56 hf
          refine J_sub [0] (lv' := [(3, .int (m_k (Int32.toNatClampNeg a2)))]) rfl ?_
          exact wk_X10_goes_76 O m mt md mk ms mu mn mm mo mw m_tl m_dl m_c m_e m_ol m_fa m_f m_p m_is m_t m_d m_k m_s m_u m_n m_m m_o m_w a1 a2 fu (m_k (Int32.toNatClampNeg a2)) hf
        · have hf := jt_f c56 hf
          refine J_aload_n O (i := 0) (k0 := 0) (pc := 59) 1 rfl rfl dX10_goes_59 ?_
          refine J_get O (pc := 60) in_X10_goes_X10 0 rfl rfl 2 (by decide) mb_X10_goes_14 rfl dX10_goes_60 ?_
          refine J_aload_n O (i := 0) (k0 := 0) (pc := 63) 1 rfl rfl dX10_goes_63 ?_
          refine J_iload_n O (i := 2) (k0 := 2) (pc := 64) 3 rfl rfl dX10_goes_64 ?_
          obtain ⟨z65, h65, hf⟩ := jt_b hf
          refine J_callVi O (pc := 65) (c_X10_fromOf l D cB cI cJ m mt md mk ms mu mn mm mo mw m_tl m_dl m_c m_e m_ol m_fa m_f m_p m_is m_t m_d m_k m_s m_u m_n m_m m_o m_w a2 fu h65) rfl 0 rfl rfl gX10_goes_X10_fromOf hdV_X10_fromOf ⟨(Nat.le_of_ble_eq_true rfl), (Nat.le_of_ble_eq_true rfl)⟩ rfl (st := [.ref md]) rfl (Nat.le_of_ble_eq_true rfl) [0, 1, 2, 3, 4, 5, 6, 7, 8, 9] [] rfl rfl rfl rfl rfl (by decide) [(m, .inr (6, [.ref mt, .int m_tl, .ref md, .int m_dl, .ref mk, .ref ms, .int m_c, .ref mu, .ref mn, .ref mm, .int m_e, .ref mo, .int m_ol, .int m_fa, .int m_f, .ref mw, .int m_p, .int m_is])), (mt, .inl (cI, 6000, .inl m_t)), (md, .inl (cI, 12000, .inl m_d)), (mk, .inl (cI, 61, .inl m_k)), (ms, .inl (cI, 61, .inl m_s)), (mu, .inl (cI, 41, .inl m_u)), (mn, .inl (cJ, 41, .inr (.inl m_n))), (mm, .inl (cI, 41, .inl m_m)), (mo, .inl (cI, 14000, .inl m_o)), (mw, .inl (cI, 61, .inl m_w))] [0, 1, 2, 3, 4, 5, 6, 7, 8, 9] rfl rfl rfl (0) (0) (Nat.le_of_ble_eq_true rfl) (Nat.le_of_ble_eq_true rfl) ⟨(Nat.le_of_ble_eq_true rfl), (Nat.le_of_ble_eq_true rfl)⟩ dX10_goes_65 ?_
          obtain ⟨z68, h68, hf⟩ := jt_b hf
          refine J_callSi O (pc := 68) (c_X10_kindIn l D cB cI cJ md 12000 m_d z65 h68) rfl gX10_goes_X10_kindIn hdS_X10_kindIn ⟨(Nat.le_of_ble_eq_true rfl), (Nat.le_of_ble_eq_true rfl)⟩ rfl (st := []) rfl (Nat.le_of_ble_eq_true rfl) [2] [0, 1, 3, 4, 5, 6, 7, 8, 9] rfl rfl rfl rfl rfl (by decide) [(m, .inr (6, [.ref mt, .int m_tl, .ref md, .int m_dl, .ref mk, .ref ms, .int m_c, .ref mu, .ref mn, .ref mm, .int m_e, .ref mo, .int m_ol, .int m_fa, .int m_f, .ref mw, .int m_p, .int m_is])), (mt, .inl (cI, 6000, .inl m_t)), (md, .inl (cI, 12000, .inl m_d)), (mk, .inl (cI, 61, .inl m_k)), (ms, .inl (cI, 61, .inl m_s)), (mu, .inl (cI, 41, .inl m_u)), (mn, .inl (cJ, 41, .inr (.inl m_n))), (mm, .inl (cI, 41, .inl m_m)), (mo, .inl (cI, 14000, .inl m_o)), (mw, .inl (cI, 61, .inl m_w))] [0, 1, 9, 2, 3, 4, 5, 6, 7, 8] rfl rfl rfl (0) (0) (Nat.le_of_ble_eq_true rfl) (Nat.le_of_ble_eq_true rfl) ⟨(Nat.le_of_ble_eq_true rfl), (Nat.le_of_ble_eq_true rfl)⟩ dX10_goes_68 ?_
          refine J_ldc O (pc := 71) mb_X10_goes_15 dX10_goes_71 ?_
          refine J_icmp_eq O (tgt := 94) (pc := 73) dX10_goes_73 (by decide) (fun c73 => ?_) (fun c73 => ?_)
          · have hf := jt_t c73 hf
            refine J_iconst O (v := 1) (pc := 94) (by decide) dX10_goes_94 ?_
            refine J_goto O (tgt := 99) (pc := 95) dX10_goes_95 (by decide) ?_
            have e9 := Option.some.inj hf
            subst e9
            exact J_zret O (pc := 99) rfl dX10_goes_99
          · have hf := jt_f c73 hf
            refine J_sub [0] (lv' := [(3, .int (m_k (Int32.toNatClampNeg a2)))]) rfl ?_
            exact wk_X10_goes_76 O m mt md mk ms mu mn mm mo mw m_tl m_dl m_c m_e m_ol m_fa m_f m_p m_is m_t m_d m_k m_s m_u m_n m_m m_o m_w a1 a2 fu (m_k (Int32.toNatClampNeg a2)) hf
  · have hf := jt_t c10 hf
    refine J_iload_n O (i := 3) (k0 := 3) (pc := 13) 0 rfl rfl dX10_goes_13 ?_
    refine J_ldc O (pc := 14) mb_X10_goes_16 dX10_goes_14 ?_
    refine J_icmp_eq O (tgt := 31) (pc := 16) dX10_goes_16 (by decide) (fun c16 => ?_) (fun c16 => ?_)
    · have hf := jt_t c16 hf
      refine J_iconst O (v := 1) (pc := 31) (by decide) dX10_goes_31 ?_
      refine J_goto O (tgt := 36) (pc := 32) dX10_goes_32 (by decide) ?_
      have e9 := Option.some.inj hf
      subst e9
      exact J_zret O (pc := 36) rfl dX10_goes_36
    · have hf := jt_f c16 hf
      refine J_iload_n O (i := 3) (k0 := 3) (pc := 19) 0 rfl rfl dX10_goes_19 ?_
      refine J_ldc O (pc := 20) mb_X10_goes_17 dX10_goes_20 ?_
      refine J_icmp_eq O (tgt := 31) (pc := 22) dX10_goes_22 (by decide) (fun c22 => ?_) (fun c22 => ?_)
      · have hf := jt_t c22 hf
        refine J_iconst O (v := 1) (pc := 31) (by decide) dX10_goes_31 ?_
        refine J_goto O (tgt := 36) (pc := 32) dX10_goes_32 (by decide) ?_
        have e9 := Option.some.inj hf
        subst e9
        exact J_zret O (pc := 36) rfl dX10_goes_36
      · have hf := jt_f c22 hf
        refine J_iload_n O (i := 3) (k0 := 3) (pc := 25) 0 rfl rfl dX10_goes_25 ?_
        refine J_ldc O (pc := 26) mb_X10_goes_18 dX10_goes_26 ?_
        refine J_icmp_ne O (tgt := 35) (pc := 28) dX10_goes_28 (by decide) (fun c28 => ?_) (fun c28 => ?_)
        · have hf := jt_f c28 hf
          refine J_iconst O (v := 0) (pc := 35) (by decide) dX10_goes_35 ?_
          have e9 := Option.some.inj hf
          subst e9
          exact J_zret O (pc := 36) rfl dX10_goes_36
        · have hf := jt_t c28 hf
          refine J_iconst O (v := 1) (pc := 31) (by decide) dX10_goes_31 ?_
          refine J_goto O (tgt := 36) (pc := 32) dX10_goes_32 (by decide) ?_
          have e9 := Option.some.inj hf
          subst e9
          exact J_zret O (pc := 36) rfl dX10_goes_36
theorem in_X10_entry_X10 : ∀ w ∈ u_ws RX10 TX10 18, w ∈ wsX10_entry := fun _ h => List.mem_cons_of_mem _ (List.mem_append_right _ h)
theorem mb_X10_entry_1 : Cond.fieldLink RX10 119 (TX10 10).1 (TX10 10).2.1 (TX10 10).2.2.1 ∈ wsX10_entry := by decide +kernel
theorem mb_X10_entry_2 : Cond.constantLong RX10 150 (-1) ∈ wsX10_entry := by decide +kernel
theorem mb_X10_entry_3 : Cond.constantLong RX10 128 3 ∈ wsX10_entry := by decide +kernel
theorem mb_X10_entry_4 : Cond.fieldLink RX10 22 (TX10 7).1 (TX10 7).2.1 (TX10 7).2.2.1 ∈ wsX10_entry := by decide +kernel
theorem mb_X10_entry_5 : Cond.fieldLink RX10 29 (TX10 9).1 (TX10 9).2.1 (TX10 9).2.2.1 ∈ wsX10_entry := by decide +kernel
theorem hdV_X10_goes : yX10_goes.cls = RX10 ∧ yX10_goes.cls ≠ "java/lang/invoke/MethodHandle" ∧ yX10_goes.cls ≠ "java/lang/invoke/VarHandle" ∧ (parseMethodDescriptor yX10_goes.desc).map (fun d => d.parameters.length) = some 2 := by decide +kernel
theorem mb_X10_entry_6 : Cond.fieldLink RX10 25 (TX10 8).1 (TX10 8).2.1 (TX10 8).2.2.1 ∈ wsX10_entry := by decide +kernel
abbrev rmX10_entry : Room := { frames := 2, cells := 0, slots := 0, locals := 46 }
set_option maxHeartbeats 4000000 in
set_option maxRecDepth 100000 in
theorem c_X10_entry (l : Launch) (D : va_G) (cB cI cJ : ClassId) (m mt md mk ms mu mn mm mo mw : Nat) (m_tl : Int32) (m_dl : Int32) (m_c : Int32) (m_e : Int32) (m_ol : Int32) (m_fa : Int32) (m_f : Int32) (m_p : Int32) (m_is : Int32) (m_t : Nat → Int32) (m_d : Nat → Int32) (m_k : Nat → Int32) (m_s : Nat → Int32) (m_u : Nat → Int32) (m_n : Nat → Int64) (m_m : Nat → Int32) (m_o : Nat → Int32) (m_w : Nat → Int32) (a1 : Int32) (a2 : Int32) (fu : Nat) {z : Int64} (hf : p_X10_entry fu m_e m_d m_k m_s m_u m_n m_m a1 a2 = some z) : Cl (l, D, cB, cI, cJ) yX10_entry wsX10_entry rmX10_entry [.ref m, .int a1, .int a2] [(m, .inr (6, [.ref mt, .int m_tl, .ref md, .int m_dl, .ref mk, .ref ms, .int m_c, .ref mu, .ref mn, .ref mm, .int m_e, .ref mo, .int m_ol, .int m_fa, .int m_f, .ref mw, .int m_p, .int m_is])), (mt, .inl (cI, 6000, .inl m_t)), (md, .inl (cI, 12000, .inl m_d)), (mk, .inl (cI, 61, .inl m_k)), (ms, .inl (cI, 61, .inl m_s)), (mu, .inl (cI, 41, .inl m_u)), (mn, .inl (cJ, 41, .inr (.inl m_n))), (mm, .inl (cI, 41, .inl m_m)), (mo, .inl (cI, 14000, .inl m_o)), (mw, .inl (cI, 61, .inl m_w))] [(m, .inr (6, [.ref mt, .int m_tl, .ref md, .int m_dl, .ref mk, .ref ms, .int m_c, .ref mu, .ref mn, .ref mm, .int m_e, .ref mo, .int m_ol, .int m_fa, .int m_f, .ref mw, .int m_p, .int m_is])), (mt, .inl (cI, 6000, .inl m_t)), (md, .inl (cI, 12000, .inl m_d)), (mk, .inl (cI, 61, .inl m_k)), (ms, .inl (cI, 61, .inl m_s)), (mu, .inl (cI, 41, .inl m_u)), (mn, .inl (cJ, 41, .inr (.inl m_n))), (mm, .inl (cI, 41, .inl m_m)), (mo, .inl (cI, 14000, .inl m_o)), (mw, .inl (cI, 61, .inl m_w))] z := by
  refine Cl_of (cc := cX10_entry) (nL := 3) (own := RX10) (ret := (some .long)) (by decide) rfl rfl (Nat.le_of_ble_eq_true rfl) (fun X O hnm0 => ?_)
  rw [p_X10_entry] at hf
  show J X 3 (JQl X [(m, .inr (6, [.ref mt, .int m_tl, .ref md, .int m_dl, .ref mk, .ref ms, .int m_c, .ref mu, .ref mn, .ref mm, .int m_e, .ref mo, .int m_ol, .int m_fa, .int m_f, .ref mw, .int m_p, .int m_is])), (mt, .inl (cI, 6000, .inl m_t)), (md, .inl (cI, 12000, .inl m_d)), (mk, .inl (cI, 61, .inl m_k)), (ms, .inl (cI, 61, .inl m_s)), (mu, .inl (cI, 41, .inl m_u)), (mn, .inl (cJ, 41, .inr (.inl m_n))), (mm, .inl (cI, 41, .inl m_m)), (mo, .inl (cI, 14000, .inl m_o)), (mw, .inl (cI, 61, .inl m_w))] z 0 0) [(m, .inr (6, [.ref mt, .int m_tl, .ref md, .int m_dl, .ref mk, .ref ms, .int m_c, .ref mu, .ref mn, .ref mm, .int m_e, .ref mo, .int m_ol, .int m_fa, .int m_f, .ref mw, .int m_p, .int m_is])), (mt, .inl (cI, 6000, .inl m_t)), (md, .inl (cI, 12000, .inl m_d)), (mk, .inl (cI, 61, .inl m_k)), (ms, .inl (cI, 61, .inl m_s)), (mu, .inl (cI, 41, .inl m_u)), (mn, .inl (cJ, 41, .inr (.inl m_n))), (mm, .inl (cI, 41, .inl m_m)), (mo, .inl (cI, 14000, .inl m_o)), (mw, .inl (cI, 61, .inl m_w))] 0 0 0 [(0, .ref m), (1, .int a1), (2, .int a2)] []
  refine J_iload_n O (i := 1) (k0 := 1) (pc := 0) 1 rfl rfl dX10_entry_0 ?_
  refine J_i2l O (pc := 1) dX10_entry_1 ?_
  refine J_lconst O (v := 0) (pc := 2) (by decide) dX10_entry_2 ?_
  refine J_aload_n O (i := 0) (k0 := 0) (pc := 3) 0 rfl rfl dX10_entry_3 ?_
  refine J_get O (pc := 4) in_X10_entry_X10 0 rfl rfl 10 (by decide) mb_X10_entry_1 rfl dX10_entry_4 ?_
  refine J_iconst O (v := 1) (pc := 7) (by decide) dX10_entry_7 ?_
  refine J_isub O (pc := 8) dX10_entry_8 ?_
  refine J_i2l O (pc := 9) dX10_entry_9 ?_
  obtain ⟨z10, h10, hf⟩ := jt_b hf
  refine J_callSi O (pc := 10) (c_X10_in l D cB cI cJ (Int32.toInt64 a1) 0 (Int32.toInt64 (m_e - 1)) h10) rfl gX10_entry_X10_in hdS_X10_in ⟨(Nat.le_of_ble_eq_true rfl), (Nat.le_of_ble_eq_true rfl)⟩ rfl (st := []) rfl (Nat.le_of_ble_eq_true rfl) [] [0, 1, 2, 3, 4, 5, 6, 7, 8, 9] rfl rfl rfl rfl rfl (by decide) [(m, .inr (6, [.ref mt, .int m_tl, .ref md, .int m_dl, .ref mk, .ref ms, .int m_c, .ref mu, .ref mn, .ref mm, .int m_e, .ref mo, .int m_ol, .int m_fa, .int m_f, .ref mw, .int m_p, .int m_is])), (mt, .inl (cI, 6000, .inl m_t)), (md, .inl (cI, 12000, .inl m_d)), (mk, .inl (cI, 61, .inl m_k)), (ms, .inl (cI, 61, .inl m_s)), (mu, .inl (cI, 41, .inl m_u)), (mn, .inl (cJ, 41, .inr (.inl m_n))), (mm, .inl (cI, 41, .inl m_m)), (mo, .inl (cI, 14000, .inl m_o)), (mw, .inl (cI, 61, .inl m_w))] [0, 1, 2, 3, 4, 5, 6, 7, 8, 9] rfl rfl rfl (0) (0) (Nat.le_of_ble_eq_true rfl) (Nat.le_of_ble_eq_true rfl) ⟨(Nat.le_of_ble_eq_true rfl), (Nat.le_of_ble_eq_true rfl)⟩ dX10_entry_10 ?_
  refine J_zeq O (tgt := 28) (pc := 13) dX10_entry_13 (by decide) (fun c13 => ?_) (fun c13 => ?_)
  · have hf := jt_f c13 hf
    refine J_ldc2 O (pc := 28) mb_X10_entry_2 dX10_entry_28 ?_
    have e9 := Option.some.inj hf
    subst e9
    exact J_lret O (pc := 31) rfl dX10_entry_31
  · have hf := jt_t c13 hf
    refine J_iload_n O (i := 2) (k0 := 2) (pc := 16) 2 rfl rfl dX10_entry_16 ?_
    refine J_i2l O (pc := 17) dX10_entry_17 ?_
    refine J_lconst O (v := 0) (pc := 18) (by decide) dX10_entry_18 ?_
    refine J_ldc2 O (pc := 19) mb_X10_entry_3 dX10_entry_19 ?_
    obtain ⟨z22, h22, hf⟩ := jt_b hf
    refine J_callSi O (pc := 22) (c_X10_in l D cB cI cJ (Int32.toInt64 a2) 0 3 h22) rfl gX10_entry_X10_in hdS_X10_in ⟨(Nat.le_of_ble_eq_true rfl), (Nat.le_of_ble_eq_true rfl)⟩ rfl (st := []) rfl (Nat.le_of_ble_eq_true rfl) [] [0, 1, 2, 3, 4, 5, 6, 7, 8, 9] rfl rfl rfl rfl rfl (by decide) [(m, .inr (6, [.ref mt, .int m_tl, .ref md, .int m_dl, .ref mk, .ref ms, .int m_c, .ref mu, .ref mn, .ref mm, .int m_e, .ref mo, .int m_ol, .int m_fa, .int m_f, .ref mw, .int m_p, .int m_is])), (mt, .inl (cI, 6000, .inl m_t)), (md, .inl (cI, 12000, .inl m_d)), (mk, .inl (cI, 61, .inl m_k)), (ms, .inl (cI, 61, .inl m_s)), (mu, .inl (cI, 41, .inl m_u)), (mn, .inl (cJ, 41, .inr (.inl m_n))), (mm, .inl (cI, 41, .inl m_m)), (mo, .inl (cI, 14000, .inl m_o)), (mw, .inl (cI, 61, .inl m_w))] [0, 1, 2, 3, 4, 5, 6, 7, 8, 9] rfl rfl rfl (0) (0) (Nat.le_of_ble_eq_true rfl) (Nat.le_of_ble_eq_true rfl) ⟨(Nat.le_of_ble_eq_true rfl), (Nat.le_of_ble_eq_true rfl)⟩ dX10_entry_22 ?_
    refine J_zne O (tgt := 32) (pc := 25) dX10_entry_25 (by decide) (fun c25 => ?_) (fun c25 => ?_)
    · have hf := jt_t c25 hf
      refine J_iload_n O (i := 2) (k0 := 2) (pc := 32) 2 rfl rfl dX10_entry_32 ?_
      refine J_if_ne O (tgt := 46) (pc := 33) dX10_entry_33 (by decide) (fun c33 => ?_) (fun c33 => ?_)
      · have hf := jt_f c33 hf
        refine J_iload_n O (i := 2) (k0 := 2) (pc := 46) 2 rfl rfl dX10_entry_46 ?_
        refine J_iconst O (v := 1) (pc := 47) (by decide) dX10_entry_47 ?_
        refine J_icmp_ne O (tgt := 60) (pc := 48) dX10_entry_48 (by decide) (fun c48 => ?_) (fun c48 => ?_)
        · have hf := jt_f c48 hf
          refine J_iload_n O (i := 2) (k0 := 2) (pc := 60) 2 rfl rfl dX10_entry_60 ?_
          refine J_iconst O (v := 2) (pc := 61) (by decide) dX10_entry_61 ?_
          refine J_icmp_ne O (tgt := 75) (pc := 62) dX10_entry_62 (by decide) (fun c62 => ?_) (fun c62 => ?_)
          · have hf := jt_f c62 hf
            refine J_aload_n O (i := 0) (k0 := 0) (pc := 75) 0 rfl rfl dX10_entry_75 ?_
            refine J_aload_n O (i := 0) (k0 := 0) (pc := 76) 0 rfl rfl dX10_entry_76 ?_
            refine J_get O (pc := 77) in_X10_entry_X10 0 rfl rfl 7 (by decide) mb_X10_entry_4 rfl dX10_entry_77 ?_
            refine J_iload_n O (i := 1) (k0 := 1) (pc := 80) 1 rfl rfl dX10_entry_80 ?_
            obtain ⟨h81, hf⟩ := jt_g hf
            refine J_iald O (pc := 81) 5 1 rfl rfl h81 dX10_entry_81 ?_
            refine J_aload_n O (i := 0) (k0 := 0) (pc := 82) 0 rfl rfl dX10_entry_82 ?_
            refine J_get O (pc := 83) in_X10_entry_X10 0 rfl rfl 9 (by decide) mb_X10_entry_5 rfl dX10_entry_83 ?_
            refine J_iload_n O (i := 1) (k0 := 1) (pc := 86) 1 rfl rfl dX10_entry_86 ?_
            obtain ⟨h87, hf⟩ := jt_g hf
            refine J_iald O (pc := 87) 7 1 rfl rfl h87 dX10_entry_87 ?_
            obtain ⟨z88, h88, hf⟩ := jt_b hf
            refine J_callVi O (pc := 88) (c_X10_goes l D cB cI cJ m mt md mk ms mu mn mm mo mw m_tl m_dl m_c m_e m_ol m_fa m_f m_p m_is m_t m_d m_k m_s m_u m_n m_m m_o m_w (m_u (Int32.toNatClampNeg a1)) (m_m (Int32.toNatClampNeg a1)) fu h88) rfl 0 rfl rfl gX10_entry_X10_goes hdV_X10_goes ⟨(Nat.le_of_ble_eq_true rfl), (Nat.le_of_ble_eq_true rfl)⟩ rfl (st := []) rfl (Nat.le_of_ble_eq_true rfl) [0, 1, 2, 3, 4, 5, 6, 7, 8, 9] [] rfl rfl rfl rfl rfl (by decide) [(m, .inr (6, [.ref mt, .int m_tl, .ref md, .int m_dl, .ref mk, .ref ms, .int m_c, .ref mu, .ref mn, .ref mm, .int m_e, .ref mo, .int m_ol, .int m_fa, .int m_f, .ref mw, .int m_p, .int m_is])), (mt, .inl (cI, 6000, .inl m_t)), (md, .inl (cI, 12000, .inl m_d)), (mk, .inl (cI, 61, .inl m_k)), (ms, .inl (cI, 61, .inl m_s)), (mu, .inl (cI, 41, .inl m_u)), (mn, .inl (cJ, 41, .inr (.inl m_n))), (mm, .inl (cI, 41, .inl m_m)), (mo, .inl (cI, 14000, .inl m_o)), (mw, .inl (cI, 61, .inl m_w))] [0, 1, 2, 3, 4, 5, 6, 7, 8, 9] rfl rfl rfl (0) (0) (Nat.le_of_ble_eq_true rfl) (Nat.le_of_ble_eq_true rfl) ⟨(Nat.le_of_ble_eq_true rfl), (Nat.le_of_ble_eq_true rfl)⟩ dX10_entry_88 ?_
            refine J_zeq O (tgt := 98) (pc := 91) dX10_entry_91 (by decide) (fun c91 => ?_) (fun c91 => ?_)
            · have hf := jt_f c91 hf
              refine J_lconst O (v := 0) (pc := 98) (by decide) dX10_entry_98 ?_
              have e9 := Option.some.inj hf
              subst e9
              exact J_lret O (pc := 99) rfl dX10_entry_99
            · have hf := jt_t c91 hf
              refine J_lconst O (v := 1) (pc := 94) (by decide) dX10_entry_94 ?_
              refine J_goto O (tgt := 99) (pc := 95) dX10_entry_95 (by decide) ?_
              have e9 := Option.some.inj hf
              subst e9
              exact J_lret O (pc := 99) rfl dX10_entry_99
          · have hf := jt_t c62 hf
            refine J_aload_n O (i := 0) (k0 := 0) (pc := 65) 0 rfl rfl dX10_entry_65 ?_
            refine J_get O (pc := 66) in_X10_entry_X10 0 rfl rfl 9 (by decide) mb_X10_entry_5 rfl dX10_entry_66 ?_
            refine J_iload_n O (i := 1) (k0 := 1) (pc := 69) 1 rfl rfl dX10_entry_69 ?_
            obtain ⟨h70, hf⟩ := jt_g hf
            refine J_iald O (pc := 70) 7 1 rfl rfl h70 dX10_entry_70 ?_
            refine J_i2l O (pc := 71) dX10_entry_71 ?_
            refine J_goto O (tgt := 99) (pc := 72) dX10_entry_72 (by decide) ?_
            have e9 := Option.some.inj hf
            subst e9
            exact J_lret O (pc := 99) rfl dX10_entry_99
        · have hf := jt_t c48 hf
          refine J_aload_n O (i := 0) (k0 := 0) (pc := 51) 0 rfl rfl dX10_entry_51 ?_
          refine J_get O (pc := 52) in_X10_entry_X10 0 rfl rfl 8 (by decide) mb_X10_entry_6 rfl dX10_entry_52 ?_
          refine J_iload_n O (i := 1) (k0 := 1) (pc := 55) 1 rfl rfl dX10_entry_55 ?_
          obtain ⟨h56, hf⟩ := jt_g hf
          refine J_lald O (pc := 56) 6 2 rfl rfl h56 dX10_entry_56 ?_
          refine J_goto O (tgt := 99) (pc := 57) dX10_entry_57 (by decide) ?_
          have e9 := Option.some.inj hf
          subst e9
          exact J_lret O (pc := 99) rfl dX10_entry_99
      · have hf := jt_t c33 hf
        refine J_aload_n O (i := 0) (k0 := 0) (pc := 36) 0 rfl rfl dX10_entry_36 ?_
        refine J_get O (pc := 37) in_X10_entry_X10 0 rfl rfl 7 (by decide) mb_X10_entry_4 rfl dX10_entry_37 ?_
        refine J_iload_n O (i := 1) (k0 := 1) (pc := 40) 1 rfl rfl dX10_entry_40 ?_
        obtain ⟨h41, hf⟩ := jt_g hf
        refine J_iald O (pc := 41) 5 1 rfl rfl h41 dX10_entry_41 ?_
        refine J_i2l O (pc := 42) dX10_entry_42 ?_
        refine J_goto O (tgt := 99) (pc := 43) dX10_entry_43 (by decide) ?_
        have e9 := Option.some.inj hf
        subst e9
        exact J_lret O (pc := 99) rfl dX10_entry_99
    · have hf := jt_f c25 hf
      refine J_ldc2 O (pc := 28) mb_X10_entry_2 dX10_entry_28 ?_
      have e9 := Option.some.inj hf
      subst e9
      exact J_lret O (pc := 31) rfl dX10_entry_31
theorem in_X10_entryFor_X10 : ∀ w ∈ u_ws RX10 TX10 18, w ∈ wsX10_entryFor := fun _ h => List.mem_cons_of_mem _ (List.mem_append_right _ h)
theorem mb_X10_entryFor_1 : Cond.fieldLink RX10 119 (TX10 10).1 (TX10 10).2.1 (TX10 10).2.2.1 ∈ wsX10_entryFor := by decide +kernel
theorem mb_X10_entryFor_2 : Cond.fieldLink RX10 22 (TX10 7).1 (TX10 7).2.1 (TX10 7).2.2.1 ∈ wsX10_entryFor := by decide +kernel
theorem mb_X10_entryFor_3 : Cond.fieldLink RX10 25 (TX10 8).1 (TX10 8).2.1 (TX10 8).2.2.1 ∈ wsX10_entryFor := by decide +kernel
abbrev rmX10_entryFor : Room := { frames := 0, cells := 0, slots := 0, locals := 0 }
set_option maxHeartbeats 4000000 in
set_option maxRecDepth 100000 in
theorem wk_X10_entryFor_7 {X : JC} {l : Launch} {D : va_G} {cB cI cJ : ClassId} (O : Jo X (l, D, cB, cI, cJ) cX10_entryFor 6 RX10 wsX10_entryFor rmX10_entryFor (some .int)) (m mt md mk ms mu mn mm mo mw : Nat) (m_tl : Int32) (m_dl : Int32) (m_c : Int32) (m_e : Int32) (m_ol : Int32) (m_fa : Int32) (m_f : Int32) (m_p : Int32) (m_is : Int32) (m_t : Nat → Int32) (m_d : Nat → Int32) (m_k : Nat → Int32) (m_s : Nat → Int32) (m_u : Nat → Int32) (m_n : Nat → Int64) (m_m : Nat → Int32) (m_o : Nat → Int32) (m_w : Nat → Int32) (a1 : Int32) (a2 : Int64) (fu : Nat) {z : Int32} : ∀ (fn : Nat) (v4 : Int32) (v5 : Int32), p_X10_entryFor_7 fu m_e m_u m_n a1 a2 fn v4 v5 = some z → J X 6 (JQi X [(m, .inr (6, [.ref mt, .int m_tl, .ref md, .int m_dl, .ref mk, .ref ms, .int m_c, .ref mu, .ref mn, .ref mm, .int m_e, .ref mo, .int m_ol, .int m_fa, .int m_f, .ref mw, .int m_p, .int m_is])), (mt, .inl (cI, 6000, .inl m_t)), (md, .inl (cI, 12000, .inl m_d)), (mk, .inl (cI, 61, .inl m_k)), (ms, .inl (cI, 61, .inl m_s)), (mu, .inl (cI, 41, .inl m_u)), (mn, .inl (cJ, 41, .inr (.inl m_n))), (mm, .inl (cI, 41, .inl m_m)), (mo, .inl (cI, 14000, .inl m_o)), (mw, .inl (cI, 61, .inl m_w))] z 0 0) [(m, .inr (6, [.ref mt, .int m_tl, .ref md, .int m_dl, .ref mk, .ref ms, .int m_c, .ref mu, .ref mn, .ref mm, .int m_e, .ref mo, .int m_ol, .int m_fa, .int m_f, .ref mw, .int m_p, .int m_is])), (mt, .inl (cI, 6000, .inl m_t)), (md, .inl (cI, 12000, .inl m_d)), (mk, .inl (cI, 61, .inl m_k)), (ms, .inl (cI, 61, .inl m_s)), (mu, .inl (cI, 41, .inl m_u)), (mn, .inl (cJ, 41, .inr (.inl m_n))), (mm, .inl (cI, 41, .inl m_m)), (mo, .inl (cI, 14000, .inl m_o)), (mw, .inl (cI, 61, .inl m_w))] 0 0 7 [(0, .ref m), (1, .int a1), (2, .long a2), (4, .int v4), (5, .int v5)] [] := by
  intro fn
  induction fn with
  | zero =>
    intro v4 v5 hf
    rw [p_X10_entryFor_7] at hf
    exact jt_n hf
  | succ fn ih =>
    intro v4 v5 hf
    rw [p_X10_entryFor_7] at hf
    refine J_iload O (i := 5) (pc := 7) 4 rfl dX10_entryFor_7 ?_
    refine J_aload_n O (i := 0) (k0 := 0) (pc := 9) 0 rfl rfl dX10_entryFor_9 ?_
    refine J_get O (pc := 10) in_X10_entryFor_X10 0 rfl rfl 10 (by decide) mb_X10_entryFor_1 rfl dX10_entryFor_10 ?_
    refine J_icmp_ge O (tgt := 54) (pc := 13) dX10_entryFor_13 (by decide) (fun c13 => ?_) (fun c13 => ?_)
    · have hf := jt_t c13 hf
      refine J_iload O (i := 4) (pc := 54) 3 rfl dX10_entryFor_54 ?_
      have e9 := Option.some.inj hf
      subst e9
      exact J_iret O (pc := 56) rfl dX10_entryFor_56
    · have hf := jt_f c13 hf
      refine J_aload_n O (i := 0) (k0 := 0) (pc := 16) 0 rfl rfl dX10_entryFor_16 ?_
      refine J_get O (pc := 17) in_X10_entryFor_X10 0 rfl rfl 7 (by decide) mb_X10_entryFor_2 rfl dX10_entryFor_17 ?_
      refine J_iload O (i := 5) (pc := 20) 4 rfl dX10_entryFor_20 ?_
      obtain ⟨h22, hf⟩ := jt_g hf
      refine J_iald O (pc := 22) 5 1 rfl rfl h22 dX10_entryFor_22 ?_
      refine J_iload_n O (i := 1) (k0 := 1) (pc := 23) 1 rfl rfl dX10_entryFor_23 ?_
      refine J_icmp_ne O (tgt := 44) (pc := 24) dX10_entryFor_24 (by decide) (fun c24 => ?_) (fun c24 => ?_)
      · have hf := jt_f c24 hf
        refine J_iload O (i := 4) (pc := 44) 3 rfl dX10_entryFor_44 ?_
        refine J_istore O (i := 4) (pc := 46) [(4, .int v4), (0, .ref m), (1, .int a1), (2, .long a2), (5, .int v5)] (by decide) rfl dX10_entryFor_46 ?_
        refine J_iinc O (i := 5) (n := 1) (v := v5 + 1) (pc := 48) 4 rfl [(5, .int (v5 + 1)), (4, .int v4), (0, .ref m), (1, .int a1), (2, .long a2)] (by decide) (congrArg (_ + ·) (by decide)) rfl dX10_entryFor_48 ?_
        refine J_goto O (tgt := 7) (pc := 51) dX10_entryFor_51 (by decide) ?_
        refine J_sub [2, 3, 4, 1, 0] (lv' := [(0, .ref m), (1, .int a1), (2, .long a2), (4, .int v4), (5, .int (v5 + 1))]) rfl ?_
        exact ih v4 (v5 + 1) hf
      · have hf := jt_t c24 hf
        refine J_aload_n O (i := 0) (k0 := 0) (pc := 27) 0 rfl rfl dX10_entryFor_27 ?_
        refine J_get O (pc := 28) in_X10_entryFor_X10 0 rfl rfl 8 (by decide) mb_X10_entryFor_3 rfl dX10_entryFor_28 ?_
        refine J_iload O (i := 5) (pc := 31) 4 rfl dX10_entryFor_31 ?_
        obtain ⟨h33, hf⟩ := jt_g hf
        refine J_lald O (pc := 33) 6 2 rfl rfl h33 dX10_entryFor_33 ?_
        refine J_lload_n O (i := 2) (k0 := 2) (pc := 34) 2 rfl rfl dX10_entryFor_34 ?_
        refine J_lif_ne O (tgt := 44) (pc := 35) dX10_entryFor_35 dX10_entryFor_36 (by decide) (fun c35 => ?_) (fun c35 => ?_)
        · have hf := jt_f c35 hf
          refine J_iload O (i := 4) (pc := 44) 3 rfl dX10_entryFor_44 ?_
          refine J_istore O (i := 4) (pc := 46) [(4, .int v4), (0, .ref m), (1, .int a1), (2, .long a2), (5, .int v5)] (by decide) rfl dX10_entryFor_46 ?_
          refine J_iinc O (i := 5) (n := 1) (v := v5 + 1) (pc := 48) 4 rfl [(5, .int (v5 + 1)), (4, .int v4), (0, .ref m), (1, .int a1), (2, .long a2)] (by decide) (congrArg (_ + ·) (by decide)) rfl dX10_entryFor_48 ?_
          refine J_goto O (tgt := 7) (pc := 51) dX10_entryFor_51 (by decide) ?_
          refine J_sub [2, 3, 4, 1, 0] (lv' := [(0, .ref m), (1, .int a1), (2, .long a2), (4, .int v4), (5, .int (v5 + 1))]) rfl ?_
          exact ih v4 (v5 + 1) hf
        · have hf := jt_t c35 hf
          refine J_iload O (i := 5) (pc := 39) 4 rfl dX10_entryFor_39 ?_
          refine J_goto O (tgt := 46) (pc := 41) dX10_entryFor_41 (by decide) ?_
          refine J_istore O (i := 4) (pc := 46) [(4, .int v5), (0, .ref m), (1, .int a1), (2, .long a2), (5, .int v5)] (by decide) rfl dX10_entryFor_46 ?_
          refine J_iinc O (i := 5) (n := 1) (v := v5 + 1) (pc := 48) 4 rfl [(5, .int (v5 + 1)), (4, .int v5), (0, .ref m), (1, .int a1), (2, .long a2)] (by decide) (congrArg (_ + ·) (by decide)) rfl dX10_entryFor_48 ?_
          refine J_goto O (tgt := 7) (pc := 51) dX10_entryFor_51 (by decide) ?_
          refine J_sub [2, 3, 4, 1, 0] (lv' := [(0, .ref m), (1, .int a1), (2, .long a2), (4, .int v5), (5, .int (v5 + 1))]) rfl ?_
          exact ih v5 (v5 + 1) hf
set_option maxHeartbeats 4000000 in
set_option maxRecDepth 100000 in
theorem c_X10_entryFor (l : Launch) (D : va_G) (cB cI cJ : ClassId) (m mt md mk ms mu mn mm mo mw : Nat) (m_tl : Int32) (m_dl : Int32) (m_c : Int32) (m_e : Int32) (m_ol : Int32) (m_fa : Int32) (m_f : Int32) (m_p : Int32) (m_is : Int32) (m_t : Nat → Int32) (m_d : Nat → Int32) (m_k : Nat → Int32) (m_s : Nat → Int32) (m_u : Nat → Int32) (m_n : Nat → Int64) (m_m : Nat → Int32) (m_o : Nat → Int32) (m_w : Nat → Int32) (a1 : Int32) (a2 : Int64) (fu : Nat) {z : Int32} (hf : p_X10_entryFor fu m_e m_u m_n a1 a2 = some z) : Ci (l, D, cB, cI, cJ) yX10_entryFor wsX10_entryFor rmX10_entryFor [.ref m, .int a1, .long a2] [(m, .inr (6, [.ref mt, .int m_tl, .ref md, .int m_dl, .ref mk, .ref ms, .int m_c, .ref mu, .ref mn, .ref mm, .int m_e, .ref mo, .int m_ol, .int m_fa, .int m_f, .ref mw, .int m_p, .int m_is])), (mt, .inl (cI, 6000, .inl m_t)), (md, .inl (cI, 12000, .inl m_d)), (mk, .inl (cI, 61, .inl m_k)), (ms, .inl (cI, 61, .inl m_s)), (mu, .inl (cI, 41, .inl m_u)), (mn, .inl (cJ, 41, .inr (.inl m_n))), (mm, .inl (cI, 41, .inl m_m)), (mo, .inl (cI, 14000, .inl m_o)), (mw, .inl (cI, 61, .inl m_w))] [(m, .inr (6, [.ref mt, .int m_tl, .ref md, .int m_dl, .ref mk, .ref ms, .int m_c, .ref mu, .ref mn, .ref mm, .int m_e, .ref mo, .int m_ol, .int m_fa, .int m_f, .ref mw, .int m_p, .int m_is])), (mt, .inl (cI, 6000, .inl m_t)), (md, .inl (cI, 12000, .inl m_d)), (mk, .inl (cI, 61, .inl m_k)), (ms, .inl (cI, 61, .inl m_s)), (mu, .inl (cI, 41, .inl m_u)), (mn, .inl (cJ, 41, .inr (.inl m_n))), (mm, .inl (cI, 41, .inl m_m)), (mo, .inl (cI, 14000, .inl m_o)), (mw, .inl (cI, 61, .inl m_w))] z := by
  refine Ci_of (cc := cX10_entryFor) (nL := 6) (own := RX10) (ret := (some .int)) (by decide) rfl rfl (Nat.le_of_ble_eq_true rfl) (fun X O hnm0 => ?_)
  rw [p_X10_entryFor] at hf
  show J X 6 (JQi X [(m, .inr (6, [.ref mt, .int m_tl, .ref md, .int m_dl, .ref mk, .ref ms, .int m_c, .ref mu, .ref mn, .ref mm, .int m_e, .ref mo, .int m_ol, .int m_fa, .int m_f, .ref mw, .int m_p, .int m_is])), (mt, .inl (cI, 6000, .inl m_t)), (md, .inl (cI, 12000, .inl m_d)), (mk, .inl (cI, 61, .inl m_k)), (ms, .inl (cI, 61, .inl m_s)), (mu, .inl (cI, 41, .inl m_u)), (mn, .inl (cJ, 41, .inr (.inl m_n))), (mm, .inl (cI, 41, .inl m_m)), (mo, .inl (cI, 14000, .inl m_o)), (mw, .inl (cI, 61, .inl m_w))] z 0 0) [(m, .inr (6, [.ref mt, .int m_tl, .ref md, .int m_dl, .ref mk, .ref ms, .int m_c, .ref mu, .ref mn, .ref mm, .int m_e, .ref mo, .int m_ol, .int m_fa, .int m_f, .ref mw, .int m_p, .int m_is])), (mt, .inl (cI, 6000, .inl m_t)), (md, .inl (cI, 12000, .inl m_d)), (mk, .inl (cI, 61, .inl m_k)), (ms, .inl (cI, 61, .inl m_s)), (mu, .inl (cI, 41, .inl m_u)), (mn, .inl (cJ, 41, .inr (.inl m_n))), (mm, .inl (cI, 41, .inl m_m)), (mo, .inl (cI, 14000, .inl m_o)), (mw, .inl (cI, 61, .inl m_w))] 0 0 0 [(0, .ref m), (1, .int a1), (2, .long a2)] []
  refine J_bipush O (v := (-2)) (pc := 0) (by decide) dX10_entryFor_0 ?_
  refine J_istore O (i := 4) (pc := 2) [(4, .int (-2)), (0, .ref m), (1, .int a1), (2, .long a2)] (by decide) rfl dX10_entryFor_2 ?_
  refine J_iconst O (v := 0) (pc := 4) (by decide) dX10_entryFor_4 ?_
  refine J_istore O (i := 5) (pc := 5) [(5, .int 0), (4, .int (-2)), (0, .ref m), (1, .int a1), (2, .long a2)] (by decide) rfl dX10_entryFor_5 ?_
  refine J_sub [2, 3, 4, 1, 0] (lv' := [(0, .ref m), (1, .int a1), (2, .long a2), (4, .int (-2)), (5, .int 0)]) rfl ?_
  exact wk_X10_entryFor_7 O m mt md mk ms mu mn mm mo mw m_tl m_dl m_c m_e m_ol m_fa m_f m_p m_is m_t m_d m_k m_s m_u m_n m_m m_o m_w a1 a2 fu fu (-2) 0 hf
theorem hdS_X10_isNumber : yX10_isNumber.cls ≠ "java/lang/invoke/MethodHandle" ∧ yX10_isNumber.cls ≠ "java/lang/invoke/VarHandle" ∧ (parseMethodDescriptor yX10_isNumber.desc).map (fun d => d.parameters.length) = some 1 := by decide +kernel
theorem hdV_X10_entryFor : yX10_entryFor.cls = RX10 ∧ yX10_entryFor.cls ≠ "java/lang/invoke/MethodHandle" ∧ yX10_entryFor.cls ≠ "java/lang/invoke/VarHandle" ∧ (parseMethodDescriptor yX10_entryFor.desc).map (fun d => d.parameters.length) = some 2 := by decide +kernel
theorem in_X10_find_X10 : ∀ w ∈ u_ws RX10 TX10 18, w ∈ wsX10_find := fun _ h => List.mem_cons_of_mem _ (List.mem_append_right _ h)
theorem mb_X10_find_1 : Cond.fieldLink RX10 29 (TX10 9).1 (TX10 9).2.1 (TX10 9).2.2.1 ∈ wsX10_find := by decide +kernel
abbrev rmX10_find : Room := { frames := 2, cells := 0, slots := 0, locals := 46 }
set_option maxHeartbeats 4000000 in
set_option maxRecDepth 100000 in
theorem c_X10_find (l : Launch) (D : va_G) (cB cI cJ : ClassId) (m mt md mk ms mu mn mm mo mw : Nat) (m_tl : Int32) (m_dl : Int32) (m_c : Int32) (m_e : Int32) (m_ol : Int32) (m_fa : Int32) (m_f : Int32) (m_p : Int32) (m_is : Int32) (m_t : Nat → Int32) (m_d : Nat → Int32) (m_k : Nat → Int32) (m_s : Nat → Int32) (m_u : Nat → Int32) (m_n : Nat → Int64) (m_m : Nat → Int32) (m_o : Nat → Int32) (m_w : Nat → Int32) (a1 : Int32) (a2 : Int64) (fu : Nat) {z : Int32} (hf : p_X10_find fu m_e m_u m_n m_m a1 a2 = some z) : Ci (l, D, cB, cI, cJ) yX10_find wsX10_find rmX10_find [.ref m, .int a1, .long a2] [(m, .inr (6, [.ref mt, .int m_tl, .ref md, .int m_dl, .ref mk, .ref ms, .int m_c, .ref mu, .ref mn, .ref mm, .int m_e, .ref mo, .int m_ol, .int m_fa, .int m_f, .ref mw, .int m_p, .int m_is])), (mt, .inl (cI, 6000, .inl m_t)), (md, .inl (cI, 12000, .inl m_d)), (mk, .inl (cI, 61, .inl m_k)), (ms, .inl (cI, 61, .inl m_s)), (mu, .inl (cI, 41, .inl m_u)), (mn, .inl (cJ, 41, .inr (.inl m_n))), (mm, .inl (cI, 41, .inl m_m)), (mo, .inl (cI, 14000, .inl m_o)), (mw, .inl (cI, 61, .inl m_w))] [(m, .inr (6, [.ref mt, .int m_tl, .ref md, .int m_dl, .ref mk, .ref ms, .int m_c, .ref mu, .ref mn, .ref mm, .int m_e, .ref mo, .int m_ol, .int m_fa, .int m_f, .ref mw, .int m_p, .int m_is])), (mt, .inl (cI, 6000, .inl m_t)), (md, .inl (cI, 12000, .inl m_d)), (mk, .inl (cI, 61, .inl m_k)), (ms, .inl (cI, 61, .inl m_s)), (mu, .inl (cI, 41, .inl m_u)), (mn, .inl (cJ, 41, .inr (.inl m_n))), (mm, .inl (cI, 41, .inl m_m)), (mo, .inl (cI, 14000, .inl m_o)), (mw, .inl (cI, 61, .inl m_w))] z := by
  refine Ci_of (cc := cX10_find) (nL := 5) (own := RX10) (ret := (some .int)) (by decide) rfl rfl (Nat.le_of_ble_eq_true rfl) (fun X O hnm0 => ?_)
  rw [p_X10_find] at hf
  show J X 5 (JQi X [(m, .inr (6, [.ref mt, .int m_tl, .ref md, .int m_dl, .ref mk, .ref ms, .int m_c, .ref mu, .ref mn, .ref mm, .int m_e, .ref mo, .int m_ol, .int m_fa, .int m_f, .ref mw, .int m_p, .int m_is])), (mt, .inl (cI, 6000, .inl m_t)), (md, .inl (cI, 12000, .inl m_d)), (mk, .inl (cI, 61, .inl m_k)), (ms, .inl (cI, 61, .inl m_s)), (mu, .inl (cI, 41, .inl m_u)), (mn, .inl (cJ, 41, .inr (.inl m_n))), (mm, .inl (cI, 41, .inl m_m)), (mo, .inl (cI, 14000, .inl m_o)), (mw, .inl (cI, 61, .inl m_w))] z 0 0) [(m, .inr (6, [.ref mt, .int m_tl, .ref md, .int m_dl, .ref mk, .ref ms, .int m_c, .ref mu, .ref mn, .ref mm, .int m_e, .ref mo, .int m_ol, .int m_fa, .int m_f, .ref mw, .int m_p, .int m_is])), (mt, .inl (cI, 6000, .inl m_t)), (md, .inl (cI, 12000, .inl m_d)), (mk, .inl (cI, 61, .inl m_k)), (ms, .inl (cI, 61, .inl m_s)), (mu, .inl (cI, 41, .inl m_u)), (mn, .inl (cJ, 41, .inr (.inl m_n))), (mm, .inl (cI, 41, .inl m_m)), (mo, .inl (cI, 14000, .inl m_o)), (mw, .inl (cI, 61, .inl m_w))] 0 0 0 [(0, .ref m), (1, .int a1), (2, .long a2)] []
  refine J_iload_n O (i := 1) (k0 := 1) (pc := 0) 1 rfl rfl dX10_find_0 ?_
  obtain ⟨z1, h1, hf⟩ := jt_b hf
  refine J_callSi O (pc := 1) (c_X10_isUse l D cB cI cJ a1 h1) rfl gX10_find_X10_isUse hdS_X10_isUse ⟨(Nat.le_of_ble_eq_true rfl), (Nat.le_of_ble_eq_true rfl)⟩ rfl (st := []) rfl (Nat.le_of_ble_eq_true rfl) [] [0, 1, 2, 3, 4, 5, 6, 7, 8, 9] rfl rfl rfl rfl rfl (by decide) [(m, .inr (6, [.ref mt, .int m_tl, .ref md, .int m_dl, .ref mk, .ref ms, .int m_c, .ref mu, .ref mn, .ref mm, .int m_e, .ref mo, .int m_ol, .int m_fa, .int m_f, .ref mw, .int m_p, .int m_is])), (mt, .inl (cI, 6000, .inl m_t)), (md, .inl (cI, 12000, .inl m_d)), (mk, .inl (cI, 61, .inl m_k)), (ms, .inl (cI, 61, .inl m_s)), (mu, .inl (cI, 41, .inl m_u)), (mn, .inl (cJ, 41, .inr (.inl m_n))), (mm, .inl (cI, 41, .inl m_m)), (mo, .inl (cI, 14000, .inl m_o)), (mw, .inl (cI, 61, .inl m_w))] [0, 1, 2, 3, 4, 5, 6, 7, 8, 9] rfl rfl rfl (0) (0) (Nat.le_of_ble_eq_true rfl) (Nat.le_of_ble_eq_true rfl) ⟨(Nat.le_of_ble_eq_true rfl), (Nat.le_of_ble_eq_true rfl)⟩ dX10_find_1 ?_
  refine J_zeq O (tgt := 14) (pc := 4) dX10_find_4 (by decide) (fun c4 => ?_) (fun c4 => ?_)
  · have hf := jt_f c4 hf
    refine J_iconst O (v := (-1)) (pc := 14) (by decide) dX10_find_14 ?_
    have e9 := Option.some.inj hf
    subst e9
    exact J_iret O (pc := 15) rfl dX10_find_15
  · have hf := jt_t c4 hf
    refine J_lload_n O (i := 2) (k0 := 2) (pc := 7) 2 rfl rfl dX10_find_7 ?_
    obtain ⟨z8, h8, hf⟩ := jt_b hf
    refine J_callSi O (pc := 8) (c_X10_isNumber l D cB cI cJ a2 h8) rfl gX10_find_X10_isNumber hdS_X10_isNumber ⟨(Nat.le_of_ble_eq_true rfl), (Nat.le_of_ble_eq_true rfl)⟩ rfl (st := []) rfl (Nat.le_of_ble_eq_true rfl) [] [0, 1, 2, 3, 4, 5, 6, 7, 8, 9] rfl rfl rfl rfl rfl (by decide) [(m, .inr (6, [.ref mt, .int m_tl, .ref md, .int m_dl, .ref mk, .ref ms, .int m_c, .ref mu, .ref mn, .ref mm, .int m_e, .ref mo, .int m_ol, .int m_fa, .int m_f, .ref mw, .int m_p, .int m_is])), (mt, .inl (cI, 6000, .inl m_t)), (md, .inl (cI, 12000, .inl m_d)), (mk, .inl (cI, 61, .inl m_k)), (ms, .inl (cI, 61, .inl m_s)), (mu, .inl (cI, 41, .inl m_u)), (mn, .inl (cJ, 41, .inr (.inl m_n))), (mm, .inl (cI, 41, .inl m_m)), (mo, .inl (cI, 14000, .inl m_o)), (mw, .inl (cI, 61, .inl m_w))] [0, 1, 2, 3, 4, 5, 6, 7, 8, 9] rfl rfl rfl (0) (0) (Nat.le_of_ble_eq_true rfl) (Nat.le_of_ble_eq_true rfl) ⟨(Nat.le_of_ble_eq_true rfl), (Nat.le_of_ble_eq_true rfl)⟩ dX10_find_8 ?_
    refine J_zne O (tgt := 16) (pc := 11) dX10_find_11 (by decide) (fun c11 => ?_) (fun c11 => ?_)
    · have hf := jt_t c11 hf
      refine J_aload_n O (i := 0) (k0 := 0) (pc := 16) 0 rfl rfl dX10_find_16 ?_
      refine J_iload_n O (i := 1) (k0 := 1) (pc := 17) 1 rfl rfl dX10_find_17 ?_
      refine J_lload_n O (i := 2) (k0 := 2) (pc := 18) 2 rfl rfl dX10_find_18 ?_
      obtain ⟨z19, h19, hf⟩ := jt_b hf
      refine J_callVi O (pc := 19) (c_X10_entryFor l D cB cI cJ m mt md mk ms mu mn mm mo mw m_tl m_dl m_c m_e m_ol m_fa m_f m_p m_is m_t m_d m_k m_s m_u m_n m_m m_o m_w a1 a2 fu h19) rfl 0 rfl rfl gX10_find_X10_entryFor hdV_X10_entryFor ⟨(Nat.le_of_ble_eq_true rfl), (Nat.le_of_ble_eq_true rfl)⟩ rfl (st := []) rfl (Nat.le_of_ble_eq_true rfl) [0, 1, 2, 3, 4, 5, 6, 7, 8, 9] [] rfl rfl rfl rfl rfl (by decide) [(m, .inr (6, [.ref mt, .int m_tl, .ref md, .int m_dl, .ref mk, .ref ms, .int m_c, .ref mu, .ref mn, .ref mm, .int m_e, .ref mo, .int m_ol, .int m_fa, .int m_f, .ref mw, .int m_p, .int m_is])), (mt, .inl (cI, 6000, .inl m_t)), (md, .inl (cI, 12000, .inl m_d)), (mk, .inl (cI, 61, .inl m_k)), (ms, .inl (cI, 61, .inl m_s)), (mu, .inl (cI, 41, .inl m_u)), (mn, .inl (cJ, 41, .inr (.inl m_n))), (mm, .inl (cI, 41, .inl m_m)), (mo, .inl (cI, 14000, .inl m_o)), (mw, .inl (cI, 61, .inl m_w))] [0, 1, 2, 3, 4, 5, 6, 7, 8, 9] rfl rfl rfl (0) (0) (Nat.le_of_ble_eq_true rfl) (Nat.le_of_ble_eq_true rfl) ⟨(Nat.le_of_ble_eq_true rfl), (Nat.le_of_ble_eq_true rfl)⟩ dX10_find_19 ?_
      refine J_istore O (i := 4) (pc := 22) [(4, .int z19), (0, .ref m), (1, .int a1), (2, .long a2)] (by decide) rfl dX10_find_22 ?_
      refine J_iload O (i := 4) (pc := 24) 0 rfl dX10_find_24 ?_
      refine J_bipush O (v := (-2)) (pc := 26) (by decide) dX10_find_26 ?_
      refine J_icmp_ne O (tgt := 36) (pc := 28) dX10_find_28 (by decide) (fun c28 => ?_) (fun c28 => ?_)
      · have hf := jt_f c28 hf
        refine J_aload_n O (i := 0) (k0 := 0) (pc := 36) 1 rfl rfl dX10_find_36 ?_
        refine J_get O (pc := 37) in_X10_find_X10 0 rfl rfl 9 (by decide) mb_X10_find_1 rfl dX10_find_37 ?_
        refine J_iload O (i := 4) (pc := 40) 0 rfl dX10_find_40 ?_
        obtain ⟨h42, hf⟩ := jt_g hf
        refine J_iald O (pc := 42) 7 1 rfl rfl h42 dX10_find_42 ?_
        have e9 := Option.some.inj hf
        subst e9
        exact J_iret O (pc := 43) rfl dX10_find_43
      · have hf := jt_t c28 hf
        refine J_bipush O (v := (-2)) (pc := 31) (by decide) dX10_find_31 ?_
        refine J_goto O (tgt := 43) (pc := 33) dX10_find_33 (by decide) ?_
        have e9 := Option.some.inj hf
        subst e9
        exact J_iret O (pc := 43) rfl dX10_find_43
    · have hf := jt_f c11 hf
      refine J_iconst O (v := (-1)) (pc := 14) (by decide) dX10_find_14 ?_
      have e9 := Option.some.inj hf
      subst e9
      exact J_iret O (pc := 15) rfl dX10_find_15
