theorem in_X10_commOf_X10 : ∀ w ∈ u_ws RX10 TX10 18, w ∈ wsX10_commOf := fun _ h => List.mem_cons_of_mem _ (List.mem_append_right _ h)
theorem mb_X10_commOf_1 : Cond.fieldLink RX10 16 (TX10 4).1 (TX10 4).2.1 (TX10 4).2.2.1 ∈ wsX10_commOf := by decide +kernel
theorem mb_X10_commOf_2 : Cond.constant RX10 74 1179603533 ∈ wsX10_commOf := by decide +kernel
theorem mb_X10_commOf_3 : Cond.fieldLink RX10 19 (TX10 5).1 (TX10 5).2.1 (TX10 5).2.2.1 ∈ wsX10_commOf := by decide +kernel
theorem mb_X10_commOf_4 : Cond.fieldLink RX10 13 (TX10 2).1 (TX10 2).2.1 (TX10 2).2.2.1 ∈ wsX10_commOf := by decide +kernel
theorem mb_X10_commOf_5 : Cond.constant RX10 142 1095321158 ∈ wsX10_commOf := by decide +kernel
theorem mb_X10_commOf_6 : Cond.constantLong RX10 90 4 ∈ wsX10_commOf := by decide +kernel
theorem mb_X10_commOf_7 : Cond.constantLong RX10 56 8 ∈ wsX10_commOf := by decide +kernel
theorem mb_X10_commOf_8 : Cond.constant RX10 191 1129270605 ∈ wsX10_commOf := by decide +kernel
theorem mb_X10_commOf_9 : Cond.constantLong RX10 102 2 ∈ wsX10_commOf := by decide +kernel
theorem mb_X10_commOf_10 : Cond.constantLong RX10 192 18 ∈ wsX10_commOf := by decide +kernel
abbrev rmX10_commOf : Room := { frames := 2, cells := 0, slots := 0, locals := 42 }
set_option maxHeartbeats 4000000 in
set_option maxRecDepth 100000 in
theorem wk_X10_commOf_47 {X : JC} {l : Launch} {D : va_G} {cB cI cJ : ClassId} (O : Jo X (l, D, cB, cI, cJ) cX10_commOf 8 RX10 wsX10_commOf rmX10_commOf (some .int)) (m mt md mk ms mu mn mm mo mw : Nat) (m_tl : Int32) (m_dl : Int32) (m_c : Int32) (m_e : Int32) (m_ol : Int32) (m_fa : Int32) (m_f : Int32) (m_p : Int32) (m_is : Int32) (m_t : Nat → Int32) (m_d : Nat → Int32) (m_k : Nat → Int32) (m_s : Nat → Int32) (m_u : Nat → Int32) (m_n : Nat → Int64) (m_m : Nat → Int32) (m_o : Nat → Int32) (m_w : Nat → Int32) (a1 : Int32) (fu : Nat) {z : Int32} : ∀ (fn : Nat) (v2 : Int32) (v3 : Int64), p_X10_commOf_47 fu m_d m_k m_s a1 fn v2 v3 = some z → J X 8 (JQi X [(m, .inr (6, [.ref mt, .int m_tl, .ref md, .int m_dl, .ref mk, .ref ms, .int m_c, .ref mu, .ref mn, .ref mm, .int m_e, .ref mo, .int m_ol, .int m_fa, .int m_f, .ref mw, .int m_p, .int m_is])), (mt, .inl (cI, 6000, .inl m_t)), (md, .inl (cI, 12000, .inl m_d)), (mk, .inl (cI, 61, .inl m_k)), (ms, .inl (cI, 61, .inl m_s)), (mu, .inl (cI, 41, .inl m_u)), (mn, .inl (cJ, 41, .inr (.inl m_n))), (mm, .inl (cI, 41, .inl m_m)), (mo, .inl (cI, 14000, .inl m_o)), (mw, .inl (cI, 61, .inl m_w))] z 0 0) [(m, .inr (6, [.ref mt, .int m_tl, .ref md, .int m_dl, .ref mk, .ref ms, .int m_c, .ref mu, .ref mn, .ref mm, .int m_e, .ref mo, .int m_ol, .int m_fa, .int m_f, .ref mw, .int m_p, .int m_is])), (mt, .inl (cI, 6000, .inl m_t)), (md, .inl (cI, 12000, .inl m_d)), (mk, .inl (cI, 61, .inl m_k)), (ms, .inl (cI, 61, .inl m_s)), (mu, .inl (cI, 41, .inl m_u)), (mn, .inl (cJ, 41, .inr (.inl m_n))), (mm, .inl (cI, 41, .inl m_m)), (mo, .inl (cI, 14000, .inl m_o)), (mw, .inl (cI, 61, .inl m_w))] 0 0 47 [(0, .ref m), (1, .int a1), (2, .int v2), (3, .long v3)] [] := by
  intro fn
  induction fn with
  | zero =>
    intro v2 v3 hf
    rw [p_X10_commOf_47] at hf
    exact jt_n hf
  | succ fn ih =>
    intro v2 v3 hf
    rw [p_X10_commOf_47] at hf
    refine J_lload_n O (i := 3) (k0 := 3) (pc := 47) 3 rfl rfl dX10_commOf_47 ?_
    refine J_ldc2 O (pc := 48) mb_X10_commOf_7 dX10_commOf_48 ?_
    refine J_ladd O (pc := 51) dX10_commOf_51 ?_
    refine J_aload_n O (i := 0) (k0 := 0) (pc := 52) 0 rfl rfl dX10_commOf_52 ?_
    refine J_get O (pc := 53) in_X10_commOf_X10 0 rfl rfl 5 (by decide) mb_X10_commOf_3 rfl dX10_commOf_53 ?_
    refine J_iload_n O (i := 1) (k0 := 1) (pc := 56) 1 rfl rfl dX10_commOf_56 ?_
    obtain ⟨h57, hf⟩ := jt_g hf
    refine J_iald O (pc := 57) 4 1 rfl rfl h57 dX10_commOf_57 ?_
    refine J_i2l O (pc := 58) dX10_commOf_58 ?_
    refine J_lif_gt O (tgt := 152) (pc := 59) dX10_commOf_59 dX10_commOf_60 (by decide) (fun c59 => ?_) (fun c59 => ?_)
    · have hf := jt_t c59 hf
      refine J_bipush O (v := (-2)) (pc := 152) (by decide) dX10_commOf_152 ?_
      have e9 := Option.some.inj hf
      subst e9
      exact J_iret O (pc := 154) rfl dX10_commOf_154
    · have hf := jt_f c59 hf
      refine J_iload_n O (i := 2) (k0 := 2) (pc := 63) 2 rfl rfl dX10_commOf_63 ?_
      refine J_lload_n O (i := 3) (k0 := 3) (pc := 64) 3 rfl rfl dX10_commOf_64 ?_
      refine J_l2i O (pc := 65) dX10_commOf_65 ?_
      refine J_iadd O (pc := 66) dX10_commOf_66 ?_
      refine J_istore O (i := 5) (pc := 67) [(5, .int (v2 + (Int64.toInt32 v3))), (0, .ref m), (1, .int a1), (2, .int v2), (3, .long v3)] (by decide) rfl dX10_commOf_67 ?_
      refine J_aload_n O (i := 0) (k0 := 0) (pc := 69) 1 rfl rfl dX10_commOf_69 ?_
      refine J_get O (pc := 70) in_X10_commOf_X10 0 rfl rfl 2 (by decide) mb_X10_commOf_4 rfl dX10_commOf_70 ?_
      refine J_iload O (i := 5) (pc := 73) 0 rfl dX10_commOf_73 ?_
      refine J_iconst O (v := 4) (pc := 75) (by decide) dX10_commOf_75 ?_
      refine J_iadd O (pc := 76) dX10_commOf_76 ?_
      obtain ⟨z77, h77, hf⟩ := jt_b hf
      refine J_callSl O (pc := 77) (c_X10_four l D cB cI cJ md 12000 m_d ((v2 + (Int64.toInt32 v3)) + 4) h77) rfl gX10_commOf_X10_four hdS_X10_four ⟨(Nat.le_of_ble_eq_true rfl), (Nat.le_of_ble_eq_true rfl)⟩ rfl (st := []) rfl (Nat.le_of_ble_eq_true rfl) [2] [0, 1, 3, 4, 5, 6, 7, 8, 9] rfl rfl rfl rfl rfl (by decide) [(m, .inr (6, [.ref mt, .int m_tl, .ref md, .int m_dl, .ref mk, .ref ms, .int m_c, .ref mu, .ref mn, .ref mm, .int m_e, .ref mo, .int m_ol, .int m_fa, .int m_f, .ref mw, .int m_p, .int m_is])), (mt, .inl (cI, 6000, .inl m_t)), (md, .inl (cI, 12000, .inl m_d)), (mk, .inl (cI, 61, .inl m_k)), (ms, .inl (cI, 61, .inl m_s)), (mu, .inl (cI, 41, .inl m_u)), (mn, .inl (cJ, 41, .inr (.inl m_n))), (mm, .inl (cI, 41, .inl m_m)), (mo, .inl (cI, 14000, .inl m_o)), (mw, .inl (cI, 61, .inl m_w))] [0, 1, 9, 2, 3, 4, 5, 6, 7, 8] rfl rfl rfl (0) (0) (Nat.le_of_ble_eq_true rfl) (Nat.le_of_ble_eq_true rfl) ⟨(Nat.le_of_ble_eq_true rfl), (Nat.le_of_ble_eq_true rfl)⟩ dX10_commOf_77 ?_
      refine J_lstore O (i := 6) (pc := 80) [(6, .long z77), (5, .int (v2 + (Int64.toInt32 v3))), (0, .ref m), (1, .int a1), (2, .int v2), (3, .long v3)] (by decide) rfl dX10_commOf_80 ?_
      refine J_lload_n O (i := 3) (k0 := 3) (pc := 82) 5 rfl rfl dX10_commOf_82 ?_
      refine J_ldc2 O (pc := 83) mb_X10_commOf_7 dX10_commOf_83 ?_
      refine J_ladd O (pc := 86) dX10_commOf_86 ?_
      refine J_lload O (i := 6) (pc := 87) 0 rfl dX10_commOf_87 ?_
      refine J_ladd O (pc := 89) dX10_commOf_89 ?_
      refine J_aload_n O (i := 0) (k0 := 0) (pc := 90) 2 rfl rfl dX10_commOf_90 ?_
      refine J_get O (pc := 91) in_X10_commOf_X10 0 rfl rfl 5 (by decide) mb_X10_commOf_3 rfl dX10_commOf_91 ?_
      refine J_iload_n O (i := 1) (k0 := 1) (pc := 94) 3 rfl rfl dX10_commOf_94 ?_
      obtain ⟨h95, hf⟩ := jt_g hf
      refine J_iald O (pc := 95) 4 1 rfl rfl h95 dX10_commOf_95 ?_
      refine J_i2l O (pc := 96) dX10_commOf_96 ?_
      refine J_lif_le O (tgt := 104) (pc := 97) dX10_commOf_97 dX10_commOf_98 (by decide) (fun c97 => ?_) (fun c97 => ?_)
      · have hf := jt_t c97 hf
        refine J_aload_n O (i := 0) (k0 := 0) (pc := 104) 2 rfl rfl dX10_commOf_104 ?_
        refine J_get O (pc := 105) in_X10_commOf_X10 0 rfl rfl 2 (by decide) mb_X10_commOf_4 rfl dX10_commOf_105 ?_
        refine J_iload O (i := 5) (pc := 108) 1 rfl dX10_commOf_108 ?_
        obtain ⟨z110, h110, hf⟩ := jt_b hf
        refine J_callSi O (pc := 110) (c_X10_kindIn l D cB cI cJ md 12000 m_d (v2 + (Int64.toInt32 v3)) h110) rfl gX10_commOf_X10_kindIn hdS_X10_kindIn ⟨(Nat.le_of_ble_eq_true rfl), (Nat.le_of_ble_eq_true rfl)⟩ rfl (st := []) rfl (Nat.le_of_ble_eq_true rfl) [2] [0, 1, 3, 4, 5, 6, 7, 8, 9] rfl rfl rfl rfl rfl (by decide) [(m, .inr (6, [.ref mt, .int m_tl, .ref md, .int m_dl, .ref mk, .ref ms, .int m_c, .ref mu, .ref mn, .ref mm, .int m_e, .ref mo, .int m_ol, .int m_fa, .int m_f, .ref mw, .int m_p, .int m_is])), (mt, .inl (cI, 6000, .inl m_t)), (md, .inl (cI, 12000, .inl m_d)), (mk, .inl (cI, 61, .inl m_k)), (ms, .inl (cI, 61, .inl m_s)), (mu, .inl (cI, 41, .inl m_u)), (mn, .inl (cJ, 41, .inr (.inl m_n))), (mm, .inl (cI, 41, .inl m_m)), (mo, .inl (cI, 14000, .inl m_o)), (mw, .inl (cI, 61, .inl m_w))] [0, 1, 9, 2, 3, 4, 5, 6, 7, 8] rfl rfl rfl (0) (0) (Nat.le_of_ble_eq_true rfl) (Nat.le_of_ble_eq_true rfl) ⟨(Nat.le_of_ble_eq_true rfl), (Nat.le_of_ble_eq_true rfl)⟩ dX10_commOf_110 ?_
        refine J_ldc O (pc := 113) mb_X10_commOf_8 dX10_commOf_113 ?_
        refine J_icmp_ne O (tgt := 133) (pc := 115) dX10_commOf_115 (by decide) (fun c115 => ?_) (fun c115 => ?_)
        · have hf := jt_f c115 hf
          refine J_lload_n O (i := 3) (k0 := 3) (pc := 133) 5 rfl rfl dX10_commOf_133 ?_
          refine J_ldc2 O (pc := 134) mb_X10_commOf_7 dX10_commOf_134 ?_
          refine J_lload O (i := 6) (pc := 137) 0 rfl dX10_commOf_137 ?_
          refine J_ladd O (pc := 139) dX10_commOf_139 ?_
          refine J_lload O (i := 6) (pc := 140) 0 rfl dX10_commOf_140 ?_
          refine J_ldc2 O (pc := 142) mb_X10_commOf_9 dX10_commOf_142 ?_
          refine J_lrem O (pc := 145) (by decide) dX10_commOf_145 ?_
          refine J_ladd O (pc := 146) dX10_commOf_146 ?_
          refine J_ladd O (pc := 147) dX10_commOf_147 ?_
          refine J_lstore_n O (i := 3) (k0 := 3) (pc := 148) rfl [(3, .long (v3 + ((8 + z77) + (z77 - z77 / 2 * 2)))), (6, .long z77), (5, .int (v2 + (Int64.toInt32 v3))), (0, .ref m), (1, .int a1), (2, .int v2)] (by decide) rfl dX10_commOf_148 ?_
          refine J_goto O (tgt := 47) (pc := 149) dX10_commOf_149 (by decide) ?_
          refine J_sub [3, 4, 5, 0] (lv' := [(0, .ref m), (1, .int a1), (2, .int v2), (3, .long (v3 + ((8 + z77) + (z77 - z77 / 2 * 2))))]) rfl ?_
          exact ih v2 (v3 + ((8 + z77) + (z77 - z77 / 2 * 2))) hf
        · have hf := jt_t c115 hf
          refine J_lload O (i := 6) (pc := 118) 0 rfl dX10_commOf_118 ?_
          refine J_ldc2 O (pc := 120) mb_X10_commOf_10 dX10_commOf_120 ?_
          refine J_lif_lt O (tgt := 133) (pc := 123) dX10_commOf_123 dX10_commOf_124 (by decide) (fun c123 => ?_) (fun c123 => ?_)
          · have hf := jt_t c123 hf
            refine J_lload_n O (i := 3) (k0 := 3) (pc := 133) 5 rfl rfl dX10_commOf_133 ?_
            refine J_ldc2 O (pc := 134) mb_X10_commOf_7 dX10_commOf_134 ?_
            refine J_lload O (i := 6) (pc := 137) 0 rfl dX10_commOf_137 ?_
            refine J_ladd O (pc := 139) dX10_commOf_139 ?_
            refine J_lload O (i := 6) (pc := 140) 0 rfl dX10_commOf_140 ?_
            refine J_ldc2 O (pc := 142) mb_X10_commOf_9 dX10_commOf_142 ?_
            refine J_lrem O (pc := 145) (by decide) dX10_commOf_145 ?_
            refine J_ladd O (pc := 146) dX10_commOf_146 ?_
            refine J_ladd O (pc := 147) dX10_commOf_147 ?_
            refine J_lstore_n O (i := 3) (k0 := 3) (pc := 148) rfl [(3, .long (v3 + ((8 + z77) + (z77 - z77 / 2 * 2)))), (6, .long z77), (5, .int (v2 + (Int64.toInt32 v3))), (0, .ref m), (1, .int a1), (2, .int v2)] (by decide) rfl dX10_commOf_148 ?_
            refine J_goto O (tgt := 47) (pc := 149) dX10_commOf_149 (by decide) ?_
            refine J_sub [3, 4, 5, 0] (lv' := [(0, .ref m), (1, .int a1), (2, .int v2), (3, .long (v3 + ((8 + z77) + (z77 - z77 / 2 * 2))))]) rfl ?_
            exact ih v2 (v3 + ((8 + z77) + (z77 - z77 / 2 * 2))) hf
          · have hf := jt_f c123 hf
            refine J_iload O (i := 5) (pc := 127) 1 rfl dX10_commOf_127 ?_
            refine J_bipush O (v := 8) (pc := 129) (by decide) dX10_commOf_129 ?_
            refine J_iadd O (pc := 131) dX10_commOf_131 ?_
            have e9 := Option.some.inj hf
            subst e9
            exact J_iret O (pc := 132) rfl dX10_commOf_132
      · have hf := jt_f c97 hf
        refine J_bipush O (v := (-2)) (pc := 101) (by decide) dX10_commOf_101 ?_
        have e9 := Option.some.inj hf
        subst e9
        exact J_iret O (pc := 103) rfl dX10_commOf_103
set_option maxHeartbeats 4000000 in
set_option maxRecDepth 100000 in
theorem c_X10_commOf (l : Launch) (D : va_G) (cB cI cJ : ClassId) (m mt md mk ms mu mn mm mo mw : Nat) (m_tl : Int32) (m_dl : Int32) (m_c : Int32) (m_e : Int32) (m_ol : Int32) (m_fa : Int32) (m_f : Int32) (m_p : Int32) (m_is : Int32) (m_t : Nat → Int32) (m_d : Nat → Int32) (m_k : Nat → Int32) (m_s : Nat → Int32) (m_u : Nat → Int32) (m_n : Nat → Int64) (m_m : Nat → Int32) (m_o : Nat → Int32) (m_w : Nat → Int32) (a1 : Int32) (fu : Nat) {z : Int32} (hf : p_X10_commOf fu m_d m_k m_s a1 = some z) : Ci (l, D, cB, cI, cJ) yX10_commOf wsX10_commOf rmX10_commOf [.ref m, .int a1] [(m, .inr (6, [.ref mt, .int m_tl, .ref md, .int m_dl, .ref mk, .ref ms, .int m_c, .ref mu, .ref mn, .ref mm, .int m_e, .ref mo, .int m_ol, .int m_fa, .int m_f, .ref mw, .int m_p, .int m_is])), (mt, .inl (cI, 6000, .inl m_t)), (md, .inl (cI, 12000, .inl m_d)), (mk, .inl (cI, 61, .inl m_k)), (ms, .inl (cI, 61, .inl m_s)), (mu, .inl (cI, 41, .inl m_u)), (mn, .inl (cJ, 41, .inr (.inl m_n))), (mm, .inl (cI, 41, .inl m_m)), (mo, .inl (cI, 14000, .inl m_o)), (mw, .inl (cI, 61, .inl m_w))] [(m, .inr (6, [.ref mt, .int m_tl, .ref md, .int m_dl, .ref mk, .ref ms, .int m_c, .ref mu, .ref mn, .ref mm, .int m_e, .ref mo, .int m_ol, .int m_fa, .int m_f, .ref mw, .int m_p, .int m_is])), (mt, .inl (cI, 6000, .inl m_t)), (md, .inl (cI, 12000, .inl m_d)), (mk, .inl (cI, 61, .inl m_k)), (ms, .inl (cI, 61, .inl m_s)), (mu, .inl (cI, 41, .inl m_u)), (mn, .inl (cJ, 41, .inr (.inl m_n))), (mm, .inl (cI, 41, .inl m_m)), (mo, .inl (cI, 14000, .inl m_o)), (mw, .inl (cI, 61, .inl m_w))] z := by
  refine Ci_of (cc := cX10_commOf) (nL := 8) (own := RX10) (ret := (some .int)) (by decide) rfl rfl (Nat.le_of_ble_eq_true rfl) (fun X O hnm0 => ?_)
  rw [p_X10_commOf] at hf
  show J X 8 (JQi X [(m, .inr (6, [.ref mt, .int m_tl, .ref md, .int m_dl, .ref mk, .ref ms, .int m_c, .ref mu, .ref mn, .ref mm, .int m_e, .ref mo, .int m_ol, .int m_fa, .int m_f, .ref mw, .int m_p, .int m_is])), (mt, .inl (cI, 6000, .inl m_t)), (md, .inl (cI, 12000, .inl m_d)), (mk, .inl (cI, 61, .inl m_k)), (ms, .inl (cI, 61, .inl m_s)), (mu, .inl (cI, 41, .inl m_u)), (mn, .inl (cJ, 41, .inr (.inl m_n))), (mm, .inl (cI, 41, .inl m_m)), (mo, .inl (cI, 14000, .inl m_o)), (mw, .inl (cI, 61, .inl m_w))] z 0 0) [(m, .inr (6, [.ref mt, .int m_tl, .ref md, .int m_dl, .ref mk, .ref ms, .int m_c, .ref mu, .ref mn, .ref mm, .int m_e, .ref mo, .int m_ol, .int m_fa, .int m_f, .ref mw, .int m_p, .int m_is])), (mt, .inl (cI, 6000, .inl m_t)), (md, .inl (cI, 12000, .inl m_d)), (mk, .inl (cI, 61, .inl m_k)), (ms, .inl (cI, 61, .inl m_s)), (mu, .inl (cI, 41, .inl m_u)), (mn, .inl (cJ, 41, .inr (.inl m_n))), (mm, .inl (cI, 41, .inl m_m)), (mo, .inl (cI, 14000, .inl m_o)), (mw, .inl (cI, 61, .inl m_w))] 0 0 0 [(0, .ref m), (1, .int a1)] []
  refine J_aload_n O (i := 0) (k0 := 0) (pc := 0) 0 rfl rfl dX10_commOf_0 ?_
  refine J_iload_n O (i := 1) (k0 := 1) (pc := 1) 1 rfl rfl dX10_commOf_1 ?_
  obtain ⟨z2, h2, hf⟩ := jt_b hf
  refine J_callVi O (pc := 2) (c_X10_fromOf l D cB cI cJ m mt md mk ms mu mn mm mo mw m_tl m_dl m_c m_e m_ol m_fa m_f m_p m_is m_t m_d m_k m_s m_u m_n m_m m_o m_w a1 fu h2) rfl 0 rfl rfl gX10_commOf_X10_fromOf hdV_X10_fromOf ⟨(Nat.le_of_ble_eq_true rfl), (Nat.le_of_ble_eq_true rfl)⟩ rfl (st := []) rfl (Nat.le_of_ble_eq_true rfl) [0, 1, 2, 3, 4, 5, 6, 7, 8, 9] [] rfl rfl rfl rfl rfl (by decide) [(m, .inr (6, [.ref mt, .int m_tl, .ref md, .int m_dl, .ref mk, .ref ms, .int m_c, .ref mu, .ref mn, .ref mm, .int m_e, .ref mo, .int m_ol, .int m_fa, .int m_f, .ref mw, .int m_p, .int m_is])), (mt, .inl (cI, 6000, .inl m_t)), (md, .inl (cI, 12000, .inl m_d)), (mk, .inl (cI, 61, .inl m_k)), (ms, .inl (cI, 61, .inl m_s)), (mu, .inl (cI, 41, .inl m_u)), (mn, .inl (cJ, 41, .inr (.inl m_n))), (mm, .inl (cI, 41, .inl m_m)), (mo, .inl (cI, 14000, .inl m_o)), (mw, .inl (cI, 61, .inl m_w))] [0, 1, 2, 3, 4, 5, 6, 7, 8, 9] rfl rfl rfl (0) (0) (Nat.le_of_ble_eq_true rfl) (Nat.le_of_ble_eq_true rfl) ⟨(Nat.le_of_ble_eq_true rfl), (Nat.le_of_ble_eq_true rfl)⟩ dX10_commOf_2 ?_
  refine J_istore_n O (i := 2) (k0 := 2) (pc := 5) rfl [(2, .int z2), (0, .ref m), (1, .int a1)] (by decide) rfl dX10_commOf_5 ?_
  refine J_aload_n O (i := 0) (k0 := 0) (pc := 6) 1 rfl rfl dX10_commOf_6 ?_
  refine J_get O (pc := 7) in_X10_commOf_X10 0 rfl rfl 4 (by decide) mb_X10_commOf_1 rfl dX10_commOf_7 ?_
  refine J_iload_n O (i := 1) (k0 := 1) (pc := 10) 2 rfl rfl dX10_commOf_10 ?_
  obtain ⟨h11, hf⟩ := jt_g hf
  refine J_iald O (pc := 11) 3 1 rfl rfl h11 dX10_commOf_11 ?_
  refine J_ldc O (pc := 12) mb_X10_commOf_2 dX10_commOf_12 ?_
  refine J_icmp_ne O (tgt := 40) (pc := 14) dX10_commOf_14 (by decide) (fun c14 => ?_) (fun c14 => ?_)
  · have hf := jt_f c14 hf
    refine J_bipush O (v := (-2)) (pc := 40) (by decide) dX10_commOf_40 ?_
    have e9 := Option.some.inj hf
    subst e9
    exact J_iret O (pc := 42) rfl dX10_commOf_42
  · have hf := jt_t c14 hf
    refine J_aload_n O (i := 0) (k0 := 0) (pc := 17) 1 rfl rfl dX10_commOf_17 ?_
    refine J_get O (pc := 18) in_X10_commOf_X10 0 rfl rfl 5 (by decide) mb_X10_commOf_3 rfl dX10_commOf_18 ?_
    refine J_iload_n O (i := 1) (k0 := 1) (pc := 21) 2 rfl rfl dX10_commOf_21 ?_
    obtain ⟨h22, hf⟩ := jt_g hf
    refine J_iald O (pc := 22) 4 1 rfl rfl h22 dX10_commOf_22 ?_
    refine J_iconst O (v := 4) (pc := 23) (by decide) dX10_commOf_23 ?_
    refine J_icmp_lt O (tgt := 40) (pc := 24) dX10_commOf_24 (by decide) (fun c24 => ?_) (fun c24 => ?_)
    · have hf := jt_t c24 hf
      refine J_bipush O (v := (-2)) (pc := 40) (by decide) dX10_commOf_40 ?_
      have e9 := Option.some.inj hf
      subst e9
      exact J_iret O (pc := 42) rfl dX10_commOf_42
    · have hf := jt_f c24 hf
      refine J_aload_n O (i := 0) (k0 := 0) (pc := 27) 1 rfl rfl dX10_commOf_27 ?_
      refine J_get O (pc := 28) in_X10_commOf_X10 0 rfl rfl 2 (by decide) mb_X10_commOf_4 rfl dX10_commOf_28 ?_
      refine J_iload_n O (i := 2) (k0 := 2) (pc := 31) 0 rfl rfl dX10_commOf_31 ?_
      obtain ⟨z32, h32, hf⟩ := jt_b hf
      refine J_callSi O (pc := 32) (c_X10_kindIn l D cB cI cJ md 12000 m_d z2 h32) rfl gX10_commOf_X10_kindIn hdS_X10_kindIn ⟨(Nat.le_of_ble_eq_true rfl), (Nat.le_of_ble_eq_true rfl)⟩ rfl (st := []) rfl (Nat.le_of_ble_eq_true rfl) [2] [0, 1, 3, 4, 5, 6, 7, 8, 9] rfl rfl rfl rfl rfl (by decide) [(m, .inr (6, [.ref mt, .int m_tl, .ref md, .int m_dl, .ref mk, .ref ms, .int m_c, .ref mu, .ref mn, .ref mm, .int m_e, .ref mo, .int m_ol, .int m_fa, .int m_f, .ref mw, .int m_p, .int m_is])), (mt, .inl (cI, 6000, .inl m_t)), (md, .inl (cI, 12000, .inl m_d)), (mk, .inl (cI, 61, .inl m_k)), (ms, .inl (cI, 61, .inl m_s)), (mu, .inl (cI, 41, .inl m_u)), (mn, .inl (cJ, 41, .inr (.inl m_n))), (mm, .inl (cI, 41, .inl m_m)), (mo, .inl (cI, 14000, .inl m_o)), (mw, .inl (cI, 61, .inl m_w))] [0, 1, 9, 2, 3, 4, 5, 6, 7, 8] rfl rfl rfl (0) (0) (Nat.le_of_ble_eq_true rfl) (Nat.le_of_ble_eq_true rfl) ⟨(Nat.le_of_ble_eq_true rfl), (Nat.le_of_ble_eq_true rfl)⟩ dX10_commOf_32 ?_
      refine J_ldc O (pc := 35) mb_X10_commOf_5 dX10_commOf_35 ?_
      refine J_icmp_eq O (tgt := 43) (pc := 37) dX10_commOf_37 (by decide) (fun c37 => ?_) (fun c37 => ?_)
      · have hf := jt_t c37 hf
        refine J_ldc2 O (pc := 43) mb_X10_commOf_6 dX10_commOf_43 ?_
        refine J_lstore_n O (i := 3) (k0 := 3) (pc := 46) rfl [(3, .long 4), (2, .int z2), (0, .ref m), (1, .int a1)] (by decide) rfl dX10_commOf_46 ?_
        refine J_sub [2, 3, 1, 0] (lv' := [(0, .ref m), (1, .int a1), (2, .int z2), (3, .long 4)]) rfl ?_
        exact wk_X10_commOf_47 O m mt md mk ms mu mn mm mo mw m_tl m_dl m_c m_e m_ol m_fa m_f m_p m_is m_t m_d m_k m_s m_u m_n m_m m_o m_w a1 fu fu z2 4 hf
      · have hf := jt_f c37 hf
        refine J_bipush O (v := (-2)) (pc := 40) (by decide) dX10_commOf_40 ?_
        have e9 := Option.some.inj hf
        subst e9
        exact J_iret O (pc := 42) rfl dX10_commOf_42
theorem mb_X10_sound_0 : Cond.constantLong RX10 150 (-1) ∈ wsX10_sound := by decide +kernel
theorem mb_X10_sound_1 : Cond.constantLong RX10 128 3 ∈ wsX10_sound := by decide +kernel
theorem hdV_X10_commOf : yX10_commOf.cls = RX10 ∧ yX10_commOf.cls ≠ "java/lang/invoke/MethodHandle" ∧ yX10_commOf.cls ≠ "java/lang/invoke/VarHandle" ∧ (parseMethodDescriptor yX10_commOf.desc).map (fun d => d.parameters.length) = some 1 := by decide +kernel
theorem in_X10_sound_X10 : ∀ w ∈ u_ws RX10 TX10 18, w ∈ wsX10_sound := fun _ h => List.mem_cons_of_mem _ (List.mem_append_right _ h)
theorem mb_X10_sound_3 : Cond.fieldLink RX10 13 (TX10 2).1 (TX10 2).2.1 (TX10 2).2.2.1 ∈ wsX10_sound := by decide +kernel
theorem mb_X10_sound_4 : Cond.constantLong RX10 164 (-2) ∈ wsX10_sound := by decide +kernel
abbrev rmX10_sound : Room := { frames := 3, cells := 0, slots := 0, locals := 69 }
set_option maxHeartbeats 4000000 in
set_option maxRecDepth 100000 in
theorem c_X10_sound (l : Launch) (D : va_G) (cB cI cJ : ClassId) (m mt md mk ms mu mn mm mo mw : Nat) (m_tl : Int32) (m_dl : Int32) (m_c : Int32) (m_e : Int32) (m_ol : Int32) (m_fa : Int32) (m_f : Int32) (m_p : Int32) (m_is : Int32) (m_t : Nat → Int32) (m_d : Nat → Int32) (m_k : Nat → Int32) (m_s : Nat → Int32) (m_u : Nat → Int32) (m_n : Nat → Int64) (m_m : Nat → Int32) (m_o : Nat → Int32) (m_w : Nat → Int32) (a1 : Int32) (a2 : Int32) (fu : Nat) {z : Int64} (hf : p_X10_sound fu m_c m_d m_k m_s a1 a2 = some z) : Cl (l, D, cB, cI, cJ) yX10_sound wsX10_sound rmX10_sound [.ref m, .int a1, .int a2] [(m, .inr (6, [.ref mt, .int m_tl, .ref md, .int m_dl, .ref mk, .ref ms, .int m_c, .ref mu, .ref mn, .ref mm, .int m_e, .ref mo, .int m_ol, .int m_fa, .int m_f, .ref mw, .int m_p, .int m_is])), (mt, .inl (cI, 6000, .inl m_t)), (md, .inl (cI, 12000, .inl m_d)), (mk, .inl (cI, 61, .inl m_k)), (ms, .inl (cI, 61, .inl m_s)), (mu, .inl (cI, 41, .inl m_u)), (mn, .inl (cJ, 41, .inr (.inl m_n))), (mm, .inl (cI, 41, .inl m_m)), (mo, .inl (cI, 14000, .inl m_o)), (mw, .inl (cI, 61, .inl m_w))] [(m, .inr (6, [.ref mt, .int m_tl, .ref md, .int m_dl, .ref mk, .ref ms, .int m_c, .ref mu, .ref mn, .ref mm, .int m_e, .ref mo, .int m_ol, .int m_fa, .int m_f, .ref mw, .int m_p, .int m_is])), (mt, .inl (cI, 6000, .inl m_t)), (md, .inl (cI, 12000, .inl m_d)), (mk, .inl (cI, 61, .inl m_k)), (ms, .inl (cI, 61, .inl m_s)), (mu, .inl (cI, 41, .inl m_u)), (mn, .inl (cJ, 41, .inr (.inl m_n))), (mm, .inl (cI, 41, .inl m_m)), (mo, .inl (cI, 14000, .inl m_o)), (mw, .inl (cI, 61, .inl m_w))] z := by
  refine Cl_of (cc := cX10_sound) (nL := 8) (own := RX10) (ret := (some .long)) (by decide) rfl rfl (Nat.le_of_ble_eq_true rfl) (fun X O hnm0 => ?_)
  rw [p_X10_sound] at hf
  show J X 8 (JQl X [(m, .inr (6, [.ref mt, .int m_tl, .ref md, .int m_dl, .ref mk, .ref ms, .int m_c, .ref mu, .ref mn, .ref mm, .int m_e, .ref mo, .int m_ol, .int m_fa, .int m_f, .ref mw, .int m_p, .int m_is])), (mt, .inl (cI, 6000, .inl m_t)), (md, .inl (cI, 12000, .inl m_d)), (mk, .inl (cI, 61, .inl m_k)), (ms, .inl (cI, 61, .inl m_s)), (mu, .inl (cI, 41, .inl m_u)), (mn, .inl (cJ, 41, .inr (.inl m_n))), (mm, .inl (cI, 41, .inl m_m)), (mo, .inl (cI, 14000, .inl m_o)), (mw, .inl (cI, 61, .inl m_w))] z 0 0) [(m, .inr (6, [.ref mt, .int m_tl, .ref md, .int m_dl, .ref mk, .ref ms, .int m_c, .ref mu, .ref mn, .ref mm, .int m_e, .ref mo, .int m_ol, .int m_fa, .int m_f, .ref mw, .int m_p, .int m_is])), (mt, .inl (cI, 6000, .inl m_t)), (md, .inl (cI, 12000, .inl m_d)), (mk, .inl (cI, 61, .inl m_k)), (ms, .inl (cI, 61, .inl m_s)), (mu, .inl (cI, 41, .inl m_u)), (mn, .inl (cJ, 41, .inr (.inl m_n))), (mm, .inl (cI, 41, .inl m_m)), (mo, .inl (cI, 14000, .inl m_o)), (mw, .inl (cI, 61, .inl m_w))] 0 0 0 [(0, .ref m), (1, .int a1), (2, .int a2)] []
  refine J_aload_n O (i := 0) (k0 := 0) (pc := 0) 0 rfl rfl dX10_sound_0 ?_
  refine J_iload_n O (i := 1) (k0 := 1) (pc := 1) 1 rfl rfl dX10_sound_1 ?_
  obtain ⟨z2, h2, hf⟩ := jt_b hf
  refine J_callVi O (pc := 2) (c_X10_isChunk l D cB cI cJ m mt md mk ms mu mn mm mo mw m_tl m_dl m_c m_e m_ol m_fa m_f m_p m_is m_t m_d m_k m_s m_u m_n m_m m_o m_w a1 h2) rfl 0 rfl rfl gX10_sound_X10_isChunk hdV_X10_isChunk ⟨(Nat.le_of_ble_eq_true rfl), (Nat.le_of_ble_eq_true rfl)⟩ rfl (st := []) rfl (Nat.le_of_ble_eq_true rfl) [0, 1, 2, 3, 4, 5, 6, 7, 8, 9] [] rfl rfl rfl rfl rfl (by decide) [(m, .inr (6, [.ref mt, .int m_tl, .ref md, .int m_dl, .ref mk, .ref ms, .int m_c, .ref mu, .ref mn, .ref mm, .int m_e, .ref mo, .int m_ol, .int m_fa, .int m_f, .ref mw, .int m_p, .int m_is])), (mt, .inl (cI, 6000, .inl m_t)), (md, .inl (cI, 12000, .inl m_d)), (mk, .inl (cI, 61, .inl m_k)), (ms, .inl (cI, 61, .inl m_s)), (mu, .inl (cI, 41, .inl m_u)), (mn, .inl (cJ, 41, .inr (.inl m_n))), (mm, .inl (cI, 41, .inl m_m)), (mo, .inl (cI, 14000, .inl m_o)), (mw, .inl (cI, 61, .inl m_w))] [0, 1, 2, 3, 4, 5, 6, 7, 8, 9] rfl rfl rfl (0) (0) (Nat.le_of_ble_eq_true rfl) (Nat.le_of_ble_eq_true rfl) ⟨(Nat.le_of_ble_eq_true rfl), (Nat.le_of_ble_eq_true rfl)⟩ dX10_sound_2 ?_
  refine J_zeq O (tgt := 20) (pc := 5) dX10_sound_5 (by decide) (fun c5 => ?_) (fun c5 => ?_)
  · have hf := jt_f c5 hf
    refine J_ldc2 O (pc := 20) mb_X10_sound_0 dX10_sound_20 ?_
    have e9 := Option.some.inj hf
    subst e9
    exact J_lret O (pc := 23) rfl dX10_sound_23
  · have hf := jt_t c5 hf
    refine J_iload_n O (i := 2) (k0 := 2) (pc := 8) 2 rfl rfl dX10_sound_8 ?_
    refine J_i2l O (pc := 9) dX10_sound_9 ?_
    refine J_lconst O (v := 0) (pc := 10) (by decide) dX10_sound_10 ?_
    refine J_ldc2 O (pc := 11) mb_X10_sound_1 dX10_sound_11 ?_
    obtain ⟨z14, h14, hf⟩ := jt_b hf
    refine J_callSi O (pc := 14) (c_X10_in l D cB cI cJ (Int32.toInt64 a2) 0 3 h14) rfl gX10_sound_X10_in hdS_X10_in ⟨(Nat.le_of_ble_eq_true rfl), (Nat.le_of_ble_eq_true rfl)⟩ rfl (st := []) rfl (Nat.le_of_ble_eq_true rfl) [] [0, 1, 2, 3, 4, 5, 6, 7, 8, 9] rfl rfl rfl rfl rfl (by decide) [(m, .inr (6, [.ref mt, .int m_tl, .ref md, .int m_dl, .ref mk, .ref ms, .int m_c, .ref mu, .ref mn, .ref mm, .int m_e, .ref mo, .int m_ol, .int m_fa, .int m_f, .ref mw, .int m_p, .int m_is])), (mt, .inl (cI, 6000, .inl m_t)), (md, .inl (cI, 12000, .inl m_d)), (mk, .inl (cI, 61, .inl m_k)), (ms, .inl (cI, 61, .inl m_s)), (mu, .inl (cI, 41, .inl m_u)), (mn, .inl (cJ, 41, .inr (.inl m_n))), (mm, .inl (cI, 41, .inl m_m)), (mo, .inl (cI, 14000, .inl m_o)), (mw, .inl (cI, 61, .inl m_w))] [0, 1, 2, 3, 4, 5, 6, 7, 8, 9] rfl rfl rfl (0) (0) (Nat.le_of_ble_eq_true rfl) (Nat.le_of_ble_eq_true rfl) ⟨(Nat.le_of_ble_eq_true rfl), (Nat.le_of_ble_eq_true rfl)⟩ dX10_sound_14 ?_
    refine J_zne O (tgt := 24) (pc := 17) dX10_sound_17 (by decide) (fun c17 => ?_) (fun c17 => ?_)
    · have hf := jt_t c17 hf
      refine J_aload_n O (i := 0) (k0 := 0) (pc := 24) 0 rfl rfl dX10_sound_24 ?_
      refine J_iload_n O (i := 1) (k0 := 1) (pc := 25) 1 rfl rfl dX10_sound_25 ?_
      obtain ⟨z26, h26, hf⟩ := jt_b hf
      refine J_callVi O (pc := 26) (c_X10_commOf l D cB cI cJ m mt md mk ms mu mn mm mo mw m_tl m_dl m_c m_e m_ol m_fa m_f m_p m_is m_t m_d m_k m_s m_u m_n m_m m_o m_w a1 fu h26) rfl 0 rfl rfl gX10_sound_X10_commOf hdV_X10_commOf ⟨(Nat.le_of_ble_eq_true rfl), (Nat.le_of_ble_eq_true rfl)⟩ rfl (st := []) rfl (Nat.le_of_ble_eq_true rfl) [0, 1, 2, 3, 4, 5, 6, 7, 8, 9] [] rfl rfl rfl rfl rfl (by decide) [(m, .inr (6, [.ref mt, .int m_tl, .ref md, .int m_dl, .ref mk, .ref ms, .int m_c, .ref mu, .ref mn, .ref mm, .int m_e, .ref mo, .int m_ol, .int m_fa, .int m_f, .ref mw, .int m_p, .int m_is])), (mt, .inl (cI, 6000, .inl m_t)), (md, .inl (cI, 12000, .inl m_d)), (mk, .inl (cI, 61, .inl m_k)), (ms, .inl (cI, 61, .inl m_s)), (mu, .inl (cI, 41, .inl m_u)), (mn, .inl (cJ, 41, .inr (.inl m_n))), (mm, .inl (cI, 41, .inl m_m)), (mo, .inl (cI, 14000, .inl m_o)), (mw, .inl (cI, 61, .inl m_w))] [0, 1, 2, 3, 4, 5, 6, 7, 8, 9] rfl rfl rfl (0) (0) (Nat.le_of_ble_eq_true rfl) (Nat.le_of_ble_eq_true rfl) ⟨(Nat.le_of_ble_eq_true rfl), (Nat.le_of_ble_eq_true rfl)⟩ dX10_sound_26 ?_
      refine J_istore_n O (i := 3) (k0 := 3) (pc := 29) rfl [(3, .int z26), (0, .ref m), (1, .int a1), (2, .int a2)] (by decide) rfl dX10_sound_29 ?_
      refine J_iload_n O (i := 3) (k0 := 3) (pc := 30) 0 rfl rfl dX10_sound_30 ?_
      refine J_bipush O (v := (-2)) (pc := 31) (by decide) dX10_sound_31 ?_
      refine J_icmp_ne O (tgt := 40) (pc := 33) dX10_sound_33 (by decide) (fun c33 => ?_) (fun c33 => ?_)
      · have hf := jt_f c33 hf
        refine J_iload_n O (i := 2) (k0 := 2) (pc := 40) 3 rfl rfl dX10_sound_40 ?_
        refine J_iconst O (v := 3) (pc := 41) (by decide) dX10_sound_41 ?_
        refine J_icmp_ge O (tgt := 92) (pc := 42) dX10_sound_42 (by decide) (fun c42 => ?_) (fun c42 => ?_)
        · have hf := jt_t c42 hf
          refine J_aload_n O (i := 0) (k0 := 0) (pc := 92) 1 rfl rfl dX10_sound_92 ?_
          refine J_get O (pc := 93) in_X10_sound_X10 0 rfl rfl 2 (by decide) mb_X10_sound_3 rfl dX10_sound_93 ?_
          refine J_iload_n O (i := 3) (k0 := 3) (pc := 96) 0 rfl rfl dX10_sound_96 ?_
          refine J_bipush O (v := 8) (pc := 97) (by decide) dX10_sound_97 ?_
          refine J_iadd O (pc := 99) dX10_sound_99 ?_
          obtain ⟨z100, h100, hf⟩ := jt_b hf
          refine J_callSi O (pc := 100) (c_X10_two l D cB cI cJ md 12000 m_d (z26 + 8) h100) rfl gX10_sound_X10_two hdS_X10_two ⟨(Nat.le_of_ble_eq_true rfl), (Nat.le_of_ble_eq_true rfl)⟩ rfl (st := []) rfl (Nat.le_of_ble_eq_true rfl) [2] [0, 1, 3, 4, 5, 6, 7, 8, 9] rfl rfl rfl rfl rfl (by decide) [(m, .inr (6, [.ref mt, .int m_tl, .ref md, .int m_dl, .ref mk, .ref ms, .int m_c, .ref mu, .ref mn, .ref mm, .int m_e, .ref mo, .int m_ol, .int m_fa, .int m_f, .ref mw, .int m_p, .int m_is])), (mt, .inl (cI, 6000, .inl m_t)), (md, .inl (cI, 12000, .inl m_d)), (mk, .inl (cI, 61, .inl m_k)), (ms, .inl (cI, 61, .inl m_s)), (mu, .inl (cI, 41, .inl m_u)), (mn, .inl (cJ, 41, .inr (.inl m_n))), (mm, .inl (cI, 41, .inl m_m)), (mo, .inl (cI, 14000, .inl m_o)), (mw, .inl (cI, 61, .inl m_w))] [0, 1, 9, 2, 3, 4, 5, 6, 7, 8] rfl rfl rfl (0) (0) (Nat.le_of_ble_eq_true rfl) (Nat.le_of_ble_eq_true rfl) ⟨(Nat.le_of_ble_eq_true rfl), (Nat.le_of_ble_eq_true rfl)⟩ dX10_sound_100 ?_
          refine J_istore O (i := 4) (pc := 103) [(4, .int z100), (3, .int z26), (0, .ref m), (1, .int a1), (2, .int a2)] (by decide) rfl dX10_sound_103 ?_
          refine J_aload_n O (i := 0) (k0 := 0) (pc := 105) 2 rfl rfl dX10_sound_105 ?_
          refine J_get O (pc := 106) in_X10_sound_X10 0 rfl rfl 2 (by decide) mb_X10_sound_3 rfl dX10_sound_106 ?_
          refine J_iload_n O (i := 3) (k0 := 3) (pc := 109) 1 rfl rfl dX10_sound_109 ?_
          refine J_bipush O (v := 10) (pc := 110) (by decide) dX10_sound_110 ?_
          refine J_iadd O (pc := 112) dX10_sound_112 ?_
          obtain ⟨z113, h113, hf⟩ := jt_b hf
          refine J_callSl O (pc := 113) (c_X10_four l D cB cI cJ md 12000 m_d (z26 + 10) h113) rfl gX10_sound_X10_four hdS_X10_four ⟨(Nat.le_of_ble_eq_true rfl), (Nat.le_of_ble_eq_true rfl)⟩ rfl (st := []) rfl (Nat.le_of_ble_eq_true rfl) [2] [0, 1, 3, 4, 5, 6, 7, 8, 9] rfl rfl rfl rfl rfl (by decide) [(m, .inr (6, [.ref mt, .int m_tl, .ref md, .int m_dl, .ref mk, .ref ms, .int m_c, .ref mu, .ref mn, .ref mm, .int m_e, .ref mo, .int m_ol, .int m_fa, .int m_f, .ref mw, .int m_p, .int m_is])), (mt, .inl (cI, 6000, .inl m_t)), (md, .inl (cI, 12000, .inl m_d)), (mk, .inl (cI, 61, .inl m_k)), (ms, .inl (cI, 61, .inl m_s)), (mu, .inl (cI, 41, .inl m_u)), (mn, .inl (cJ, 41, .inr (.inl m_n))), (mm, .inl (cI, 41, .inl m_m)), (mo, .inl (cI, 14000, .inl m_o)), (mw, .inl (cI, 61, .inl m_w))] [0, 1, 9, 2, 3, 4, 5, 6, 7, 8] rfl rfl rfl (0) (0) (Nat.le_of_ble_eq_true rfl) (Nat.le_of_ble_eq_true rfl) ⟨(Nat.le_of_ble_eq_true rfl), (Nat.le_of_ble_eq_true rfl)⟩ dX10_sound_113 ?_
          refine J_bipush O (v := 32) (pc := 116) (by decide) dX10_sound_116 ?_
          refine J_lshl O (pc := 118) dX10_sound_118 ?_
          refine J_aload_n O (i := 0) (k0 := 0) (pc := 119) 2 rfl rfl dX10_sound_119 ?_
          refine J_get O (pc := 120) in_X10_sound_X10 0 rfl rfl 2 (by decide) mb_X10_sound_3 rfl dX10_sound_120 ?_
          refine J_iload_n O (i := 3) (k0 := 3) (pc := 123) 1 rfl rfl dX10_sound_123 ?_
          refine J_bipush O (v := 14) (pc := 124) (by decide) dX10_sound_124 ?_
          refine J_iadd O (pc := 126) dX10_sound_126 ?_
          obtain ⟨z127, h127, hf⟩ := jt_b hf
          refine J_callSl O (pc := 127) (c_X10_four l D cB cI cJ md 12000 m_d (z26 + 14) h127) rfl gX10_sound_X10_four hdS_X10_four ⟨(Nat.le_of_ble_eq_true rfl), (Nat.le_of_ble_eq_true rfl)⟩ rfl (st := [.long (z113 <<< ((32 : Int32).toInt64 &&& 63))]) rfl (Nat.le_of_ble_eq_true rfl) [2] [0, 1, 3, 4, 5, 6, 7, 8, 9] rfl rfl rfl rfl rfl (by decide) [(m, .inr (6, [.ref mt, .int m_tl, .ref md, .int m_dl, .ref mk, .ref ms, .int m_c, .ref mu, .ref mn, .ref mm, .int m_e, .ref mo, .int m_ol, .int m_fa, .int m_f, .ref mw, .int m_p, .int m_is])), (mt, .inl (cI, 6000, .inl m_t)), (md, .inl (cI, 12000, .inl m_d)), (mk, .inl (cI, 61, .inl m_k)), (ms, .inl (cI, 61, .inl m_s)), (mu, .inl (cI, 41, .inl m_u)), (mn, .inl (cJ, 41, .inr (.inl m_n))), (mm, .inl (cI, 41, .inl m_m)), (mo, .inl (cI, 14000, .inl m_o)), (mw, .inl (cI, 61, .inl m_w))] [0, 1, 9, 2, 3, 4, 5, 6, 7, 8] rfl rfl rfl (0) (0) (Nat.le_of_ble_eq_true rfl) (Nat.le_of_ble_eq_true rfl) ⟨(Nat.le_of_ble_eq_true rfl), (Nat.le_of_ble_eq_true rfl)⟩ dX10_sound_127 ?_
          refine J_lor O (pc := 130) dX10_sound_130 ?_
          refine J_lstore O (i := 5) (pc := 131) [(5, .long ((z113 <<< ((32 : Int32).toInt64 &&& 63)) ||| z127)), (4, .int z100), (3, .int z26), (0, .ref m), (1, .int a1), (2, .int a2)] (by decide) rfl dX10_sound_131 ?_
          refine J_sipush O (v := 16446) (pc := 133) (by decide) dX10_sound_133 ?_
          refine J_iload O (i := 4) (pc := 136) 1 rfl dX10_sound_136 ?_
          refine J_isub O (pc := 138) dX10_sound_138 ?_
          refine J_istore O (i := 7) (pc := 139) [(7, .int (16446 - z100)), (5, .long ((z113 <<< ((32 : Int32).toInt64 &&& 63)) ||| z127)), (4, .int z100), (3, .int z26), (0, .ref m), (1, .int a1), (2, .int a2)] (by decide) rfl dX10_sound_139 ?_
          refine J_iload O (i := 7) (pc := 141) 0 rfl dX10_sound_141 ?_
          refine J_iconst O (v := 1) (pc := 143) (by decide) dX10_sound_143 ?_
          refine J_icmp_ge O (tgt := 153) (pc := 144) dX10_sound_144 (by decide) (fun c144 => ?_) (fun c144 => ?_)
          · have hf := jt_t c144 hf
            refine J_iload O (i := 7) (pc := 153) 0 rfl dX10_sound_153 ?_
            refine J_bipush O (v := 63) (pc := 155) (by decide) dX10_sound_155 ?_
            refine J_icmp_le O (tgt := 164) (pc := 157) dX10_sound_157 (by decide) (fun c157 => ?_) (fun c157 => ?_)
            · have hf := jt_t c157 hf
              refine J_lload O (i := 5) (pc := 164) 1 rfl dX10_sound_164 ?_
              refine J_iload O (i := 7) (pc := 166) 0 rfl dX10_sound_166 ?_
              refine J_lushr O (pc := 168) dX10_sound_168 ?_
              have e9 := Option.some.inj hf
              subst e9
              exact J_lret O (pc := 169) rfl dX10_sound_169
            · have hf := jt_f c157 hf
              refine J_lconst O (v := 0) (pc := 160) (by decide) dX10_sound_160 ?_
              refine J_goto O (tgt := 169) (pc := 161) dX10_sound_161 (by decide) ?_
              have e9 := Option.some.inj hf
              subst e9
              exact J_lret O (pc := 169) rfl dX10_sound_169
          · have hf := jt_f c144 hf
            refine J_ldc2 O (pc := 147) mb_X10_sound_4 dX10_sound_147 ?_
            refine J_goto O (tgt := 169) (pc := 150) dX10_sound_150 (by decide) ?_
            have e9 := Option.some.inj hf
            subst e9
            exact J_lret O (pc := 169) rfl dX10_sound_169
        · have hf := jt_f c42 hf
          refine J_iload_n O (i := 2) (k0 := 2) (pc := 45) 3 rfl rfl dX10_sound_45 ?_
          refine J_if_ne O (tgt := 61) (pc := 46) dX10_sound_46 (by decide) (fun c46 => ?_) (fun c46 => ?_)
          · have hf := jt_f c46 hf
            refine J_iload_n O (i := 2) (k0 := 2) (pc := 61) 3 rfl rfl dX10_sound_61 ?_
            refine J_iconst O (v := 1) (pc := 62) (by decide) dX10_sound_62 ?_
            refine J_icmp_ne O (tgt := 79) (pc := 63) dX10_sound_63 (by decide) (fun c63 => ?_) (fun c63 => ?_)
            · have hf := jt_f c63 hf
              refine J_aload_n O (i := 0) (k0 := 0) (pc := 79) 1 rfl rfl dX10_sound_79 ?_
              refine J_get O (pc := 80) in_X10_sound_X10 0 rfl rfl 2 (by decide) mb_X10_sound_3 rfl dX10_sound_80 ?_
              refine J_iload_n O (i := 3) (k0 := 3) (pc := 83) 0 rfl rfl dX10_sound_83 ?_
              refine J_bipush O (v := 6) (pc := 84) (by decide) dX10_sound_84 ?_
              refine J_iadd O (pc := 86) dX10_sound_86 ?_
              obtain ⟨z87, h87, hf⟩ := jt_b hf
              refine J_callSi O (pc := 87) (c_X10_two l D cB cI cJ md 12000 m_d (z26 + 6) h87) rfl gX10_sound_X10_two hdS_X10_two ⟨(Nat.le_of_ble_eq_true rfl), (Nat.le_of_ble_eq_true rfl)⟩ rfl (st := []) rfl (Nat.le_of_ble_eq_true rfl) [2] [0, 1, 3, 4, 5, 6, 7, 8, 9] rfl rfl rfl rfl rfl (by decide) [(m, .inr (6, [.ref mt, .int m_tl, .ref md, .int m_dl, .ref mk, .ref ms, .int m_c, .ref mu, .ref mn, .ref mm, .int m_e, .ref mo, .int m_ol, .int m_fa, .int m_f, .ref mw, .int m_p, .int m_is])), (mt, .inl (cI, 6000, .inl m_t)), (md, .inl (cI, 12000, .inl m_d)), (mk, .inl (cI, 61, .inl m_k)), (ms, .inl (cI, 61, .inl m_s)), (mu, .inl (cI, 41, .inl m_u)), (mn, .inl (cJ, 41, .inr (.inl m_n))), (mm, .inl (cI, 41, .inl m_m)), (mo, .inl (cI, 14000, .inl m_o)), (mw, .inl (cI, 61, .inl m_w))] [0, 1, 9, 2, 3, 4, 5, 6, 7, 8] rfl rfl rfl (0) (0) (Nat.le_of_ble_eq_true rfl) (Nat.le_of_ble_eq_true rfl) ⟨(Nat.le_of_ble_eq_true rfl), (Nat.le_of_ble_eq_true rfl)⟩ dX10_sound_87 ?_
              refine J_i2l O (pc := 90) dX10_sound_90 ?_
              have e9 := Option.some.inj hf
              subst e9
              exact J_lret O (pc := 91) rfl dX10_sound_91
            · have hf := jt_t c63 hf
              refine J_aload_n O (i := 0) (k0 := 0) (pc := 66) 1 rfl rfl dX10_sound_66 ?_
              refine J_get O (pc := 67) in_X10_sound_X10 0 rfl rfl 2 (by decide) mb_X10_sound_3 rfl dX10_sound_67 ?_
              refine J_iload_n O (i := 3) (k0 := 3) (pc := 70) 0 rfl rfl dX10_sound_70 ?_
              refine J_iconst O (v := 2) (pc := 71) (by decide) dX10_sound_71 ?_
              refine J_iadd O (pc := 72) dX10_sound_72 ?_
              obtain ⟨z73, h73, hf⟩ := jt_b hf
              refine J_callSl O (pc := 73) (c_X10_four l D cB cI cJ md 12000 m_d (z26 + 2) h73) rfl gX10_sound_X10_four hdS_X10_four ⟨(Nat.le_of_ble_eq_true rfl), (Nat.le_of_ble_eq_true rfl)⟩ rfl (st := []) rfl (Nat.le_of_ble_eq_true rfl) [2] [0, 1, 3, 4, 5, 6, 7, 8, 9] rfl rfl rfl rfl rfl (by decide) [(m, .inr (6, [.ref mt, .int m_tl, .ref md, .int m_dl, .ref mk, .ref ms, .int m_c, .ref mu, .ref mn, .ref mm, .int m_e, .ref mo, .int m_ol, .int m_fa, .int m_f, .ref mw, .int m_p, .int m_is])), (mt, .inl (cI, 6000, .inl m_t)), (md, .inl (cI, 12000, .inl m_d)), (mk, .inl (cI, 61, .inl m_k)), (ms, .inl (cI, 61, .inl m_s)), (mu, .inl (cI, 41, .inl m_u)), (mn, .inl (cJ, 41, .inr (.inl m_n))), (mm, .inl (cI, 41, .inl m_m)), (mo, .inl (cI, 14000, .inl m_o)), (mw, .inl (cI, 61, .inl m_w))] [0, 1, 9, 2, 3, 4, 5, 6, 7, 8] rfl rfl rfl (0) (0) (Nat.le_of_ble_eq_true rfl) (Nat.le_of_ble_eq_true rfl) ⟨(Nat.le_of_ble_eq_true rfl), (Nat.le_of_ble_eq_true rfl)⟩ dX10_sound_73 ?_
              refine J_goto O (tgt := 91) (pc := 76) dX10_sound_76 (by decide) ?_
              have e9 := Option.some.inj hf
              subst e9
              exact J_lret O (pc := 91) rfl dX10_sound_91
          · have hf := jt_t c46 hf
            refine J_aload_n O (i := 0) (k0 := 0) (pc := 49) 1 rfl rfl dX10_sound_49 ?_
            refine J_get O (pc := 50) in_X10_sound_X10 0 rfl rfl 2 (by decide) mb_X10_sound_3 rfl dX10_sound_50 ?_
            refine J_iload_n O (i := 3) (k0 := 3) (pc := 53) 0 rfl rfl dX10_sound_53 ?_
            obtain ⟨z54, h54, hf⟩ := jt_b hf
            refine J_callSi O (pc := 54) (c_X10_two l D cB cI cJ md 12000 m_d z26 h54) rfl gX10_sound_X10_two hdS_X10_two ⟨(Nat.le_of_ble_eq_true rfl), (Nat.le_of_ble_eq_true rfl)⟩ rfl (st := []) rfl (Nat.le_of_ble_eq_true rfl) [2] [0, 1, 3, 4, 5, 6, 7, 8, 9] rfl rfl rfl rfl rfl (by decide) [(m, .inr (6, [.ref mt, .int m_tl, .ref md, .int m_dl, .ref mk, .ref ms, .int m_c, .ref mu, .ref mn, .ref mm, .int m_e, .ref mo, .int m_ol, .int m_fa, .int m_f, .ref mw, .int m_p, .int m_is])), (mt, .inl (cI, 6000, .inl m_t)), (md, .inl (cI, 12000, .inl m_d)), (mk, .inl (cI, 61, .inl m_k)), (ms, .inl (cI, 61, .inl m_s)), (mu, .inl (cI, 41, .inl m_u)), (mn, .inl (cJ, 41, .inr (.inl m_n))), (mm, .inl (cI, 41, .inl m_m)), (mo, .inl (cI, 14000, .inl m_o)), (mw, .inl (cI, 61, .inl m_w))] [0, 1, 9, 2, 3, 4, 5, 6, 7, 8] rfl rfl rfl (0) (0) (Nat.le_of_ble_eq_true rfl) (Nat.le_of_ble_eq_true rfl) ⟨(Nat.le_of_ble_eq_true rfl), (Nat.le_of_ble_eq_true rfl)⟩ dX10_sound_54 ?_
            refine J_i2l O (pc := 57) dX10_sound_57 ?_
            refine J_goto O (tgt := 91) (pc := 58) dX10_sound_58 (by decide) ?_
            have e9 := Option.some.inj hf
            subst e9
            exact J_lret O (pc := 91) rfl dX10_sound_91
      · have hf := jt_t c33 hf
        refine J_ldc2 O (pc := 36) mb_X10_sound_4 dX10_sound_36 ?_
        have e9 := Option.some.inj hf
        subst e9
        exact J_lret O (pc := 39) rfl dX10_sound_39
    · have hf := jt_f c17 hf
      refine J_ldc2 O (pc := 20) mb_X10_sound_0 dX10_sound_20 ?_
      have e9 := Option.some.inj hf
      subst e9
      exact J_lret O (pc := 23) rfl dX10_sound_23
theorem in_X10_first_X10 : ∀ w ∈ u_ws RX10 TX10 18, w ∈ wsX10_first := fun _ h => List.mem_cons_of_mem _ (List.mem_append_right _ h)
theorem mb_X10_first_1 : Cond.fieldLink RX10 113 (TX10 6).1 (TX10 6).2.1 (TX10 6).2.2.1 ∈ wsX10_first := by decide +kernel
theorem mb_X10_first_2 : Cond.fieldLink RX10 16 (TX10 4).1 (TX10 4).2.1 (TX10 4).2.2.1 ∈ wsX10_first := by decide +kernel
theorem mb_X10_first_3 : Cond.fieldLink RX10 19 (TX10 5).1 (TX10 5).2.1 (TX10 5).2.2.1 ∈ wsX10_first := by decide +kernel
abbrev rmX10_first : Room := { frames := 0, cells := 0, slots := 0, locals := 0 }
set_option maxHeartbeats 4000000 in
set_option maxRecDepth 100000 in
theorem wk_X10_first_11 {X : JC} {l : Launch} {D : va_G} {cB cI cJ : ClassId} (O : Jo X (l, D, cB, cI, cJ) cX10_first 5 RX10 wsX10_first rmX10_first (some .int)) (m mt md mk ms mu mn mm mo mw : Nat) (m_tl : Int32) (m_dl : Int32) (m_c : Int32) (m_e : Int32) (m_ol : Int32) (m_fa : Int32) (m_f : Int32) (m_p : Int32) (m_is : Int32) (m_t : Nat → Int32) (m_d : Nat → Int32) (m_k : Nat → Int32) (m_s : Nat → Int32) (m_u : Nat → Int32) (m_n : Nat → Int64) (m_m : Nat → Int32) (m_o : Nat → Int32) (m_w : Nat → Int32) (a1 : Int32) (a2 : Int32) (fu : Nat) {z : Int32} : ∀ (fn : Nat) (v3 : Int32) (v4 : Int32), p_X10_first_11 fu m_c m_k m_s a1 a2 fn v3 v4 = some z → J X 5 (JQi X [(m, .inr (6, [.ref mt, .int m_tl, .ref md, .int m_dl, .ref mk, .ref ms, .int m_c, .ref mu, .ref mn, .ref mm, .int m_e, .ref mo, .int m_ol, .int m_fa, .int m_f, .ref mw, .int m_p, .int m_is])), (mt, .inl (cI, 6000, .inl m_t)), (md, .inl (cI, 12000, .inl m_d)), (mk, .inl (cI, 61, .inl m_k)), (ms, .inl (cI, 61, .inl m_s)), (mu, .inl (cI, 41, .inl m_u)), (mn, .inl (cJ, 41, .inr (.inl m_n))), (mm, .inl (cI, 41, .inl m_m)), (mo, .inl (cI, 14000, .inl m_o)), (mw, .inl (cI, 61, .inl m_w))] z 0 0) [(m, .inr (6, [.ref mt, .int m_tl, .ref md, .int m_dl, .ref mk, .ref ms, .int m_c, .ref mu, .ref mn, .ref mm, .int m_e, .ref mo, .int m_ol, .int m_fa, .int m_f, .ref mw, .int m_p, .int m_is])), (mt, .inl (cI, 6000, .inl m_t)), (md, .inl (cI, 12000, .inl m_d)), (mk, .inl (cI, 61, .inl m_k)), (ms, .inl (cI, 61, .inl m_s)), (mu, .inl (cI, 41, .inl m_u)), (mn, .inl (cJ, 41, .inr (.inl m_n))), (mm, .inl (cI, 41, .inl m_m)), (mo, .inl (cI, 14000, .inl m_o)), (mw, .inl (cI, 61, .inl m_w))] 0 0 11 [(0, .ref m), (1, .int a1), (2, .int a2), (3, .int v3), (4, .int v4)] [] := by
  intro fn
  induction fn with
  | zero =>
    intro v3 v4 hf
    rw [p_X10_first_11] at hf
    exact jt_n hf
  | succ fn ih =>
    intro v3 v4 hf
    rw [p_X10_first_11] at hf
    refine J_iload O (i := 4) (pc := 11) 4 rfl dX10_first_11 ?_
    refine J_if_lt O (tgt := 55) (pc := 13) dX10_first_13 (by decide) (fun c13 => ?_) (fun c13 => ?_)
    · have hf := jt_t c13 hf
      refine J_iload_n O (i := 3) (k0 := 3) (pc := 55) 3 rfl rfl dX10_first_55 ?_
      have e9 := Option.some.inj hf
      subst e9
      exact J_iret O (pc := 56) rfl dX10_first_56
    · have hf := jt_f c13 hf
      refine J_aload_n O (i := 0) (k0 := 0) (pc := 16) 0 rfl rfl dX10_first_16 ?_
      refine J_get O (pc := 17) in_X10_first_X10 0 rfl rfl 4 (by decide) mb_X10_first_2 rfl dX10_first_17 ?_
      refine J_iload O (i := 4) (pc := 20) 4 rfl dX10_first_20 ?_
      obtain ⟨h22, hf⟩ := jt_g hf
      refine J_iald O (pc := 22) 3 1 rfl rfl h22 dX10_first_22 ?_
      refine J_iload_n O (i := 1) (k0 := 1) (pc := 23) 1 rfl rfl dX10_first_23 ?_
      refine J_icmp_ne O (tgt := 47) (pc := 24) dX10_first_24 (by decide) (fun c24 => ?_) (fun c24 => ?_)
      · have hf := jt_f c24 hf
        refine J_iload_n O (i := 3) (k0 := 3) (pc := 47) 3 rfl rfl dX10_first_47 ?_
        refine J_istore_n O (i := 3) (k0 := 3) (pc := 48) rfl [(3, .int v3), (0, .ref m), (1, .int a1), (2, .int a2), (4, .int v4)] (by decide) rfl dX10_first_48 ?_
        refine J_iinc O (i := 4) (n := (-1)) (v := v4 + (-1)) (pc := 49) 4 rfl [(4, .int (v4 + (-1))), (3, .int v3), (0, .ref m), (1, .int a1), (2, .int a2)] (by decide) (congrArg (_ + ·) (by decide)) rfl dX10_first_49 ?_
        refine J_goto O (tgt := 11) (pc := 52) dX10_first_52 (by decide) ?_
        refine J_sub [2, 3, 4, 1, 0] (lv' := [(0, .ref m), (1, .int a1), (2, .int a2), (3, .int v3), (4, .int (v4 + (-1)))]) rfl ?_
        exact ih v3 (v4 + (-1)) hf
      · have hf := jt_t c24 hf
        refine J_iload_n O (i := 2) (k0 := 2) (pc := 27) 2 rfl rfl dX10_first_27 ?_
        refine J_if_lt O (tgt := 42) (pc := 28) dX10_first_28 (by decide) (fun c28 => ?_) (fun c28 => ?_)
        · have hf := jt_t c28 hf
          refine J_iload O (i := 4) (pc := 42) 4 rfl dX10_first_42 ?_
          refine J_goto O (tgt := 48) (pc := 44) dX10_first_44 (by decide) ?_
          refine J_istore_n O (i := 3) (k0 := 3) (pc := 48) rfl [(3, .int v4), (0, .ref m), (1, .int a1), (2, .int a2), (4, .int v4)] (by decide) rfl dX10_first_48 ?_
          refine J_iinc O (i := 4) (n := (-1)) (v := v4 + (-1)) (pc := 49) 4 rfl [(4, .int (v4 + (-1))), (3, .int v4), (0, .ref m), (1, .int a1), (2, .int a2)] (by decide) (congrArg (_ + ·) (by decide)) rfl dX10_first_49 ?_
          refine J_goto O (tgt := 11) (pc := 52) dX10_first_52 (by decide) ?_
          refine J_sub [2, 3, 4, 1, 0] (lv' := [(0, .ref m), (1, .int a1), (2, .int a2), (3, .int v4), (4, .int (v4 + (-1)))]) rfl ?_
          exact ih v4 (v4 + (-1)) hf
        · have hf := jt_f c28 hf
          refine J_aload_n O (i := 0) (k0 := 0) (pc := 31) 0 rfl rfl dX10_first_31 ?_
          refine J_get O (pc := 32) in_X10_first_X10 0 rfl rfl 5 (by decide) mb_X10_first_3 rfl dX10_first_32 ?_
          refine J_iload O (i := 4) (pc := 35) 4 rfl dX10_first_35 ?_
          obtain ⟨h37, hf⟩ := jt_g hf
          refine J_iald O (pc := 37) 4 1 rfl rfl h37 dX10_first_37 ?_
          refine J_iload_n O (i := 2) (k0 := 2) (pc := 38) 2 rfl rfl dX10_first_38 ?_
          refine J_icmp_ne O (tgt := 47) (pc := 39) dX10_first_39 (by decide) (fun c39 => ?_) (fun c39 => ?_)
          · have hf := jt_f c39 hf
            refine J_iload_n O (i := 3) (k0 := 3) (pc := 47) 3 rfl rfl dX10_first_47 ?_
            refine J_istore_n O (i := 3) (k0 := 3) (pc := 48) rfl [(3, .int v3), (0, .ref m), (1, .int a1), (2, .int a2), (4, .int v4)] (by decide) rfl dX10_first_48 ?_
            refine J_iinc O (i := 4) (n := (-1)) (v := v4 + (-1)) (pc := 49) 4 rfl [(4, .int (v4 + (-1))), (3, .int v3), (0, .ref m), (1, .int a1), (2, .int a2)] (by decide) (congrArg (_ + ·) (by decide)) rfl dX10_first_49 ?_
            refine J_goto O (tgt := 11) (pc := 52) dX10_first_52 (by decide) ?_
            refine J_sub [2, 3, 4, 1, 0] (lv' := [(0, .ref m), (1, .int a1), (2, .int a2), (3, .int v3), (4, .int (v4 + (-1)))]) rfl ?_
            exact ih v3 (v4 + (-1)) hf
          · have hf := jt_t c39 hf
            refine J_iload O (i := 4) (pc := 42) 4 rfl dX10_first_42 ?_
            refine J_goto O (tgt := 48) (pc := 44) dX10_first_44 (by decide) ?_
            refine J_istore_n O (i := 3) (k0 := 3) (pc := 48) rfl [(3, .int v4), (0, .ref m), (1, .int a1), (2, .int a2), (4, .int v4)] (by decide) rfl dX10_first_48 ?_
            refine J_iinc O (i := 4) (n := (-1)) (v := v4 + (-1)) (pc := 49) 4 rfl [(4, .int (v4 + (-1))), (3, .int v4), (0, .ref m), (1, .int a1), (2, .int a2)] (by decide) (congrArg (_ + ·) (by decide)) rfl dX10_first_49 ?_
            refine J_goto O (tgt := 11) (pc := 52) dX10_first_52 (by decide) ?_
            refine J_sub [2, 3, 4, 1, 0] (lv' := [(0, .ref m), (1, .int a1), (2, .int a2), (3, .int v4), (4, .int (v4 + (-1)))]) rfl ?_
            exact ih v4 (v4 + (-1)) hf
set_option maxHeartbeats 4000000 in
set_option maxRecDepth 100000 in
theorem c_X10_first (l : Launch) (D : va_G) (cB cI cJ : ClassId) (m mt md mk ms mu mn mm mo mw : Nat) (m_tl : Int32) (m_dl : Int32) (m_c : Int32) (m_e : Int32) (m_ol : Int32) (m_fa : Int32) (m_f : Int32) (m_p : Int32) (m_is : Int32) (m_t : Nat → Int32) (m_d : Nat → Int32) (m_k : Nat → Int32) (m_s : Nat → Int32) (m_u : Nat → Int32) (m_n : Nat → Int64) (m_m : Nat → Int32) (m_o : Nat → Int32) (m_w : Nat → Int32) (a1 : Int32) (a2 : Int32) (fu : Nat) {z : Int32} (hf : p_X10_first fu m_c m_k m_s a1 a2 = some z) : Ci (l, D, cB, cI, cJ) yX10_first wsX10_first rmX10_first [.ref m, .int a1, .int a2] [(m, .inr (6, [.ref mt, .int m_tl, .ref md, .int m_dl, .ref mk, .ref ms, .int m_c, .ref mu, .ref mn, .ref mm, .int m_e, .ref mo, .int m_ol, .int m_fa, .int m_f, .ref mw, .int m_p, .int m_is])), (mt, .inl (cI, 6000, .inl m_t)), (md, .inl (cI, 12000, .inl m_d)), (mk, .inl (cI, 61, .inl m_k)), (ms, .inl (cI, 61, .inl m_s)), (mu, .inl (cI, 41, .inl m_u)), (mn, .inl (cJ, 41, .inr (.inl m_n))), (mm, .inl (cI, 41, .inl m_m)), (mo, .inl (cI, 14000, .inl m_o)), (mw, .inl (cI, 61, .inl m_w))] [(m, .inr (6, [.ref mt, .int m_tl, .ref md, .int m_dl, .ref mk, .ref ms, .int m_c, .ref mu, .ref mn, .ref mm, .int m_e, .ref mo, .int m_ol, .int m_fa, .int m_f, .ref mw, .int m_p, .int m_is])), (mt, .inl (cI, 6000, .inl m_t)), (md, .inl (cI, 12000, .inl m_d)), (mk, .inl (cI, 61, .inl m_k)), (ms, .inl (cI, 61, .inl m_s)), (mu, .inl (cI, 41, .inl m_u)), (mn, .inl (cJ, 41, .inr (.inl m_n))), (mm, .inl (cI, 41, .inl m_m)), (mo, .inl (cI, 14000, .inl m_o)), (mw, .inl (cI, 61, .inl m_w))] z := by
  refine Ci_of (cc := cX10_first) (nL := 5) (own := RX10) (ret := (some .int)) (by decide) rfl rfl (Nat.le_of_ble_eq_true rfl) (fun X O hnm0 => ?_)
  rw [p_X10_first] at hf
  show J X 5 (JQi X [(m, .inr (6, [.ref mt, .int m_tl, .ref md, .int m_dl, .ref mk, .ref ms, .int m_c, .ref mu, .ref mn, .ref mm, .int m_e, .ref mo, .int m_ol, .int m_fa, .int m_f, .ref mw, .int m_p, .int m_is])), (mt, .inl (cI, 6000, .inl m_t)), (md, .inl (cI, 12000, .inl m_d)), (mk, .inl (cI, 61, .inl m_k)), (ms, .inl (cI, 61, .inl m_s)), (mu, .inl (cI, 41, .inl m_u)), (mn, .inl (cJ, 41, .inr (.inl m_n))), (mm, .inl (cI, 41, .inl m_m)), (mo, .inl (cI, 14000, .inl m_o)), (mw, .inl (cI, 61, .inl m_w))] z 0 0) [(m, .inr (6, [.ref mt, .int m_tl, .ref md, .int m_dl, .ref mk, .ref ms, .int m_c, .ref mu, .ref mn, .ref mm, .int m_e, .ref mo, .int m_ol, .int m_fa, .int m_f, .ref mw, .int m_p, .int m_is])), (mt, .inl (cI, 6000, .inl m_t)), (md, .inl (cI, 12000, .inl m_d)), (mk, .inl (cI, 61, .inl m_k)), (ms, .inl (cI, 61, .inl m_s)), (mu, .inl (cI, 41, .inl m_u)), (mn, .inl (cJ, 41, .inr (.inl m_n))), (mm, .inl (cI, 41, .inl m_m)), (mo, .inl (cI, 14000, .inl m_o)), (mw, .inl (cI, 61, .inl m_w))] 0 0 0 [(0, .ref m), (1, .int a1), (2, .int a2)] []
  refine J_bipush O (v := (-2)) (pc := 0) (by decide) dX10_first_0 ?_
  refine J_istore_n O (i := 3) (k0 := 3) (pc := 2) rfl [(3, .int (-2)), (0, .ref m), (1, .int a1), (2, .int a2)] (by decide) rfl dX10_first_2 ?_
  refine J_aload_n O (i := 0) (k0 := 0) (pc := 3) 1 rfl rfl dX10_first_3 ?_
  refine J_get O (pc := 4) in_X10_first_X10 0 rfl rfl 6 (by decide) mb_X10_first_1 rfl dX10_first_4 ?_
  refine J_iconst O (v := 1) (pc := 7) (by decide) dX10_first_7 ?_
  refine J_isub O (pc := 8) dX10_first_8 ?_
  refine J_istore O (i := 4) (pc := 9) [(4, .int (m_c - 1)), (3, .int (-2)), (0, .ref m), (1, .int a1), (2, .int a2)] (by decide) rfl dX10_first_9 ?_
  refine J_sub [2, 3, 4, 1, 0] (lv' := [(0, .ref m), (1, .int a1), (2, .int a2), (3, .int (-2)), (4, .int (m_c - 1))]) rfl ?_
  exact wk_X10_first_11 O m mt md mk ms mu mn mm mo mw m_tl m_dl m_c m_e m_ol m_fa m_f m_p m_is m_t m_d m_k m_s m_u m_n m_m m_o m_w a1 a2 fu fu (-2) (m_c - 1) hf
theorem mb_X10_front_0 : Cond.constant RX10 197 1181970531 ∈ wsX10_front := by decide +kernel
theorem hdV_X10_first : yX10_first.cls = RX10 ∧ yX10_first.cls ≠ "java/lang/invoke/MethodHandle" ∧ yX10_first.cls ≠ "java/lang/invoke/VarHandle" ∧ (parseMethodDescriptor yX10_first.desc).map (fun d => d.parameters.length) = some 2 := by decide +kernel
theorem in_X10_front_X10 : ∀ w ∈ u_ws RX10 TX10 18, w ∈ wsX10_front := fun _ h => List.mem_cons_of_mem _ (List.mem_append_right _ h)
theorem mb_X10_front_2 : Cond.fieldLink RX10 13 (TX10 2).1 (TX10 2).2.1 (TX10 2).2.2.1 ∈ wsX10_front := by decide +kernel
theorem mb_X10_front_3 : Cond.constantLong RX10 164 (-2) ∈ wsX10_front := by decide +kernel
abbrev rmX10_front : Room := { frames := 2, cells := 0, slots := 0, locals := 42 }
set_option maxHeartbeats 4000000 in
set_option maxRecDepth 100000 in
theorem c_X10_front (l : Launch) (D : va_G) (cB cI cJ : ClassId) (m mt md mk ms mu mn mm mo mw : Nat) (m_tl : Int32) (m_dl : Int32) (m_c : Int32) (m_e : Int32) (m_ol : Int32) (m_fa : Int32) (m_f : Int32) (m_p : Int32) (m_is : Int32) (m_t : Nat → Int32) (m_d : Nat → Int32) (m_k : Nat → Int32) (m_s : Nat → Int32) (m_u : Nat → Int32) (m_n : Nat → Int64) (m_m : Nat → Int32) (m_o : Nat → Int32) (m_w : Nat → Int32) (fu : Nat) {z : Int64} (hf : p_X10_front fu m_c m_d m_k m_s = some z) : Cl (l, D, cB, cI, cJ) yX10_front wsX10_front rmX10_front [.ref m] [(m, .inr (6, [.ref mt, .int m_tl, .ref md, .int m_dl, .ref mk, .ref ms, .int m_c, .ref mu, .ref mn, .ref mm, .int m_e, .ref mo, .int m_ol, .int m_fa, .int m_f, .ref mw, .int m_p, .int m_is])), (mt, .inl (cI, 6000, .inl m_t)), (md, .inl (cI, 12000, .inl m_d)), (mk, .inl (cI, 61, .inl m_k)), (ms, .inl (cI, 61, .inl m_s)), (mu, .inl (cI, 41, .inl m_u)), (mn, .inl (cJ, 41, .inr (.inl m_n))), (mm, .inl (cI, 41, .inl m_m)), (mo, .inl (cI, 14000, .inl m_o)), (mw, .inl (cI, 61, .inl m_w))] [(m, .inr (6, [.ref mt, .int m_tl, .ref md, .int m_dl, .ref mk, .ref ms, .int m_c, .ref mu, .ref mn, .ref mm, .int m_e, .ref mo, .int m_ol, .int m_fa, .int m_f, .ref mw, .int m_p, .int m_is])), (mt, .inl (cI, 6000, .inl m_t)), (md, .inl (cI, 12000, .inl m_d)), (mk, .inl (cI, 61, .inl m_k)), (ms, .inl (cI, 61, .inl m_s)), (mu, .inl (cI, 41, .inl m_u)), (mn, .inl (cJ, 41, .inr (.inl m_n))), (mm, .inl (cI, 41, .inl m_m)), (mo, .inl (cI, 14000, .inl m_o)), (mw, .inl (cI, 61, .inl m_w))] z := by
  refine Cl_of (cc := cX10_front) (nL := 2) (own := RX10) (ret := (some .long)) (by decide) rfl rfl (Nat.le_of_ble_eq_true rfl) (fun X O hnm0 => ?_)
  rw [p_X10_front] at hf
  show J X 2 (JQl X [(m, .inr (6, [.ref mt, .int m_tl, .ref md, .int m_dl, .ref mk, .ref ms, .int m_c, .ref mu, .ref mn, .ref mm, .int m_e, .ref mo, .int m_ol, .int m_fa, .int m_f, .ref mw, .int m_p, .int m_is])), (mt, .inl (cI, 6000, .inl m_t)), (md, .inl (cI, 12000, .inl m_d)), (mk, .inl (cI, 61, .inl m_k)), (ms, .inl (cI, 61, .inl m_s)), (mu, .inl (cI, 41, .inl m_u)), (mn, .inl (cJ, 41, .inr (.inl m_n))), (mm, .inl (cI, 41, .inl m_m)), (mo, .inl (cI, 14000, .inl m_o)), (mw, .inl (cI, 61, .inl m_w))] z 0 0) [(m, .inr (6, [.ref mt, .int m_tl, .ref md, .int m_dl, .ref mk, .ref ms, .int m_c, .ref mu, .ref mn, .ref mm, .int m_e, .ref mo, .int m_ol, .int m_fa, .int m_f, .ref mw, .int m_p, .int m_is])), (mt, .inl (cI, 6000, .inl m_t)), (md, .inl (cI, 12000, .inl m_d)), (mk, .inl (cI, 61, .inl m_k)), (ms, .inl (cI, 61, .inl m_s)), (mu, .inl (cI, 41, .inl m_u)), (mn, .inl (cJ, 41, .inr (.inl m_n))), (mm, .inl (cI, 41, .inl m_m)), (mo, .inl (cI, 14000, .inl m_o)), (mw, .inl (cI, 61, .inl m_w))] 0 0 0 [(0, .ref m)] []
  refine J_aload_n O (i := 0) (k0 := 0) (pc := 0) 0 rfl rfl dX10_front_0 ?_
  refine J_ldc O (pc := 1) mb_X10_front_0 dX10_front_1 ?_
  refine J_iconst O (v := 4) (pc := 3) (by decide) dX10_front_3 ?_
  obtain ⟨z4, h4, hf⟩ := jt_b hf
  refine J_callVi O (pc := 4) (c_X10_first l D cB cI cJ m mt md mk ms mu mn mm mo mw m_tl m_dl m_c m_e m_ol m_fa m_f m_p m_is m_t m_d m_k m_s m_u m_n m_m m_o m_w 1181970531 4 fu h4) rfl 0 rfl rfl gX10_front_X10_first hdV_X10_first ⟨(Nat.le_of_ble_eq_true rfl), (Nat.le_of_ble_eq_true rfl)⟩ rfl (st := []) rfl (Nat.le_of_ble_eq_true rfl) [0, 1, 2, 3, 4, 5, 6, 7, 8, 9] [] rfl rfl rfl rfl rfl (by decide) [(m, .inr (6, [.ref mt, .int m_tl, .ref md, .int m_dl, .ref mk, .ref ms, .int m_c, .ref mu, .ref mn, .ref mm, .int m_e, .ref mo, .int m_ol, .int m_fa, .int m_f, .ref mw, .int m_p, .int m_is])), (mt, .inl (cI, 6000, .inl m_t)), (md, .inl (cI, 12000, .inl m_d)), (mk, .inl (cI, 61, .inl m_k)), (ms, .inl (cI, 61, .inl m_s)), (mu, .inl (cI, 41, .inl m_u)), (mn, .inl (cJ, 41, .inr (.inl m_n))), (mm, .inl (cI, 41, .inl m_m)), (mo, .inl (cI, 14000, .inl m_o)), (mw, .inl (cI, 61, .inl m_w))] [0, 1, 2, 3, 4, 5, 6, 7, 8, 9] rfl rfl rfl (0) (0) (Nat.le_of_ble_eq_true rfl) (Nat.le_of_ble_eq_true rfl) ⟨(Nat.le_of_ble_eq_true rfl), (Nat.le_of_ble_eq_true rfl)⟩ dX10_front_4 ?_
  refine J_istore_n O (i := 1) (k0 := 1) (pc := 7) rfl [(1, .int z4), (0, .ref m)] (by decide) rfl dX10_front_7 ?_
  refine J_iload_n O (i := 1) (k0 := 1) (pc := 8) 0 rfl rfl dX10_front_8 ?_
  refine J_bipush O (v := (-2)) (pc := 9) (by decide) dX10_front_9 ?_
  refine J_icmp_ne O (tgt := 20) (pc := 11) dX10_front_11 (by decide) (fun c11 => ?_) (fun c11 => ?_)
  · have hf := jt_f c11 hf
    refine J_aload_n O (i := 0) (k0 := 0) (pc := 20) 1 rfl rfl dX10_front_20 ?_
    refine J_get O (pc := 21) in_X10_front_X10 0 rfl rfl 2 (by decide) mb_X10_front_2 rfl dX10_front_21 ?_
    refine J_aload_n O (i := 0) (k0 := 0) (pc := 24) 1 rfl rfl dX10_front_24 ?_
    refine J_iload_n O (i := 1) (k0 := 1) (pc := 25) 0 rfl rfl dX10_front_25 ?_
    obtain ⟨z26, h26, hf⟩ := jt_b hf
    refine J_callVi O (pc := 26) (c_X10_fromOf l D cB cI cJ m mt md mk ms mu mn mm mo mw m_tl m_dl m_c m_e m_ol m_fa m_f m_p m_is m_t m_d m_k m_s m_u m_n m_m m_o m_w z4 fu h26) rfl 0 rfl rfl gX10_front_X10_fromOf hdV_X10_fromOf ⟨(Nat.le_of_ble_eq_true rfl), (Nat.le_of_ble_eq_true rfl)⟩ rfl (st := [.ref md]) rfl (Nat.le_of_ble_eq_true rfl) [0, 1, 2, 3, 4, 5, 6, 7, 8, 9] [] rfl rfl rfl rfl rfl (by decide) [(m, .inr (6, [.ref mt, .int m_tl, .ref md, .int m_dl, .ref mk, .ref ms, .int m_c, .ref mu, .ref mn, .ref mm, .int m_e, .ref mo, .int m_ol, .int m_fa, .int m_f, .ref mw, .int m_p, .int m_is])), (mt, .inl (cI, 6000, .inl m_t)), (md, .inl (cI, 12000, .inl m_d)), (mk, .inl (cI, 61, .inl m_k)), (ms, .inl (cI, 61, .inl m_s)), (mu, .inl (cI, 41, .inl m_u)), (mn, .inl (cJ, 41, .inr (.inl m_n))), (mm, .inl (cI, 41, .inl m_m)), (mo, .inl (cI, 14000, .inl m_o)), (mw, .inl (cI, 61, .inl m_w))] [0, 1, 2, 3, 4, 5, 6, 7, 8, 9] rfl rfl rfl (0) (0) (Nat.le_of_ble_eq_true rfl) (Nat.le_of_ble_eq_true rfl) ⟨(Nat.le_of_ble_eq_true rfl), (Nat.le_of_ble_eq_true rfl)⟩ dX10_front_26 ?_
    obtain ⟨z29, h29, hf⟩ := jt_b hf
    refine J_callSl O (pc := 29) (c_X10_four l D cB cI cJ md 12000 m_d z26 h29) rfl gX10_front_X10_four hdS_X10_four ⟨(Nat.le_of_ble_eq_true rfl), (Nat.le_of_ble_eq_true rfl)⟩ rfl (st := []) rfl (Nat.le_of_ble_eq_true rfl) [2] [0, 1, 3, 4, 5, 6, 7, 8, 9] rfl rfl rfl rfl rfl (by decide) [(m, .inr (6, [.ref mt, .int m_tl, .ref md, .int m_dl, .ref mk, .ref ms, .int m_c, .ref mu, .ref mn, .ref mm, .int m_e, .ref mo, .int m_ol, .int m_fa, .int m_f, .ref mw, .int m_p, .int m_is])), (mt, .inl (cI, 6000, .inl m_t)), (md, .inl (cI, 12000, .inl m_d)), (mk, .inl (cI, 61, .inl m_k)), (ms, .inl (cI, 61, .inl m_s)), (mu, .inl (cI, 41, .inl m_u)), (mn, .inl (cJ, 41, .inr (.inl m_n))), (mm, .inl (cI, 41, .inl m_m)), (mo, .inl (cI, 14000, .inl m_o)), (mw, .inl (cI, 61, .inl m_w))] [0, 1, 9, 2, 3, 4, 5, 6, 7, 8] rfl rfl rfl (0) (0) (Nat.le_of_ble_eq_true rfl) (Nat.le_of_ble_eq_true rfl) ⟨(Nat.le_of_ble_eq_true rfl), (Nat.le_of_ble_eq_true rfl)⟩ dX10_front_29 ?_
    have e9 := Option.some.inj hf
    subst e9
    exact J_lret O (pc := 32) rfl dX10_front_32
  · have hf := jt_t c11 hf
    refine J_ldc2 O (pc := 14) mb_X10_front_3 dX10_front_14 ?_
    refine J_goto O (tgt := 32) (pc := 17) dX10_front_17 (by decide) ?_
    have e9 := Option.some.inj hf
    subst e9
    exact J_lret O (pc := 32) rfl dX10_front_32
theorem mb_X10_release_0 : Cond.constant RX10 202 1382378574 ∈ wsX10_release := by decide +kernel
theorem in_X10_release_X10 : ∀ w ∈ u_ws RX10 TX10 18, w ∈ wsX10_release := fun _ h => List.mem_cons_of_mem _ (List.mem_append_right _ h)
theorem mb_X10_release_2 : Cond.fieldLink RX10 13 (TX10 2).1 (TX10 2).2.1 (TX10 2).2.2.1 ∈ wsX10_release := by decide +kernel
abbrev rmX10_release : Room := { frames := 1, cells := 0, slots := 0, locals := 24 }
set_option maxHeartbeats 4000000 in
set_option maxRecDepth 100000 in
theorem c_X10_release (l : Launch) (D : va_G) (cB cI cJ : ClassId) (m mt md mk ms mu mn mm mo mw : Nat) (m_tl : Int32) (m_dl : Int32) (m_c : Int32) (m_e : Int32) (m_ol : Int32) (m_fa : Int32) (m_f : Int32) (m_p : Int32) (m_is : Int32) (m_t : Nat → Int32) (m_d : Nat → Int32) (m_k : Nat → Int32) (m_s : Nat → Int32) (m_u : Nat → Int32) (m_n : Nat → Int64) (m_m : Nat → Int32) (m_o : Nat → Int32) (m_w : Nat → Int32) (fu : Nat) {z : Int32} (hf : p_X10_release fu m_c m_d m_k m_s = some z) : Ci (l, D, cB, cI, cJ) yX10_release wsX10_release rmX10_release [.ref m] [(m, .inr (6, [.ref mt, .int m_tl, .ref md, .int m_dl, .ref mk, .ref ms, .int m_c, .ref mu, .ref mn, .ref mm, .int m_e, .ref mo, .int m_ol, .int m_fa, .int m_f, .ref mw, .int m_p, .int m_is])), (mt, .inl (cI, 6000, .inl m_t)), (md, .inl (cI, 12000, .inl m_d)), (mk, .inl (cI, 61, .inl m_k)), (ms, .inl (cI, 61, .inl m_s)), (mu, .inl (cI, 41, .inl m_u)), (mn, .inl (cJ, 41, .inr (.inl m_n))), (mm, .inl (cI, 41, .inl m_m)), (mo, .inl (cI, 14000, .inl m_o)), (mw, .inl (cI, 61, .inl m_w))] [(m, .inr (6, [.ref mt, .int m_tl, .ref md, .int m_dl, .ref mk, .ref ms, .int m_c, .ref mu, .ref mn, .ref mm, .int m_e, .ref mo, .int m_ol, .int m_fa, .int m_f, .ref mw, .int m_p, .int m_is])), (mt, .inl (cI, 6000, .inl m_t)), (md, .inl (cI, 12000, .inl m_d)), (mk, .inl (cI, 61, .inl m_k)), (ms, .inl (cI, 61, .inl m_s)), (mu, .inl (cI, 41, .inl m_u)), (mn, .inl (cJ, 41, .inr (.inl m_n))), (mm, .inl (cI, 41, .inl m_m)), (mo, .inl (cI, 14000, .inl m_o)), (mw, .inl (cI, 61, .inl m_w))] z := by
  refine Ci_of (cc := cX10_release) (nL := 2) (own := RX10) (ret := (some .int)) (by decide) rfl rfl (Nat.le_of_ble_eq_true rfl) (fun X O hnm0 => ?_)
  rw [p_X10_release] at hf
  show J X 2 (JQi X [(m, .inr (6, [.ref mt, .int m_tl, .ref md, .int m_dl, .ref mk, .ref ms, .int m_c, .ref mu, .ref mn, .ref mm, .int m_e, .ref mo, .int m_ol, .int m_fa, .int m_f, .ref mw, .int m_p, .int m_is])), (mt, .inl (cI, 6000, .inl m_t)), (md, .inl (cI, 12000, .inl m_d)), (mk, .inl (cI, 61, .inl m_k)), (ms, .inl (cI, 61, .inl m_s)), (mu, .inl (cI, 41, .inl m_u)), (mn, .inl (cJ, 41, .inr (.inl m_n))), (mm, .inl (cI, 41, .inl m_m)), (mo, .inl (cI, 14000, .inl m_o)), (mw, .inl (cI, 61, .inl m_w))] z 0 0) [(m, .inr (6, [.ref mt, .int m_tl, .ref md, .int m_dl, .ref mk, .ref ms, .int m_c, .ref mu, .ref mn, .ref mm, .int m_e, .ref mo, .int m_ol, .int m_fa, .int m_f, .ref mw, .int m_p, .int m_is])), (mt, .inl (cI, 6000, .inl m_t)), (md, .inl (cI, 12000, .inl m_d)), (mk, .inl (cI, 61, .inl m_k)), (ms, .inl (cI, 61, .inl m_s)), (mu, .inl (cI, 41, .inl m_u)), (mn, .inl (cJ, 41, .inr (.inl m_n))), (mm, .inl (cI, 41, .inl m_m)), (mo, .inl (cI, 14000, .inl m_o)), (mw, .inl (cI, 61, .inl m_w))] 0 0 0 [(0, .ref m)] []
  refine J_aload_n O (i := 0) (k0 := 0) (pc := 0) 0 rfl rfl dX10_release_0 ?_
  refine J_ldc O (pc := 1) mb_X10_release_0 dX10_release_1 ?_
  refine J_iconst O (v := 2) (pc := 3) (by decide) dX10_release_3 ?_
  obtain ⟨z4, h4, hf⟩ := jt_b hf
  refine J_callVi O (pc := 4) (c_X10_first l D cB cI cJ m mt md mk ms mu mn mm mo mw m_tl m_dl m_c m_e m_ol m_fa m_f m_p m_is m_t m_d m_k m_s m_u m_n m_m m_o m_w 1382378574 2 fu h4) rfl 0 rfl rfl gX10_release_X10_first hdV_X10_first ⟨(Nat.le_of_ble_eq_true rfl), (Nat.le_of_ble_eq_true rfl)⟩ rfl (st := []) rfl (Nat.le_of_ble_eq_true rfl) [0, 1, 2, 3, 4, 5, 6, 7, 8, 9] [] rfl rfl rfl rfl rfl (by decide) [(m, .inr (6, [.ref mt, .int m_tl, .ref md, .int m_dl, .ref mk, .ref ms, .int m_c, .ref mu, .ref mn, .ref mm, .int m_e, .ref mo, .int m_ol, .int m_fa, .int m_f, .ref mw, .int m_p, .int m_is])), (mt, .inl (cI, 6000, .inl m_t)), (md, .inl (cI, 12000, .inl m_d)), (mk, .inl (cI, 61, .inl m_k)), (ms, .inl (cI, 61, .inl m_s)), (mu, .inl (cI, 41, .inl m_u)), (mn, .inl (cJ, 41, .inr (.inl m_n))), (mm, .inl (cI, 41, .inl m_m)), (mo, .inl (cI, 14000, .inl m_o)), (mw, .inl (cI, 61, .inl m_w))] [0, 1, 2, 3, 4, 5, 6, 7, 8, 9] rfl rfl rfl (0) (0) (Nat.le_of_ble_eq_true rfl) (Nat.le_of_ble_eq_true rfl) ⟨(Nat.le_of_ble_eq_true rfl), (Nat.le_of_ble_eq_true rfl)⟩ dX10_release_4 ?_
  refine J_istore_n O (i := 1) (k0 := 1) (pc := 7) rfl [(1, .int z4), (0, .ref m)] (by decide) rfl dX10_release_7 ?_
  refine J_iload_n O (i := 1) (k0 := 1) (pc := 8) 0 rfl rfl dX10_release_8 ?_
  refine J_bipush O (v := (-2)) (pc := 9) (by decide) dX10_release_9 ?_
  refine J_icmp_ne O (tgt := 19) (pc := 11) dX10_release_11 (by decide) (fun c11 => ?_) (fun c11 => ?_)
  · have hf := jt_f c11 hf
    refine J_aload_n O (i := 0) (k0 := 0) (pc := 19) 1 rfl rfl dX10_release_19 ?_
    refine J_get O (pc := 20) in_X10_release_X10 0 rfl rfl 2 (by decide) mb_X10_release_2 rfl dX10_release_20 ?_
    refine J_aload_n O (i := 0) (k0 := 0) (pc := 23) 1 rfl rfl dX10_release_23 ?_
    refine J_iload_n O (i := 1) (k0 := 1) (pc := 24) 0 rfl rfl dX10_release_24 ?_
    obtain ⟨z25, h25, hf⟩ := jt_b hf
    refine J_callVi O (pc := 25) (c_X10_fromOf l D cB cI cJ m mt md mk ms mu mn mm mo mw m_tl m_dl m_c m_e m_ol m_fa m_f m_p m_is m_t m_d m_k m_s m_u m_n m_m m_o m_w z4 fu h25) rfl 0 rfl rfl gX10_release_X10_fromOf hdV_X10_fromOf ⟨(Nat.le_of_ble_eq_true rfl), (Nat.le_of_ble_eq_true rfl)⟩ rfl (st := [.ref md]) rfl (Nat.le_of_ble_eq_true rfl) [0, 1, 2, 3, 4, 5, 6, 7, 8, 9] [] rfl rfl rfl rfl rfl (by decide) [(m, .inr (6, [.ref mt, .int m_tl, .ref md, .int m_dl, .ref mk, .ref ms, .int m_c, .ref mu, .ref mn, .ref mm, .int m_e, .ref mo, .int m_ol, .int m_fa, .int m_f, .ref mw, .int m_p, .int m_is])), (mt, .inl (cI, 6000, .inl m_t)), (md, .inl (cI, 12000, .inl m_d)), (mk, .inl (cI, 61, .inl m_k)), (ms, .inl (cI, 61, .inl m_s)), (mu, .inl (cI, 41, .inl m_u)), (mn, .inl (cJ, 41, .inr (.inl m_n))), (mm, .inl (cI, 41, .inl m_m)), (mo, .inl (cI, 14000, .inl m_o)), (mw, .inl (cI, 61, .inl m_w))] [0, 1, 2, 3, 4, 5, 6, 7, 8, 9] rfl rfl rfl (0) (0) (Nat.le_of_ble_eq_true rfl) (Nat.le_of_ble_eq_true rfl) ⟨(Nat.le_of_ble_eq_true rfl), (Nat.le_of_ble_eq_true rfl)⟩ dX10_release_25 ?_
    obtain ⟨z28, h28, hf⟩ := jt_b hf
    refine J_callSi O (pc := 28) (c_X10_two l D cB cI cJ md 12000 m_d z25 h28) rfl gX10_release_X10_two hdS_X10_two ⟨(Nat.le_of_ble_eq_true rfl), (Nat.le_of_ble_eq_true rfl)⟩ rfl (st := []) rfl (Nat.le_of_ble_eq_true rfl) [2] [0, 1, 3, 4, 5, 6, 7, 8, 9] rfl rfl rfl rfl rfl (by decide) [(m, .inr (6, [.ref mt, .int m_tl, .ref md, .int m_dl, .ref mk, .ref ms, .int m_c, .ref mu, .ref mn, .ref mm, .int m_e, .ref mo, .int m_ol, .int m_fa, .int m_f, .ref mw, .int m_p, .int m_is])), (mt, .inl (cI, 6000, .inl m_t)), (md, .inl (cI, 12000, .inl m_d)), (mk, .inl (cI, 61, .inl m_k)), (ms, .inl (cI, 61, .inl m_s)), (mu, .inl (cI, 41, .inl m_u)), (mn, .inl (cJ, 41, .inr (.inl m_n))), (mm, .inl (cI, 41, .inl m_m)), (mo, .inl (cI, 14000, .inl m_o)), (mw, .inl (cI, 61, .inl m_w))] [0, 1, 9, 2, 3, 4, 5, 6, 7, 8] rfl rfl rfl (0) (0) (Nat.le_of_ble_eq_true rfl) (Nat.le_of_ble_eq_true rfl) ⟨(Nat.le_of_ble_eq_true rfl), (Nat.le_of_ble_eq_true rfl)⟩ dX10_release_28 ?_
    have e9 := Option.some.inj hf
    subst e9
    exact J_iret O (pc := 31) rfl dX10_release_31
  · have hf := jt_t c11 hf
    refine J_bipush O (v := (-2)) (pc := 14) (by decide) dX10_release_14 ?_
    refine J_goto O (tgt := 31) (pc := 16) dX10_release_16 (by decide) ?_
    have e9 := Option.some.inj hf
    subst e9
    exact J_iret O (pc := 31) rfl dX10_release_31
theorem mb_X10_colour_0 : Cond.constant RX10 203 1349284965 ∈ wsX10_colour := by decide +kernel
theorem mb_X10_colour_1 : Cond.constantLong RX10 128 3 ∈ wsX10_colour := by decide +kernel
theorem in_X10_colour_X10 : ∀ w ∈ u_ws RX10 TX10 18, w ∈ wsX10_colour := fun _ h => List.mem_cons_of_mem _ (List.mem_append_right _ h)
theorem mb_X10_colour_3 : Cond.fieldLink RX10 19 (TX10 5).1 (TX10 5).2.1 (TX10 5).2.2.1 ∈ wsX10_colour := by decide +kernel
theorem mb_X10_colour_4 : Cond.fieldLink RX10 13 (TX10 2).1 (TX10 2).2.1 (TX10 2).2.2.1 ∈ wsX10_colour := by decide +kernel
abbrev rmX10_colour : Room := { frames := 1, cells := 0, slots := 0, locals := 24 }
set_option maxHeartbeats 4000000 in
set_option maxRecDepth 100000 in
theorem c_X10_colour (l : Launch) (D : va_G) (cB cI cJ : ClassId) (m mt md mk ms mu mn mm mo mw : Nat) (m_tl : Int32) (m_dl : Int32) (m_c : Int32) (m_e : Int32) (m_ol : Int32) (m_fa : Int32) (m_f : Int32) (m_p : Int32) (m_is : Int32) (m_t : Nat → Int32) (m_d : Nat → Int32) (m_k : Nat → Int32) (m_s : Nat → Int32) (m_u : Nat → Int32) (m_n : Nat → Int64) (m_m : Nat → Int32) (m_o : Nat → Int32) (m_w : Nat → Int32) (a1 : Int32) (fu : Nat) {z : Int32} (hf : p_X10_colour fu m_c m_d m_k m_s a1 = some z) : Ci (l, D, cB, cI, cJ) yX10_colour wsX10_colour rmX10_colour [.ref m, .int a1] [(m, .inr (6, [.ref mt, .int m_tl, .ref md, .int m_dl, .ref mk, .ref ms, .int m_c, .ref mu, .ref mn, .ref mm, .int m_e, .ref mo, .int m_ol, .int m_fa, .int m_f, .ref mw, .int m_p, .int m_is])), (mt, .inl (cI, 6000, .inl m_t)), (md, .inl (cI, 12000, .inl m_d)), (mk, .inl (cI, 61, .inl m_k)), (ms, .inl (cI, 61, .inl m_s)), (mu, .inl (cI, 41, .inl m_u)), (mn, .inl (cJ, 41, .inr (.inl m_n))), (mm, .inl (cI, 41, .inl m_m)), (mo, .inl (cI, 14000, .inl m_o)), (mw, .inl (cI, 61, .inl m_w))] [(m, .inr (6, [.ref mt, .int m_tl, .ref md, .int m_dl, .ref mk, .ref ms, .int m_c, .ref mu, .ref mn, .ref mm, .int m_e, .ref mo, .int m_ol, .int m_fa, .int m_f, .ref mw, .int m_p, .int m_is])), (mt, .inl (cI, 6000, .inl m_t)), (md, .inl (cI, 12000, .inl m_d)), (mk, .inl (cI, 61, .inl m_k)), (ms, .inl (cI, 61, .inl m_s)), (mu, .inl (cI, 41, .inl m_u)), (mn, .inl (cJ, 41, .inr (.inl m_n))), (mm, .inl (cI, 41, .inl m_m)), (mo, .inl (cI, 14000, .inl m_o)), (mw, .inl (cI, 61, .inl m_w))] z := by
  refine Ci_of (cc := cX10_colour) (nL := 4) (own := RX10) (ret := (some .int)) (by decide) rfl rfl (Nat.le_of_ble_eq_true rfl) (fun X O hnm0 => ?_)
  rw [p_X10_colour] at hf
  show J X 4 (JQi X [(m, .inr (6, [.ref mt, .int m_tl, .ref md, .int m_dl, .ref mk, .ref ms, .int m_c, .ref mu, .ref mn, .ref mm, .int m_e, .ref mo, .int m_ol, .int m_fa, .int m_f, .ref mw, .int m_p, .int m_is])), (mt, .inl (cI, 6000, .inl m_t)), (md, .inl (cI, 12000, .inl m_d)), (mk, .inl (cI, 61, .inl m_k)), (ms, .inl (cI, 61, .inl m_s)), (mu, .inl (cI, 41, .inl m_u)), (mn, .inl (cJ, 41, .inr (.inl m_n))), (mm, .inl (cI, 41, .inl m_m)), (mo, .inl (cI, 14000, .inl m_o)), (mw, .inl (cI, 61, .inl m_w))] z 0 0) [(m, .inr (6, [.ref mt, .int m_tl, .ref md, .int m_dl, .ref mk, .ref ms, .int m_c, .ref mu, .ref mn, .ref mm, .int m_e, .ref mo, .int m_ol, .int m_fa, .int m_f, .ref mw, .int m_p, .int m_is])), (mt, .inl (cI, 6000, .inl m_t)), (md, .inl (cI, 12000, .inl m_d)), (mk, .inl (cI, 61, .inl m_k)), (ms, .inl (cI, 61, .inl m_s)), (mu, .inl (cI, 41, .inl m_u)), (mn, .inl (cJ, 41, .inr (.inl m_n))), (mm, .inl (cI, 41, .inl m_m)), (mo, .inl (cI, 14000, .inl m_o)), (mw, .inl (cI, 61, .inl m_w))] 0 0 0 [(0, .ref m), (1, .int a1)] []
  refine J_iload_n O (i := 1) (k0 := 1) (pc := 0) 1 rfl rfl dX10_colour_0 ?_
  refine J_if_ge O (tgt := 6) (pc := 1) dX10_colour_1 (by decide) (fun c1 => ?_) (fun c1 => ?_)
  · have hf := jt_t c1 hf
    refine J_aload_n O (i := 0) (k0 := 0) (pc := 6) 0 rfl rfl dX10_colour_6 ?_
    refine J_ldc O (pc := 7) mb_X10_colour_0 dX10_colour_7 ?_
    refine J_iconst O (v := (-1)) (pc := 9) (by decide) dX10_colour_9 ?_
    obtain ⟨z10, h10, hf⟩ := jt_b hf
    refine J_callVi O (pc := 10) (c_X10_first l D cB cI cJ m mt md mk ms mu mn mm mo mw m_tl m_dl m_c m_e m_ol m_fa m_f m_p m_is m_t m_d m_k m_s m_u m_n m_m m_o m_w 1349284965 (-1) fu h10) rfl 0 rfl rfl gX10_colour_X10_first hdV_X10_first ⟨(Nat.le_of_ble_eq_true rfl), (Nat.le_of_ble_eq_true rfl)⟩ rfl (st := []) rfl (Nat.le_of_ble_eq_true rfl) [0, 1, 2, 3, 4, 5, 6, 7, 8, 9] [] rfl rfl rfl rfl rfl (by decide) [(m, .inr (6, [.ref mt, .int m_tl, .ref md, .int m_dl, .ref mk, .ref ms, .int m_c, .ref mu, .ref mn, .ref mm, .int m_e, .ref mo, .int m_ol, .int m_fa, .int m_f, .ref mw, .int m_p, .int m_is])), (mt, .inl (cI, 6000, .inl m_t)), (md, .inl (cI, 12000, .inl m_d)), (mk, .inl (cI, 61, .inl m_k)), (ms, .inl (cI, 61, .inl m_s)), (mu, .inl (cI, 41, .inl m_u)), (mn, .inl (cJ, 41, .inr (.inl m_n))), (mm, .inl (cI, 41, .inl m_m)), (mo, .inl (cI, 14000, .inl m_o)), (mw, .inl (cI, 61, .inl m_w))] [0, 1, 2, 3, 4, 5, 6, 7, 8, 9] rfl rfl rfl (0) (0) (Nat.le_of_ble_eq_true rfl) (Nat.le_of_ble_eq_true rfl) ⟨(Nat.le_of_ble_eq_true rfl), (Nat.le_of_ble_eq_true rfl)⟩ dX10_colour_10 ?_
    refine J_istore_n O (i := 2) (k0 := 2) (pc := 13) rfl [(2, .int z10), (0, .ref m), (1, .int a1)] (by decide) rfl dX10_colour_13 ?_
    refine J_iload_n O (i := 2) (k0 := 2) (pc := 14) 0 rfl rfl dX10_colour_14 ?_
    refine J_bipush O (v := (-2)) (pc := 15) (by decide) dX10_colour_15 ?_
    refine J_icmp_eq O (tgt := 41) (pc := 17) dX10_colour_17 (by decide) (fun c17 => ?_) (fun c17 => ?_)
    · have hf := jt_t c17 hf
      refine J_bipush O (v := (-2)) (pc := 41) (by decide) dX10_colour_41 ?_
      have e9 := Option.some.inj hf
      subst e9
      exact J_iret O (pc := 43) rfl dX10_colour_43
    · have hf := jt_f c17 hf
      refine J_ldc2 O (pc := 20) mb_X10_colour_1 dX10_colour_20 ?_
      refine J_iload_n O (i := 1) (k0 := 1) (pc := 23) 2 rfl rfl dX10_colour_23 ?_
      refine J_i2l O (pc := 24) dX10_colour_24 ?_
      refine J_lmul O (pc := 25) dX10_colour_25 ?_
      refine J_ldc2 O (pc := 26) mb_X10_colour_1 dX10_colour_26 ?_
      refine J_ladd O (pc := 29) dX10_colour_29 ?_
      refine J_aload_n O (i := 0) (k0 := 0) (pc := 30) 1 rfl rfl dX10_colour_30 ?_
      refine J_get O (pc := 31) in_X10_colour_X10 0 rfl rfl 5 (by decide) mb_X10_colour_3 rfl dX10_colour_31 ?_
      refine J_iload_n O (i := 2) (k0 := 2) (pc := 34) 0 rfl rfl dX10_colour_34 ?_
      obtain ⟨h35, hf⟩ := jt_g hf
      refine J_iald O (pc := 35) 4 1 rfl rfl h35 dX10_colour_35 ?_
      refine J_i2l O (pc := 36) dX10_colour_36 ?_
      refine J_lif_le O (tgt := 44) (pc := 37) dX10_colour_37 dX10_colour_38 (by decide) (fun c37 => ?_) (fun c37 => ?_)
      · have hf := jt_t c37 hf
        refine J_aload_n O (i := 0) (k0 := 0) (pc := 44) 1 rfl rfl dX10_colour_44 ?_
        refine J_iload_n O (i := 2) (k0 := 2) (pc := 45) 0 rfl rfl dX10_colour_45 ?_
        obtain ⟨z46, h46, hf⟩ := jt_b hf
        refine J_callVi O (pc := 46) (c_X10_fromOf l D cB cI cJ m mt md mk ms mu mn mm mo mw m_tl m_dl m_c m_e m_ol m_fa m_f m_p m_is m_t m_d m_k m_s m_u m_n m_m m_o m_w z10 fu h46) rfl 0 rfl rfl gX10_colour_X10_fromOf hdV_X10_fromOf ⟨(Nat.le_of_ble_eq_true rfl), (Nat.le_of_ble_eq_true rfl)⟩ rfl (st := []) rfl (Nat.le_of_ble_eq_true rfl) [0, 1, 2, 3, 4, 5, 6, 7, 8, 9] [] rfl rfl rfl rfl rfl (by decide) [(m, .inr (6, [.ref mt, .int m_tl, .ref md, .int m_dl, .ref mk, .ref ms, .int m_c, .ref mu, .ref mn, .ref mm, .int m_e, .ref mo, .int m_ol, .int m_fa, .int m_f, .ref mw, .int m_p, .int m_is])), (mt, .inl (cI, 6000, .inl m_t)), (md, .inl (cI, 12000, .inl m_d)), (mk, .inl (cI, 61, .inl m_k)), (ms, .inl (cI, 61, .inl m_s)), (mu, .inl (cI, 41, .inl m_u)), (mn, .inl (cJ, 41, .inr (.inl m_n))), (mm, .inl (cI, 41, .inl m_m)), (mo, .inl (cI, 14000, .inl m_o)), (mw, .inl (cI, 61, .inl m_w))] [0, 1, 2, 3, 4, 5, 6, 7, 8, 9] rfl rfl rfl (0) (0) (Nat.le_of_ble_eq_true rfl) (Nat.le_of_ble_eq_true rfl) ⟨(Nat.le_of_ble_eq_true rfl), (Nat.le_of_ble_eq_true rfl)⟩ dX10_colour_46 ?_
        refine J_iconst O (v := 3) (pc := 49) (by decide) dX10_colour_49 ?_
        refine J_iload_n O (i := 1) (k0 := 1) (pc := 50) 2 rfl rfl dX10_colour_50 ?_
        refine J_imul O (pc := 51) dX10_colour_51 ?_
        refine J_iadd O (pc := 52) dX10_colour_52 ?_
        refine J_istore_n O (i := 3) (k0 := 3) (pc := 53) rfl [(3, .int (z46 + (3 * a1))), (2, .int z10), (0, .ref m), (1, .int a1)] (by decide) rfl dX10_colour_53 ?_
        refine J_aload_n O (i := 0) (k0 := 0) (pc := 54) 2 rfl rfl dX10_colour_54 ?_
        refine J_get O (pc := 55) in_X10_colour_X10 0 rfl rfl 2 (by decide) mb_X10_colour_4 rfl dX10_colour_55 ?_
        refine J_iload_n O (i := 3) (k0 := 3) (pc := 58) 0 rfl rfl dX10_colour_58 ?_
        obtain ⟨h59, hf⟩ := jt_g hf
        refine J_iald O (pc := 59) 2 1 rfl rfl h59 dX10_colour_59 ?_
        refine J_bipush O (v := 16) (pc := 60) (by decide) dX10_colour_60 ?_
        refine J_ishl O (pc := 62) dX10_colour_62 ?_
        refine J_aload_n O (i := 0) (k0 := 0) (pc := 63) 2 rfl rfl dX10_colour_63 ?_
        refine J_get O (pc := 64) in_X10_colour_X10 0 rfl rfl 2 (by decide) mb_X10_colour_4 rfl dX10_colour_64 ?_
        refine J_iload_n O (i := 3) (k0 := 3) (pc := 67) 0 rfl rfl dX10_colour_67 ?_
        refine J_iconst O (v := 1) (pc := 68) (by decide) dX10_colour_68 ?_
        refine J_iadd O (pc := 69) dX10_colour_69 ?_
        obtain ⟨h70, hf⟩ := jt_g hf
        refine J_iald O (pc := 70) 2 1 rfl rfl h70 dX10_colour_70 ?_
        refine J_bipush O (v := 8) (pc := 71) (by decide) dX10_colour_71 ?_
        refine J_ishl O (pc := 73) dX10_colour_73 ?_
        refine J_ior O (pc := 74) dX10_colour_74 ?_
        refine J_aload_n O (i := 0) (k0 := 0) (pc := 75) 2 rfl rfl dX10_colour_75 ?_
        refine J_get O (pc := 76) in_X10_colour_X10 0 rfl rfl 2 (by decide) mb_X10_colour_4 rfl dX10_colour_76 ?_
        refine J_iload_n O (i := 3) (k0 := 3) (pc := 79) 0 rfl rfl dX10_colour_79 ?_
        refine J_iconst O (v := 2) (pc := 80) (by decide) dX10_colour_80 ?_
        refine J_iadd O (pc := 81) dX10_colour_81 ?_
        obtain ⟨h82, hf⟩ := jt_g hf
        refine J_iald O (pc := 82) 2 1 rfl rfl h82 dX10_colour_82 ?_
        refine J_ior O (pc := 83) dX10_colour_83 ?_
        have e9 := Option.some.inj hf
        subst e9
        exact J_iret O (pc := 84) rfl dX10_colour_84
      · have hf := jt_f c37 hf
        refine J_bipush O (v := (-2)) (pc := 41) (by decide) dX10_colour_41 ?_
        have e9 := Option.some.inj hf
        subst e9
        exact J_iret O (pc := 43) rfl dX10_colour_43
  · have hf := jt_f c1 hf
    refine J_iconst O (v := (-1)) (pc := 4) (by decide) dX10_colour_4 ?_
    have e9 := Option.some.inj hf
    subst e9
    exact J_iret O (pc := 5) rfl dX10_colour_5
