/-! the law's loop and its start -/
section LP
variable {X : JC} {l : Launch} {D : va_G} {cB cI cJ : ClassId} {b LL ii c9 s9 fu : Nat} {xs : Nat → Int32} {x t tb o ob h d db hk hs hu hn hg j jp m mt md mk ms mu mn mm mo mw : Nat}
theorem lp_next {Q : State → Prop} (O : Jo X (l, D, cB, cI, cJ) code 4 RL lw_tbl room_1 ret) (B : Lo X b LL xs) (K : LK X Q cB cI cJ b x t tb o ob h d db hk hs hu hn hg j jp m mt md mk ms mu mn mm mo mw 18 (ii + 6) c9 s9) : LK X Q cB cI cJ b x t tb o ob h d db hk hs hu hn hg j jp m mt md mk ms mu mn mm mo mw 894 ii c9 s9 := by
  intro x_p t_l t_f o_l o_f h_c h_e d_l d_f h_k h_s h_u h_n h_g j_c j_a j_p m_tl m_dl m_c m_e m_ol m_fa m_f m_p m_is m_t m_d m_k m_s m_u m_n m_m m_o m_w rT rO rH rP
  refine J_iinc O (i := 3) (n := 6) (pc := 894) (v := nI (ii + 6)) 0 rfl [(3, .int (nI (ii + 6))), (2, .ref m), (1, .ref x), (0, .ref b)] (by decide) (show nI ii + Int32.ofInt 6 = nI (ii + 6) from nI_add ii 6) rfl dL_law_894 ?_
  refine J_goto O (tgt := 18) (pc := 897) dL_law_897 (by decide) ?_
  exact K _ _ _ _ _ _ _ _ _ _ _ _ _ _ _ _ _ _ _ _ _ _ _ _ _ _ _ _ _ _ _ _ _ _ _ rT rO rH rP
theorem lp_head (O : Jo X (l, D, cB, cI, cJ) code 4 RL lw_tbl room_1 ret) (B : Lo X b LL xs) (hL : LL ≤ 3072) (hi4 : ii ≤ 4000) (hc9 : c9 ≤ 600000) (hs9 : s9 ≤ 7302250) (K : ii + 6 ≤ LL → LK X (LQ X) cB cI cJ b x t tb o ob h d db hk hs hu hn hg j jp m mt md mk ms mu mn mm mo mw 27 ii c9 s9) : LK X (LQ X) cB cI cJ b x t tb o ob h d db hk hs hu hn hg j jp m mt md mk ms mu mn mm mo mw 18 ii c9 s9 := by
  intro x_p t_l t_f o_l o_f h_c h_e d_l d_f h_k h_s h_u h_n h_g j_c j_a j_p m_tl m_dl m_c m_e m_ol m_fa m_f m_p m_is m_t m_d m_k m_s m_u m_n m_m m_o m_w rT rO rH rP
  refine J_iload_n O (i := 3) (k0 := 3) (pc := 18) 0 rfl rfl dL_law_18 ?_
  refine J_aload_n O (i := 0) (k0 := 0) (pc := 19) 3 rfl rfl dL_law_19 ?_
  refine J_slen O B (pc := 20) dL_law_20 ?_
  refine J_bipush O (v := 6) (pc := 21) (by decide) dL_law_21 ?_
  refine J_isub O (pc := 23) dL_law_23 ?_
  refine J_icmp_gt O (tgt := 900) (pc := 24) dL_law_24 (by decide) (fun c24 => ?_) (fun c24 => ?_)
  · refine J_iconst O (v := 1) (pc := 900) (by decide) dL_law_900 ?_
    exact J_lend O B (pc := 901) hc9 hs9 dL_law_901
  · refine K ?_ _ _ _ _ _ _ _ _ _ _ _ _ _ _ _ _ _ _ _ _ _ _ _ _ _ _ _ _ _ _ _ _ _ _ _ rT rO rH rP
    have h9 : ¬ (nI LL - nI 6 < nI ii) := c24
    by_cases q9 : LL < ii + 6
    · exact absurd ((sub_lt_iff (by omega) (by omega) (by omega)).mpr q9) h9
    · omega
theorem lp_case (O : Jo X (l, D, cB, cI, cJ) code 4 RL lw_tbl room_1 ret) (B : Lo X b LL xs) (hfu : 20000 ≤ fu) (hi6 : ii + 6 ≤ LL) (hL : LL ≤ 3072) (hc9 : c9 + 66 ≤ 600000) (hs9 : s9 + 198 ≤ 7302250) (K : LK X (LQ X) cB cI cJ b x t tb o ob h d db hk hs hu hn hg j jp m mt md mk ms mu mn mm mo mw 894 ii (c9 + 66) (s9 + 198)) : LK X (LQ X) cB cI cJ b x t tb o ob h d db hk hs hu hn hg j jp m mt md mk ms mu mn mm mo mw 27 ii c9 s9 := by
  intro x_p t_l t_f o_l o_f h_c h_e d_l d_f h_k h_s h_u h_n h_g j_c j_a j_p m_tl m_dl m_c m_e m_ol m_fa m_f m_p m_is m_t m_d m_k m_s m_u m_n m_m m_o m_w rT rO rH rP
  refine J_aload_n O (i := 0) (k0 := 0) (pc := 27) 3 rfl rfl dL_law_27 ?_
  refine J_iload_n O (i := 3) (k0 := 3) (pc := 28) 0 rfl rfl dL_law_28 ?_
  refine J_sld O B (pc := 29) (ix_t ii rfl (by omega) (by omega)) dL_law_29 ?_
  refine J_bipush O (v := 31) (pc := 30) (by decide) dL_law_30 ?_
  refine J_iand O (pc := 32) dL_law_32 ?_
  obtain ⟨k, hk, ek⟩ := pk_andE (xs (nI ii).toNatClampNeg) (m := 31) 5 (by decide)
  rw [ek]
  rcases (show k = 0 ∨ k = 1 ∨ k = 2 ∨ k = 3 ∨ k = 4 ∨ k = 5 ∨ k = 6 ∨ k = 7 ∨ k = 8 ∨ k = 9 ∨ k = 10 ∨ k = 11 ∨ k = 12 ∨ k = 13 ∨ k = 14 ∨ k = 15 ∨ k = 16 ∨ k = 17 ∨ k = 18 ∨ k = 19 ∨ k = 20 ∨ k = 21 ∨ k = 22 ∨ 23 ≤ k by omega) with rfl | rfl | rfl | rfl | rfl | rfl | rfl | rfl | rfl | rfl | rfl | rfl | rfl | rfl | rfl | rfl | rfl | rfl | rfl | rfl | rfl | rfl | rfl | hk2
  · exact J_tabK O (pc := 33) (off := 107) (tgt := 140) (nI 0) rfl (by decide) (by decide) (by decide) dL_law_33 (by decide) (op_feed O B hfu hi6 hL hc9 hs9 K x_p t_l t_f o_l o_f h_c h_e d_l d_f h_k h_s h_u h_n h_g j_c j_a j_p m_tl m_dl m_c m_e m_ol m_fa m_f m_p m_is m_t m_d m_k m_s m_u m_n m_m m_o m_w rT rO rH rP)
  · exact J_tabK O (pc := 33) (off := 170) (tgt := 203) (nI 1) rfl (by decide) (by decide) (by decide) dL_law_33 (by decide) (op_cut O B hfu hi6 hL hc9 hs9 K x_p t_l t_f o_l o_f h_c h_e d_l d_f h_k h_s h_u h_n h_g j_c j_a j_p m_tl m_dl m_c m_e m_ol m_fa m_f m_p m_is m_t m_d m_k m_s m_u m_n m_m m_o m_w rT rO rH rP)
  · exact J_tabK O (pc := 33) (off := 193) (tgt := 226) (nI 2) rfl (by decide) (by decide) (by decide) dL_law_33 (by decide) (op_read O B hfu hi6 hL hc9 hs9 K x_p t_l t_f o_l o_f h_c h_e d_l d_f h_k h_s h_u h_n h_g j_c j_a j_p m_tl m_dl m_c m_e m_ol m_fa m_f m_p m_is m_t m_d m_k m_s m_u m_n m_m m_o m_w rT rO rH rP)
  · exact J_tabK O (pc := 33) (off := 206) (tgt := 239) (nI 3) rfl (by decide) (by decide) (by decide) dL_law_33 (by decide) (op_place O B hfu hi6 hL hc9 hs9 K x_p t_l t_f o_l o_f h_c h_e d_l d_f h_k h_s h_u h_n h_g j_c j_a j_p m_tl m_dl m_c m_e m_ol m_fa m_f m_p m_is m_t m_d m_k m_s m_u m_n m_m m_o m_w rT rO rH rP)
  · exact J_tabK O (pc := 33) (off := 219) (tgt := 252) (nI 4) rfl (by decide) (by decide) (by decide) dL_law_33 (by decide) (op_told O B hfu hi6 hL hc9 hs9 K x_p t_l t_f o_l o_f h_c h_e d_l d_f h_k h_s h_u h_n h_g j_c j_a j_p m_tl m_dl m_c m_e m_ol m_fa m_f m_p m_is m_t m_d m_k m_s m_u m_n m_m m_o m_w rT rO rH rP)
  · exact J_tabK O (pc := 33) (off := 242) (tgt := 275) (nI 5) rfl (by decide) (by decide) (by decide) dL_law_33 (by decide) (op_chunk O B hfu hi6 hL hc9 hs9 K x_p t_l t_f o_l o_f h_c h_e d_l d_f h_k h_s h_u h_n h_g j_c j_a j_p m_tl m_dl m_c m_e m_ol m_fa m_f m_p m_is m_t m_d m_k m_s m_u m_n m_m m_o m_w rT rO rH rP)
  · exact J_tabK O (pc := 33) (off := 275) (tgt := 308) (nI 6) rfl (by decide) (by decide) (by decide) dL_law_33 (by decide) (op_octet O B hfu hi6 hL hc9 hs9 K x_p t_l t_f o_l o_f h_c h_e d_l d_f h_k h_s h_u h_n h_g j_c j_a j_p m_tl m_dl m_c m_e m_ol m_fa m_f m_p m_is m_t m_d m_k m_s m_u m_n m_m m_o m_w rT rO rH rP)
  · exact J_tabK O (pc := 33) (off := 308) (tgt := 341) (nI 7) rfl (by decide) (by decide) (by decide) dL_law_33 (by decide) (op_entry O B hfu hi6 hL hc9 hs9 K x_p t_l t_f o_l o_f h_c h_e d_l d_f h_k h_s h_u h_n h_g j_c j_a j_p m_tl m_dl m_c m_e m_ol m_fa m_f m_p m_is m_t m_d m_k m_s m_u m_n m_m m_o m_w rT rO rH rP)
  · exact J_tabK O (pc := 33) (off := 342) (tgt := 375) (nI 8) rfl (by decide) (by decide) (by decide) dL_law_33 (by decide) (op_find O B hfu hi6 hL hc9 hs9 K x_p t_l t_f o_l o_f h_c h_e d_l d_f h_k h_s h_u h_n h_g j_c j_a j_p m_tl m_dl m_c m_e m_ol m_fa m_f m_p m_is m_t m_d m_k m_s m_u m_n m_m m_o m_w rT rO rH rP)
  · exact J_tabK O (pc := 33) (off := 405) (tgt := 438) (nI 9) rfl (by decide) (by decide) (by decide) dL_law_33 (by decide) (op_size O B hfu hi6 hL hc9 hs9 K x_p t_l t_f o_l o_f h_c h_e d_l d_f h_k h_s h_u h_n h_g j_c j_a j_p m_tl m_dl m_c m_e m_ol m_fa m_f m_p m_is m_t m_d m_k m_s m_u m_n m_m m_o m_w rT rO rH rP)
  · exact J_tabK O (pc := 33) (off := 439) (tgt := 472) (nI 10) rfl (by decide) (by decide) (by decide) dL_law_33 (by decide) (op_sound O B hfu hi6 hL hc9 hs9 K x_p t_l t_f o_l o_f h_c h_e d_l d_f h_k h_s h_u h_n h_g j_c j_a j_p m_tl m_dl m_c m_e m_ol m_fa m_f m_p m_is m_t m_d m_k m_s m_u m_n m_m m_o m_w rT rO rH rP)
  · exact J_tabK O (pc := 33) (off := 473) (tgt := 506) (nI 11) rfl (by decide) (by decide) (by decide) dL_law_33 (by decide) (op_front O B hfu hi6 hL hc9 hs9 K x_p t_l t_f o_l o_f h_c h_e d_l d_f h_k h_s h_u h_n h_g j_c j_a j_p m_tl m_dl m_c m_e m_ol m_fa m_f m_p m_is m_t m_d m_k m_s m_u m_n m_m m_o m_w rT rO rH rP)
  · exact J_tabK O (pc := 33) (off := 487) (tgt := 520) (nI 12) rfl (by decide) (by decide) (by decide) dL_law_33 (by decide) (op_release O B hfu hi6 hL hc9 hs9 K x_p t_l t_f o_l o_f h_c h_e d_l d_f h_k h_s h_u h_n h_g j_c j_a j_p m_tl m_dl m_c m_e m_ol m_fa m_f m_p m_is m_t m_d m_k m_s m_u m_n m_m m_o m_w rT rO rH rP)
  · exact J_tabK O (pc := 33) (off := 500) (tgt := 533) (nI 13) rfl (by decide) (by decide) (by decide) dL_law_33 (by decide) (op_colour O B hfu hi6 hL hc9 hs9 K x_p t_l t_f o_l o_f h_c h_e d_l d_f h_k h_s h_u h_n h_g j_c j_a j_p m_tl m_dl m_c m_e m_ol m_fa m_f m_p m_is m_t m_d m_k m_s m_u m_n m_m m_o m_w rT rO rH rP)
  · exact J_tabK O (pc := 33) (off := 523) (tgt := 556) (nI 14) rfl (by decide) (by decide) (by decide) dL_law_33 (by decide) (op_scaled O B hfu hi6 hL hc9 hs9 K x_p t_l t_f o_l o_f h_c h_e d_l d_f h_k h_s h_u h_n h_g j_c j_a j_p m_tl m_dl m_c m_e m_ol m_fa m_f m_p m_is m_t m_d m_k m_s m_u m_n m_m m_o m_w rT rO rH rP)
  · exact J_tabK O (pc := 33) (off := 607) (tgt := 640) (nI 15) rfl (by decide) (by decide) (by decide) dL_law_33 (by decide) (op_add O B hfu hi6 hL hc9 hs9 K x_p t_l t_f o_l o_f h_c h_e d_l d_f h_k h_s h_u h_n h_g j_c j_a j_p m_tl m_dl m_c m_e m_ol m_fa m_f m_p m_is m_t m_d m_k m_s m_u m_n m_m m_o m_w rT rO rH rP)
  · exact J_tabK O (pc := 33) (off := 630) (tgt := 663) (nI 16) rfl (by decide) (by decide) (by decide) dL_law_33 (by decide) (op_mean O B hfu hi6 hL hc9 hs9 K x_p t_l t_f o_l o_f h_c h_e d_l d_f h_k h_s h_u h_n h_g j_c j_a j_p m_tl m_dl m_c m_e m_ol m_fa m_f m_p m_is m_t m_d m_k m_s m_u m_n m_m m_o m_w rT rO rH rP)
  · exact J_tabK O (pc := 33) (off := 703) (tgt := 736) (nI 17) rfl (by decide) (by decide) (by decide) dL_law_33 (by decide) (op_change O B hfu hi6 hL hc9 hs9 K x_p t_l t_f o_l o_f h_c h_e d_l d_f h_k h_s h_u h_n h_g j_c j_a j_p m_tl m_dl m_c m_e m_ol m_fa m_f m_p m_is m_t m_d m_k m_s m_u m_n m_m m_o m_w rT rO rH rP)
  · exact J_tabK O (pc := 33) (off := 726) (tgt := 759) (nI 18) rfl (by decide) (by decide) (by decide) dL_law_33 (by decide) (op_drop O B hfu hi6 hL hc9 hs9 K x_p t_l t_f o_l o_f h_c h_e d_l d_f h_k h_s h_u h_n h_g j_c j_a j_p m_tl m_dl m_c m_e m_ol m_fa m_f m_p m_is m_t m_d m_k m_s m_u m_n m_m m_o m_w rT rO rH rP)
  · exact J_tabK O (pc := 33) (off := 789) (tgt := 822) (nI 19) rfl (by decide) (by decide) (by decide) dL_law_33 (by decide) (op_remove O B hfu hi6 hL hc9 hs9 K x_p t_l t_f o_l o_f h_c h_e d_l d_f h_k h_s h_u h_n h_g j_c j_a j_p m_tl m_dl m_c m_e m_ol m_fa m_f m_p m_is m_t m_d m_k m_s m_u m_n m_m m_o m_w rT rO rH rP)
  · exact J_tabK O (pc := 33) (off := 812) (tgt := 845) (nI 20) rfl (by decide) (by decide) (by decide) dL_law_33 (by decide) (op_write O B hfu hi6 hL hc9 hs9 K x_p t_l t_f o_l o_f h_c h_e d_l d_f h_k h_s h_u h_n h_g j_c j_a j_p m_tl m_dl m_c m_e m_ol m_fa m_f m_p m_is m_t m_d m_k m_s m_u m_n m_m m_o m_w rT rO rH rP)
  · exact J_tabK O (pc := 33) (off := 825) (tgt := 858) (nI 21) rfl (by decide) (by decide) (by decide) dL_law_33 (by decide) (op_out O B hfu hi6 hL hc9 hs9 K x_p t_l t_f o_l o_f h_c h_e d_l d_f h_k h_s h_u h_n h_g j_c j_a j_p m_tl m_dl m_c m_e m_ol m_fa m_f m_p m_is m_t m_d m_k m_s m_u m_n m_m m_o m_w rT rO rH rP)
  · exact J_tabK O (pc := 33) (off := 848) (tgt := 881) (nI 22) rfl (by decide) (by decide) (by decide) dL_law_33 (by decide) (op_back O B hfu hi6 hL hc9 hs9 K x_p t_l t_f o_l o_f h_c h_e d_l d_f h_k h_s h_u h_n h_g j_c j_a j_p m_tl m_dl m_c m_e m_ol m_fa m_f m_p m_is m_t m_d m_k m_s m_u m_n m_m m_o m_w rT rO rH rP)
  · refine J_tableOut O (pc := 33) (tgt := 894) dL_law_33 (Or.inr ?_) (by decide) ?_
    · rw [nI_toInt (by omega)]
      omega
    · exact J_widen (c9 + 66) (s9 + 198) (by omega) (by omega) (K _ _ _ _ _ _ _ _ _ _ _ _ _ _ _ _ _ _ _ _ _ _ _ _ _ _ _ _ _ _ _ _ _ _ _ rT rO rH rP)
theorem lp_loop (O : Jo X (l, D, cB, cI, cJ) code 4 RL lw_tbl room_1 ret) (B : Lo X b LL xs) (hfu : 20000 ≤ fu) (hL : LL ≤ 3072) : ∀ (n ii c9 s9 : Nat), LL < ii + 6 * n + 6 → ii ≤ 4000 → c9 + 66 * n ≤ 600000 → s9 + 198 * n ≤ 7302250 → LK X (LQ X) cB cI cJ b x t tb o ob h d db hk hs hu hn hg j jp m mt md mk ms mu mn mm mo mw 18 ii c9 s9 := by
  intro n
  induction n with
  | zero =>
    intro ii c9 s9 h1 h2 h3 h4
    exact lp_head O B hL h2 (by omega) (by omega) (fun h5 => absurd h5 (by omega))
  | succ n ih =>
    intro ii c9 s9 h1 h2 h3 h4
    exact lp_head O B hL h2 (by omega) (by omega) (fun h5 => lp_case O B hfu h5 hL (by omega) (by omega) (lp_next O B (ih (ii + 6) (c9 + 66) (s9 + 198) (by omega) (by omega) (by omega) (by omega))))
end LP
