theorem mb_X10_scaled_0 : Cond.constantLong RX10 150 (-1) ∈ wsX10_scaled := by decide +kernel
theorem mb_X10_scaled_1 : Cond.constantLong RX10 205 65535 ∈ wsX10_scaled := by decide +kernel
theorem mb_X10_scaled_2 : Cond.constant RX10 48 1349084020 ∈ wsX10_scaled := by decide +kernel
theorem in_X10_scaled_X10 : ∀ w ∈ u_ws RX10 TX10 18, w ∈ wsX10_scaled := fun _ h => List.mem_cons_of_mem _ (List.mem_append_right _ h)
theorem mb_X10_scaled_4 : Cond.fieldLink RX10 29 (TX10 9).1 (TX10 9).2.1 (TX10 9).2.2.1 ∈ wsX10_scaled := by decide +kernel
theorem mb_X10_scaled_5 : Cond.constantLong RX10 164 (-2) ∈ wsX10_scaled := by decide +kernel
theorem hdV_X10_ratiosOf : yX10_ratiosOf.cls = RX10 ∧ yX10_ratiosOf.cls ≠ "java/lang/invoke/MethodHandle" ∧ yX10_ratiosOf.cls ≠ "java/lang/invoke/VarHandle" ∧ (parseMethodDescriptor yX10_ratiosOf.desc).map (fun d => d.parameters.length) = some 1 := by decide +kernel
theorem mb_X10_scaled_6 : Cond.constant RX10 204 1382380399 ∈ wsX10_scaled := by decide +kernel
theorem mb_X10_scaled_7 : Cond.fieldLink RX10 13 (TX10 2).1 (TX10 2).2.1 (TX10 2).2.2.1 ∈ wsX10_scaled := by decide +kernel
abbrev rmX10_scaled : Room := { frames := 3, cells := 0, slots := 0, locals := 74 }
set_option maxHeartbeats 4000000 in
set_option maxRecDepth 100000 in
theorem wk_X10_scaled_499 {X : JC} {l : Launch} {D : va_G} {cB cI cJ : ClassId} (O : Jo X (l, D, cB, cI, cJ) cX10_scaled 35 RX10 wsX10_scaled rmX10_scaled (some .long)) (m mt md mk ms mu mn mm mo mw : Nat) (m_tl : Int32) (m_dl : Int32) (m_c : Int32) (m_e : Int32) (m_ol : Int32) (m_fa : Int32) (m_f : Int32) (m_p : Int32) (m_is : Int32) (m_t : Nat → Int32) (m_d : Nat → Int32) (m_k : Nat → Int32) (m_s : Nat → Int32) (m_u : Nat → Int32) (m_n : Nat → Int64) (m_m : Nat → Int32) (m_o : Nat → Int32) (m_w : Nat → Int32) (a1 : Int64) (a3 : Int32) (a4 : Int32) (a5 : Int32) (fu : Nat) {z : Int64} (v7 : Int64) (v9 : Int64) (v26 : Int64) (v28 : Int64) (v31 : Int64) (v33 : Int64) (hf : p_X10_scaled_499 fu m_c m_e m_d m_k m_s m_u m_n m_m a1 a3 a4 a5 v7 v9 v26 v28 v31 v33 = some z) : J X 35 (JQl X [(m, .inr (6, [.ref mt, .int m_tl, .ref md, .int m_dl, .ref mk, .ref ms, .int m_c, .ref mu, .ref mn, .ref mm, .int m_e, .ref mo, .int m_ol, .int m_fa, .int m_f, .ref mw, .int m_p, .int m_is])), (mt, .inl (cI, 6000, .inl m_t)), (md, .inl (cI, 12000, .inl m_d)), (mk, .inl (cI, 61, .inl m_k)), (ms, .inl (cI, 61, .inl m_s)), (mu, .inl (cI, 41, .inl m_u)), (mn, .inl (cJ, 41, .inr (.inl m_n))), (mm, .inl (cI, 41, .inl m_m)), (mo, .inl (cI, 14000, .inl m_o)), (mw, .inl (cI, 61, .inl m_w))] z 0 0) [(m, .inr (6, [.ref mt, .int m_tl, .ref md, .int m_dl, .ref mk, .ref ms, .int m_c, .ref mu, .ref mn, .ref mm, .int m_e, .ref mo, .int m_ol, .int m_fa, .int m_f, .ref mw, .int m_p, .int m_is])), (mt, .inl (cI, 6000, .inl m_t)), (md, .inl (cI, 12000, .inl m_d)), (mk, .inl (cI, 61, .inl m_k)), (ms, .inl (cI, 61, .inl m_s)), (mu, .inl (cI, 41, .inl m_u)), (mn, .inl (cJ, 41, .inr (.inl m_n))), (mm, .inl (cI, 41, .inl m_m)), (mo, .inl (cI, 14000, .inl m_o)), (mw, .inl (cI, 61, .inl m_w))] 0 0 499 [(5, .int a5), (7, .long v7), (9, .long v9), (26, .long v26), (28, .long v28), (31, .long v31), (33, .long v33)] [] := by
  rw [p_X10_scaled_499] at hf
  refine J_lload O (i := 28) (pc := 499) 4 rfl dX10_scaled_499 ?_
  refine J_lconst O (v := 0) (pc := 501) (by decide) dX10_scaled_501 ?_
  refine J_lif_le O (tgt := 528) (pc := 502) dX10_scaled_502 dX10_scaled_503 (by decide) (fun c502 => ?_) (fun c502 => ?_)
  · have hf := jt_t c502 hf
    refine J_iload O (i := 5) (pc := 528) 0 rfl dX10_scaled_528 ?_
    refine J_if_ne O (tgt := 538) (pc := 530) dX10_scaled_530 (by decide) (fun c530 => ?_) (fun c530 => ?_)
    · have hf := jt_f c530 hf
      refine J_lload O (i := 9) (pc := 538) 2 rfl dX10_scaled_538 ?_
      refine J_lload O (i := 31) (pc := 540) 5 rfl dX10_scaled_540 ?_
      refine J_lmul O (pc := 542) dX10_scaled_542 ?_
      refine J_lload O (i := 33) (pc := 543) 6 rfl dX10_scaled_543 ?_
      obtain ⟨h545, hf⟩ := jt_g hf
      refine J_ldiv O (pc := 545) h545 dX10_scaled_545 ?_
      have e9 := Option.some.inj hf
      subst e9
      exact J_lret O (pc := 546) rfl dX10_scaled_546
    · have hf := jt_t c530 hf
      refine J_lload O (i := 7) (pc := 533) 1 rfl dX10_scaled_533 ?_
      refine J_goto O (tgt := 540) (pc := 535) dX10_scaled_535 (by decide) ?_
      refine J_lload O (i := 31) (pc := 540) 5 rfl dX10_scaled_540 ?_
      refine J_lmul O (pc := 542) dX10_scaled_542 ?_
      refine J_lload O (i := 33) (pc := 543) 6 rfl dX10_scaled_543 ?_
      obtain ⟨h545, hf⟩ := jt_g hf
      refine J_ldiv O (pc := 545) h545 dX10_scaled_545 ?_
      have e9 := Option.some.inj hf
      subst e9
      exact J_lret O (pc := 546) rfl dX10_scaled_546
  · have hf := jt_f c502 hf
    refine J_lload O (i := 31) (pc := 506) 5 rfl dX10_scaled_506 ?_
    refine J_lload O (i := 28) (pc := 508) 4 rfl dX10_scaled_508 ?_
    refine J_lmul O (pc := 510) dX10_scaled_510 ?_
    refine J_lload O (i := 26) (pc := 511) 3 rfl dX10_scaled_511 ?_
    refine J_lload O (i := 33) (pc := 513) 6 rfl dX10_scaled_513 ?_
    refine J_lmul O (pc := 515) dX10_scaled_515 ?_
    refine J_lif_le O (tgt := 528) (pc := 516) dX10_scaled_516 dX10_scaled_517 (by decide) (fun c516 => ?_) (fun c516 => ?_)
    · have hf := jt_t c516 hf
      refine J_iload O (i := 5) (pc := 528) 0 rfl dX10_scaled_528 ?_
      refine J_if_ne O (tgt := 538) (pc := 530) dX10_scaled_530 (by decide) (fun c530 => ?_) (fun c530 => ?_)
      · have hf := jt_f c530 hf
        refine J_lload O (i := 9) (pc := 538) 2 rfl dX10_scaled_538 ?_
        refine J_lload O (i := 31) (pc := 540) 5 rfl dX10_scaled_540 ?_
        refine J_lmul O (pc := 542) dX10_scaled_542 ?_
        refine J_lload O (i := 33) (pc := 543) 6 rfl dX10_scaled_543 ?_
        obtain ⟨h545, hf⟩ := jt_g hf
        refine J_ldiv O (pc := 545) h545 dX10_scaled_545 ?_
        have e9 := Option.some.inj hf
        subst e9
        exact J_lret O (pc := 546) rfl dX10_scaled_546
      · have hf := jt_t c530 hf
        refine J_lload O (i := 7) (pc := 533) 1 rfl dX10_scaled_533 ?_
        refine J_goto O (tgt := 540) (pc := 535) dX10_scaled_535 (by decide) ?_
        refine J_lload O (i := 31) (pc := 540) 5 rfl dX10_scaled_540 ?_
        refine J_lmul O (pc := 542) dX10_scaled_542 ?_
        refine J_lload O (i := 33) (pc := 543) 6 rfl dX10_scaled_543 ?_
        obtain ⟨h545, hf⟩ := jt_g hf
        refine J_ldiv O (pc := 545) h545 dX10_scaled_545 ?_
        have e9 := Option.some.inj hf
        subst e9
        exact J_lret O (pc := 546) rfl dX10_scaled_546
    · have hf := jt_f c516 hf
      refine J_lload O (i := 26) (pc := 520) 3 rfl dX10_scaled_520 ?_
      refine J_lstore O (i := 31) (pc := 522) [(31, .long v26), (5, .int a5), (7, .long v7), (9, .long v9), (26, .long v26), (28, .long v28), (33, .long v33)] (by decide) rfl dX10_scaled_522 ?_
      refine J_lload O (i := 28) (pc := 524) 5 rfl dX10_scaled_524 ?_
      refine J_lstore O (i := 33) (pc := 526) [(33, .long v28), (31, .long v26), (5, .int a5), (7, .long v7), (9, .long v9), (26, .long v26), (28, .long v28)] (by decide) rfl dX10_scaled_526 ?_
      refine J_iload O (i := 5) (pc := 528) 2 rfl dX10_scaled_528 ?_
      refine J_if_ne O (tgt := 538) (pc := 530) dX10_scaled_530 (by decide) (fun c530 => ?_) (fun c530 => ?_)
      · have hf := jt_f c530 hf
        refine J_lload O (i := 9) (pc := 538) 4 rfl dX10_scaled_538 ?_
        refine J_lload O (i := 31) (pc := 540) 1 rfl dX10_scaled_540 ?_
        refine J_lmul O (pc := 542) dX10_scaled_542 ?_
        refine J_lload O (i := 33) (pc := 543) 0 rfl dX10_scaled_543 ?_
        obtain ⟨h545, hf⟩ := jt_g hf
        refine J_ldiv O (pc := 545) h545 dX10_scaled_545 ?_
        have e9 := Option.some.inj hf
        subst e9
        exact J_lret O (pc := 546) rfl dX10_scaled_546
      · have hf := jt_t c530 hf
        refine J_lload O (i := 7) (pc := 533) 3 rfl dX10_scaled_533 ?_
        refine J_goto O (tgt := 540) (pc := 535) dX10_scaled_535 (by decide) ?_
        refine J_lload O (i := 31) (pc := 540) 1 rfl dX10_scaled_540 ?_
        refine J_lmul O (pc := 542) dX10_scaled_542 ?_
        refine J_lload O (i := 33) (pc := 543) 0 rfl dX10_scaled_543 ?_
        obtain ⟨h545, hf⟩ := jt_g hf
        refine J_ldiv O (pc := 545) h545 dX10_scaled_545 ?_
        have e9 := Option.some.inj hf
        subst e9
        exact J_lret O (pc := 546) rfl dX10_scaled_546
set_option maxHeartbeats 4000000 in
set_option maxRecDepth 100000 in
theorem wk_X10_scaled_462 {X : JC} {l : Launch} {D : va_G} {cB cI cJ : ClassId} (O : Jo X (l, D, cB, cI, cJ) cX10_scaled 35 RX10 wsX10_scaled rmX10_scaled (some .long)) (m mt md mk ms mu mn mm mo mw : Nat) (m_tl : Int32) (m_dl : Int32) (m_c : Int32) (m_e : Int32) (m_ol : Int32) (m_fa : Int32) (m_f : Int32) (m_p : Int32) (m_is : Int32) (m_t : Nat → Int32) (m_d : Nat → Int32) (m_k : Nat → Int32) (m_s : Nat → Int32) (m_u : Nat → Int32) (m_n : Nat → Int64) (m_m : Nat → Int32) (m_o : Nat → Int32) (m_w : Nat → Int32) (a1 : Int64) (a3 : Int32) (a4 : Int32) (a5 : Int32) (fu : Nat) {z : Int64} (v7 : Int64) (v9 : Int64) (v20 : Int64) (v22 : Int64) (v24 : Int64) (v26 : Int64) (v28 : Int64) (v31 : Int64) (s0 : Int64) (hf : p_X10_scaled_462 fu m_c m_e m_d m_k m_s m_u m_n m_m a1 a3 a4 a5 v7 v9 v20 v22 v24 v26 v28 v31 s0 = some z) : J X 35 (JQl X [(m, .inr (6, [.ref mt, .int m_tl, .ref md, .int m_dl, .ref mk, .ref ms, .int m_c, .ref mu, .ref mn, .ref mm, .int m_e, .ref mo, .int m_ol, .int m_fa, .int m_f, .ref mw, .int m_p, .int m_is])), (mt, .inl (cI, 6000, .inl m_t)), (md, .inl (cI, 12000, .inl m_d)), (mk, .inl (cI, 61, .inl m_k)), (ms, .inl (cI, 61, .inl m_s)), (mu, .inl (cI, 41, .inl m_u)), (mn, .inl (cJ, 41, .inr (.inl m_n))), (mm, .inl (cI, 41, .inl m_m)), (mo, .inl (cI, 14000, .inl m_o)), (mw, .inl (cI, 61, .inl m_w))] z 0 0) [(m, .inr (6, [.ref mt, .int m_tl, .ref md, .int m_dl, .ref mk, .ref ms, .int m_c, .ref mu, .ref mn, .ref mm, .int m_e, .ref mo, .int m_ol, .int m_fa, .int m_f, .ref mw, .int m_p, .int m_is])), (mt, .inl (cI, 6000, .inl m_t)), (md, .inl (cI, 12000, .inl m_d)), (mk, .inl (cI, 61, .inl m_k)), (ms, .inl (cI, 61, .inl m_s)), (mu, .inl (cI, 41, .inl m_u)), (mn, .inl (cJ, 41, .inr (.inl m_n))), (mm, .inl (cI, 41, .inl m_m)), (mo, .inl (cI, 14000, .inl m_o)), (mw, .inl (cI, 61, .inl m_w))] 0 0 462 [(5, .int a5), (7, .long v7), (9, .long v9), (20, .long v20), (22, .long v22), (24, .long v24), (26, .long v26), (28, .long v28), (31, .long v31)] [.long s0] := by
  rw [p_X10_scaled_462] at hf
  refine J_lload O (i := 20) (pc := 462) 3 rfl dX10_scaled_462 ?_
  refine J_lmul O (pc := 464) dX10_scaled_464 ?_
  refine J_lstore O (i := 33) (pc := 465) [(33, .long (s0 * v20)), (5, .int a5), (7, .long v7), (9, .long v9), (20, .long v20), (22, .long v22), (24, .long v24), (26, .long v26), (28, .long v28), (31, .long v31)] (by decide) rfl dX10_scaled_465 ?_
  refine J_lload O (i := 24) (pc := 467) 6 rfl dX10_scaled_467 ?_
  refine J_lconst O (v := 0) (pc := 469) (by decide) dX10_scaled_469 ?_
  refine J_lif_le O (tgt := 499) (pc := 470) dX10_scaled_470 dX10_scaled_471 (by decide) (fun c470 => ?_) (fun c470 => ?_)
  · have hf := jt_t c470 hf
    refine J_sub [1, 2, 3, 7, 8, 9, 0] (lv' := [(5, .int a5), (7, .long v7), (9, .long v9), (26, .long v26), (28, .long v28), (31, .long v31), (33, .long (s0 * v20))]) rfl ?_
    exact wk_X10_scaled_499 O m mt md mk ms mu mn mm mo mw m_tl m_dl m_c m_e m_ol m_fa m_f m_p m_is m_t m_d m_k m_s m_u m_n m_m m_o m_w a1 a3 a4 a5 fu v7 v9 v26 v28 v31 (s0 * v20) hf
  · have hf := jt_f c470 hf
    refine J_lload O (i := 31) (pc := 474) 9 rfl dX10_scaled_474 ?_
    refine J_lload O (i := 24) (pc := 476) 6 rfl dX10_scaled_476 ?_
    refine J_lmul O (pc := 478) dX10_scaled_478 ?_
    refine J_lload O (i := 22) (pc := 479) 5 rfl dX10_scaled_479 ?_
    refine J_lload O (i := 33) (pc := 481) 0 rfl dX10_scaled_481 ?_
    refine J_lmul O (pc := 483) dX10_scaled_483 ?_
    refine J_lif_ge O (tgt := 499) (pc := 484) dX10_scaled_484 dX10_scaled_485 (by decide) (fun c484 => ?_) (fun c484 => ?_)
    · have hf := jt_t c484 hf
      refine J_sub [1, 2, 3, 7, 8, 9, 0] (lv' := [(5, .int a5), (7, .long v7), (9, .long v9), (26, .long v26), (28, .long v28), (31, .long v31), (33, .long (s0 * v20))]) rfl ?_
      exact wk_X10_scaled_499 O m mt md mk ms mu mn mm mo mw m_tl m_dl m_c m_e m_ol m_fa m_f m_p m_is m_t m_d m_k m_s m_u m_n m_m m_o m_w a1 a3 a4 a5 fu v7 v9 v26 v28 v31 (s0 * v20) hf
    · have hf := jt_f c484 hf
      refine J_lload O (i := 22) (pc := 488) 5 rfl dX10_scaled_488 ?_
      refine J_lstore O (i := 31) (pc := 490) [(31, .long v22), (33, .long (s0 * v20)), (5, .int a5), (7, .long v7), (9, .long v9), (20, .long v20), (22, .long v22), (24, .long v24), (26, .long v26), (28, .long v28)] (by decide) rfl dX10_scaled_490 ?_
      refine J_lload O (i := 24) (pc := 492) 7 rfl dX10_scaled_492 ?_
      refine J_lstore O (i := 33) (pc := 494) [(33, .long v24), (31, .long v22), (5, .int a5), (7, .long v7), (9, .long v9), (20, .long v20), (22, .long v22), (24, .long v24), (26, .long v26), (28, .long v28)] (by decide) rfl dX10_scaled_494 ?_
      refine J_goto O (tgt := 528) (pc := 496) dX10_scaled_496 (by decide) ?_
      refine J_iload O (i := 5) (pc := 528) 2 rfl dX10_scaled_528 ?_
      refine J_if_ne O (tgt := 538) (pc := 530) dX10_scaled_530 (by decide) (fun c530 => ?_) (fun c530 => ?_)
      · have hf := jt_f c530 hf
        refine J_lload O (i := 9) (pc := 538) 4 rfl dX10_scaled_538 ?_
        refine J_lload O (i := 31) (pc := 540) 1 rfl dX10_scaled_540 ?_
        refine J_lmul O (pc := 542) dX10_scaled_542 ?_
        refine J_lload O (i := 33) (pc := 543) 0 rfl dX10_scaled_543 ?_
        obtain ⟨h545, hf⟩ := jt_g hf
        refine J_ldiv O (pc := 545) h545 dX10_scaled_545 ?_
        have e9 := Option.some.inj hf
        subst e9
        exact J_lret O (pc := 546) rfl dX10_scaled_546
      · have hf := jt_t c530 hf
        refine J_lload O (i := 7) (pc := 533) 3 rfl dX10_scaled_533 ?_
        refine J_goto O (tgt := 540) (pc := 535) dX10_scaled_535 (by decide) ?_
        refine J_lload O (i := 31) (pc := 540) 1 rfl dX10_scaled_540 ?_
        refine J_lmul O (pc := 542) dX10_scaled_542 ?_
        refine J_lload O (i := 33) (pc := 543) 0 rfl dX10_scaled_543 ?_
        obtain ⟨h545, hf⟩ := jt_g hf
        refine J_ldiv O (pc := 545) h545 dX10_scaled_545 ?_
        have e9 := Option.some.inj hf
        subst e9
        exact J_lret O (pc := 546) rfl dX10_scaled_546
set_option maxHeartbeats 4000000 in
set_option maxRecDepth 100000 in
theorem wk_X10_scaled_431 {X : JC} {l : Launch} {D : va_G} {cB cI cJ : ClassId} (O : Jo X (l, D, cB, cI, cJ) cX10_scaled 35 RX10 wsX10_scaled rmX10_scaled (some .long)) (m mt md mk ms mu mn mm mo mw : Nat) (m_tl : Int32) (m_dl : Int32) (m_c : Int32) (m_e : Int32) (m_ol : Int32) (m_fa : Int32) (m_f : Int32) (m_p : Int32) (m_is : Int32) (m_t : Nat → Int32) (m_d : Nat → Int32) (m_k : Nat → Int32) (m_s : Nat → Int32) (m_u : Nat → Int32) (m_n : Nat → Int64) (m_m : Nat → Int32) (m_o : Nat → Int32) (m_w : Nat → Int32) (a1 : Int64) (a3 : Int32) (a4 : Int32) (a5 : Int32) (fu : Nat) {z : Int64} (v7 : Int64) (v9 : Int64) (v13 : Int64) (v15 : Int64) (v18 : Int64) (v20 : Int64) (v22 : Int64) (v24 : Int64) (v26 : Int64) (v28 : Int64) (s0 : Int32) (hf : p_X10_scaled_431 fu m_c m_e m_d m_k m_s m_u m_n m_m a1 a3 a4 a5 v7 v9 v13 v15 v18 v20 v22 v24 v26 v28 s0 = some z) : J X 35 (JQl X [(m, .inr (6, [.ref mt, .int m_tl, .ref md, .int m_dl, .ref mk, .ref ms, .int m_c, .ref mu, .ref mn, .ref mm, .int m_e, .ref mo, .int m_ol, .int m_fa, .int m_f, .ref mw, .int m_p, .int m_is])), (mt, .inl (cI, 6000, .inl m_t)), (md, .inl (cI, 12000, .inl m_d)), (mk, .inl (cI, 61, .inl m_k)), (ms, .inl (cI, 61, .inl m_s)), (mu, .inl (cI, 41, .inl m_u)), (mn, .inl (cJ, 41, .inr (.inl m_n))), (mm, .inl (cI, 41, .inl m_m)), (mo, .inl (cI, 14000, .inl m_o)), (mw, .inl (cI, 61, .inl m_w))] z 0 0) [(m, .inr (6, [.ref mt, .int m_tl, .ref md, .int m_dl, .ref mk, .ref ms, .int m_c, .ref mu, .ref mn, .ref mm, .int m_e, .ref mo, .int m_ol, .int m_fa, .int m_f, .ref mw, .int m_p, .int m_is])), (mt, .inl (cI, 6000, .inl m_t)), (md, .inl (cI, 12000, .inl m_d)), (mk, .inl (cI, 61, .inl m_k)), (ms, .inl (cI, 61, .inl m_s)), (mu, .inl (cI, 41, .inl m_u)), (mn, .inl (cJ, 41, .inr (.inl m_n))), (mm, .inl (cI, 41, .inl m_m)), (mo, .inl (cI, 14000, .inl m_o)), (mw, .inl (cI, 61, .inl m_w))] 0 0 431 [(3, .int a3), (4, .int a4), (5, .int a5), (7, .long v7), (9, .long v9), (13, .long v13), (15, .long v15), (18, .long v18), (20, .long v20), (22, .long v22), (24, .long v24), (26, .long v26), (28, .long v28)] [.int s0] := by
  rw [p_X10_scaled_431] at hf
  refine J_istore O (i := 30) (pc := 431) [(30, .int s0), (3, .int a3), (4, .int a4), (5, .int a5), (7, .long v7), (9, .long v9), (13, .long v13), (15, .long v15), (18, .long v18), (20, .long v20), (22, .long v22), (24, .long v24), (26, .long v26), (28, .long v28)] (by decide) rfl dX10_scaled_431 ?_
  refine J_iload O (i := 30) (pc := 433) 0 rfl dX10_scaled_433 ?_
  refine J_if_eq O (tgt := 442) (pc := 435) dX10_scaled_435 (by decide) (fun c435 => ?_) (fun c435 => ?_)
  · have hf := jt_t c435 hf
    refine J_iload O (i := 4) (pc := 442) 2 rfl dX10_scaled_442 ?_
    refine J_i2l O (pc := 444) dX10_scaled_444 ?_
    refine J_lload O (i := 18) (pc := 445) 8 rfl dX10_scaled_445 ?_
    refine J_lmul O (pc := 447) dX10_scaled_447 ?_
    refine J_lstore O (i := 31) (pc := 448) [(31, .long ((Int32.toInt64 a4) * v18)), (30, .int s0), (3, .int a3), (4, .int a4), (5, .int a5), (7, .long v7), (9, .long v9), (13, .long v13), (15, .long v15), (18, .long v18), (20, .long v20), (22, .long v22), (24, .long v24), (26, .long v26), (28, .long v28)] (by decide) rfl dX10_scaled_448 ?_
    refine J_iload O (i := 30) (pc := 450) 1 rfl dX10_scaled_450 ?_
    refine J_if_eq O (tgt := 460) (pc := 452) dX10_scaled_452 (by decide) (fun c452 => ?_) (fun c452 => ?_)
    · have hf := jt_t c452 hf
      refine J_lload O (i := 15) (pc := 460) 8 rfl dX10_scaled_460 ?_
      refine J_sub [4, 5, 6, 10, 11, 12, 13, 14, 0] (lv' := [(5, .int a5), (7, .long v7), (9, .long v9), (20, .long v20), (22, .long v22), (24, .long v24), (26, .long v26), (28, .long v28), (31, .long ((Int32.toInt64 a4) * v18))]) rfl ?_
      exact wk_X10_scaled_462 O m mt md mk ms mu mn mm mo mw m_tl m_dl m_c m_e m_ol m_fa m_f m_p m_is m_t m_d m_k m_s m_u m_n m_m m_o m_w a1 a3 a4 a5 fu v7 v9 v20 v22 v24 v26 v28 ((Int32.toInt64 a4) * v18) v15 hf
    · have hf := jt_f c452 hf
      refine J_lload O (i := 13) (pc := 455) 7 rfl dX10_scaled_455 ?_
      refine J_goto O (tgt := 462) (pc := 457) dX10_scaled_457 (by decide) ?_
      refine J_sub [4, 5, 6, 10, 11, 12, 13, 14, 0] (lv' := [(5, .int a5), (7, .long v7), (9, .long v9), (20, .long v20), (22, .long v22), (24, .long v24), (26, .long v26), (28, .long v28), (31, .long ((Int32.toInt64 a4) * v18))]) rfl ?_
      exact wk_X10_scaled_462 O m mt md mk ms mu mn mm mo mw m_tl m_dl m_c m_e m_ol m_fa m_f m_p m_is m_t m_d m_k m_s m_u m_n m_m m_o m_w a1 a3 a4 a5 fu v7 v9 v20 v22 v24 v26 v28 ((Int32.toInt64 a4) * v18) v13 hf
  · have hf := jt_f c435 hf
    refine J_iload_n O (i := 3) (k0 := 3) (pc := 438) 1 rfl rfl dX10_scaled_438 ?_
    refine J_goto O (tgt := 444) (pc := 439) dX10_scaled_439 (by decide) ?_
    refine J_i2l O (pc := 444) dX10_scaled_444 ?_
    refine J_lload O (i := 18) (pc := 445) 8 rfl dX10_scaled_445 ?_
    refine J_lmul O (pc := 447) dX10_scaled_447 ?_
    refine J_lstore O (i := 31) (pc := 448) [(31, .long ((Int32.toInt64 a3) * v18)), (30, .int s0), (3, .int a3), (4, .int a4), (5, .int a5), (7, .long v7), (9, .long v9), (13, .long v13), (15, .long v15), (18, .long v18), (20, .long v20), (22, .long v22), (24, .long v24), (26, .long v26), (28, .long v28)] (by decide) rfl dX10_scaled_448 ?_
    refine J_iload O (i := 30) (pc := 450) 1 rfl dX10_scaled_450 ?_
    refine J_if_eq O (tgt := 460) (pc := 452) dX10_scaled_452 (by decide) (fun c452 => ?_) (fun c452 => ?_)
    · have hf := jt_t c452 hf
      refine J_lload O (i := 15) (pc := 460) 8 rfl dX10_scaled_460 ?_
      refine J_sub [4, 5, 6, 10, 11, 12, 13, 14, 0] (lv' := [(5, .int a5), (7, .long v7), (9, .long v9), (20, .long v20), (22, .long v22), (24, .long v24), (26, .long v26), (28, .long v28), (31, .long ((Int32.toInt64 a3) * v18))]) rfl ?_
      exact wk_X10_scaled_462 O m mt md mk ms mu mn mm mo mw m_tl m_dl m_c m_e m_ol m_fa m_f m_p m_is m_t m_d m_k m_s m_u m_n m_m m_o m_w a1 a3 a4 a5 fu v7 v9 v20 v22 v24 v26 v28 ((Int32.toInt64 a3) * v18) v15 hf
    · have hf := jt_f c452 hf
      refine J_lload O (i := 13) (pc := 455) 7 rfl dX10_scaled_455 ?_
      refine J_goto O (tgt := 462) (pc := 457) dX10_scaled_457 (by decide) ?_
      refine J_sub [4, 5, 6, 10, 11, 12, 13, 14, 0] (lv' := [(5, .int a5), (7, .long v7), (9, .long v9), (20, .long v20), (22, .long v22), (24, .long v24), (26, .long v26), (28, .long v28), (31, .long ((Int32.toInt64 a3) * v18))]) rfl ?_
      exact wk_X10_scaled_462 O m mt md mk ms mu mn mm mo mw m_tl m_dl m_c m_e m_ol m_fa m_f m_p m_is m_t m_d m_k m_s m_u m_n m_m m_o m_w a1 a3 a4 a5 fu v7 v9 v20 v22 v24 v26 v28 ((Int32.toInt64 a3) * v18) v13 hf
set_option maxHeartbeats 4000000 in
set_option maxRecDepth 100000 in
theorem wk_X10_scaled_400 {X : JC} {l : Launch} {D : va_G} {cB cI cJ : ClassId} (O : Jo X (l, D, cB, cI, cJ) cX10_scaled 35 RX10 wsX10_scaled rmX10_scaled (some .long)) (m mt md mk ms mu mn mm mo mw : Nat) (m_tl : Int32) (m_dl : Int32) (m_c : Int32) (m_e : Int32) (m_ol : Int32) (m_fa : Int32) (m_f : Int32) (m_p : Int32) (m_is : Int32) (m_t : Nat → Int32) (m_d : Nat → Int32) (m_k : Nat → Int32) (m_s : Nat → Int32) (m_u : Nat → Int32) (m_n : Nat → Int64) (m_m : Nat → Int32) (m_o : Nat → Int32) (m_w : Nat → Int32) (a1 : Int64) (a3 : Int32) (a4 : Int32) (a5 : Int32) (fu : Nat) {z : Int64} (v7 : Int64) (v9 : Int64) (v13 : Int64) (v15 : Int64) (v18 : Int64) (v20 : Int64) (v22 : Int64) (v24 : Int64) (v26 : Int64) (v28 : Int64) (s0 : Int32) (hf : p_X10_scaled_400 fu m_c m_e m_d m_k m_s m_u m_n m_m a1 a3 a4 a5 v7 v9 v13 v15 v18 v20 v22 v24 v26 v28 s0 = some z) : J X 35 (JQl X [(m, .inr (6, [.ref mt, .int m_tl, .ref md, .int m_dl, .ref mk, .ref ms, .int m_c, .ref mu, .ref mn, .ref mm, .int m_e, .ref mo, .int m_ol, .int m_fa, .int m_f, .ref mw, .int m_p, .int m_is])), (mt, .inl (cI, 6000, .inl m_t)), (md, .inl (cI, 12000, .inl m_d)), (mk, .inl (cI, 61, .inl m_k)), (ms, .inl (cI, 61, .inl m_s)), (mu, .inl (cI, 41, .inl m_u)), (mn, .inl (cJ, 41, .inr (.inl m_n))), (mm, .inl (cI, 41, .inl m_m)), (mo, .inl (cI, 14000, .inl m_o)), (mw, .inl (cI, 61, .inl m_w))] z 0 0) [(m, .inr (6, [.ref mt, .int m_tl, .ref md, .int m_dl, .ref mk, .ref ms, .int m_c, .ref mu, .ref mn, .ref mm, .int m_e, .ref mo, .int m_ol, .int m_fa, .int m_f, .ref mw, .int m_p, .int m_is])), (mt, .inl (cI, 6000, .inl m_t)), (md, .inl (cI, 12000, .inl m_d)), (mk, .inl (cI, 61, .inl m_k)), (ms, .inl (cI, 61, .inl m_s)), (mu, .inl (cI, 41, .inl m_u)), (mn, .inl (cJ, 41, .inr (.inl m_n))), (mm, .inl (cI, 41, .inl m_m)), (mo, .inl (cI, 14000, .inl m_o)), (mw, .inl (cI, 61, .inl m_w))] 0 0 400 [(3, .int a3), (4, .int a4), (5, .int a5), (7, .long v7), (9, .long v9), (13, .long v13), (15, .long v15), (18, .long v18), (20, .long v20), (22, .long v22), (24, .long v24), (26, .long v26), (28, .long v28)] [.int s0] := by
  rw [p_X10_scaled_400] at hf
  refine J_istore O (i := 17) (pc := 400) [(17, .int s0), (3, .int a3), (4, .int a4), (5, .int a5), (7, .long v7), (9, .long v9), (13, .long v13), (15, .long v15), (18, .long v18), (20, .long v20), (22, .long v22), (24, .long v24), (26, .long v26), (28, .long v28)] (by decide) rfl dX10_scaled_400 ?_
  refine J_iload O (i := 17) (pc := 402) 0 rfl dX10_scaled_402 ?_
  refine J_if_ne O (tgt := 411) (pc := 404) dX10_scaled_404 (by decide) (fun c404 => ?_) (fun c404 => ?_)
  · have hf := jt_f c404 hf
    refine J_iload_n O (i := 3) (k0 := 3) (pc := 411) 1 rfl rfl dX10_scaled_411 ?_
    refine J_i2l O (pc := 412) dX10_scaled_412 ?_
    refine J_lload O (i := 15) (pc := 413) 7 rfl dX10_scaled_413 ?_
    refine J_lmul O (pc := 415) dX10_scaled_415 ?_
    refine J_iload O (i := 4) (pc := 416) 2 rfl dX10_scaled_416 ?_
    refine J_i2l O (pc := 418) dX10_scaled_418 ?_
    refine J_lload O (i := 13) (pc := 419) 6 rfl dX10_scaled_419 ?_
    refine J_lmul O (pc := 421) dX10_scaled_421 ?_
    refine J_lif_gt O (tgt := 430) (pc := 422) dX10_scaled_422 dX10_scaled_423 (by decide) (fun c422 => ?_) (fun c422 => ?_)
    · have hf := jt_t c422 hf
      refine J_iconst O (v := 0) (pc := 430) (by decide) dX10_scaled_430 ?_
      refine J_sub [1, 2, 3, 4, 5, 6, 7, 8, 9, 10, 11, 12, 13] (lv' := [(3, .int a3), (4, .int a4), (5, .int a5), (7, .long v7), (9, .long v9), (13, .long v13), (15, .long v15), (18, .long v18), (20, .long v20), (22, .long v22), (24, .long v24), (26, .long v26), (28, .long v28)]) rfl ?_
      exact wk_X10_scaled_431 O m mt md mk ms mu mn mm mo mw m_tl m_dl m_c m_e m_ol m_fa m_f m_p m_is m_t m_d m_k m_s m_u m_n m_m m_o m_w a1 a3 a4 a5 fu v7 v9 v13 v15 v18 v20 v22 v24 v26 v28 0 hf
    · have hf := jt_f c422 hf
      refine J_iconst O (v := 1) (pc := 426) (by decide) dX10_scaled_426 ?_
      refine J_goto O (tgt := 431) (pc := 427) dX10_scaled_427 (by decide) ?_
      refine J_sub [1, 2, 3, 4, 5, 6, 7, 8, 9, 10, 11, 12, 13] (lv' := [(3, .int a3), (4, .int a4), (5, .int a5), (7, .long v7), (9, .long v9), (13, .long v13), (15, .long v15), (18, .long v18), (20, .long v20), (22, .long v22), (24, .long v24), (26, .long v26), (28, .long v28)]) rfl ?_
      exact wk_X10_scaled_431 O m mt md mk ms mu mn mm mo mw m_tl m_dl m_c m_e m_ol m_fa m_f m_p m_is m_t m_d m_k m_s m_u m_n m_m m_o m_w a1 a3 a4 a5 fu v7 v9 v13 v15 v18 v20 v22 v24 v26 v28 1 hf
  · have hf := jt_t c404 hf
    refine J_ldc2 O (pc := 407) mb_X10_scaled_5 dX10_scaled_407 ?_
    have e9 := Option.some.inj hf
    subst e9
    exact J_lret O (pc := 410) rfl dX10_scaled_410
set_option maxHeartbeats 4000000 in
set_option maxRecDepth 100000 in
theorem wk_X10_scaled_229 {X : JC} {l : Launch} {D : va_G} {cB cI cJ : ClassId} (O : Jo X (l, D, cB, cI, cJ) cX10_scaled 35 RX10 wsX10_scaled rmX10_scaled (some .long)) (m mt md mk ms mu mn mm mo mw : Nat) (m_tl : Int32) (m_dl : Int32) (m_c : Int32) (m_e : Int32) (m_ol : Int32) (m_fa : Int32) (m_f : Int32) (m_p : Int32) (m_is : Int32) (m_t : Nat → Int32) (m_d : Nat → Int32) (m_k : Nat → Int32) (m_s : Nat → Int32) (m_u : Nat → Int32) (m_n : Nat → Int64) (m_m : Nat → Int32) (m_o : Nat → Int32) (m_w : Nat → Int32) (a1 : Int64) (a3 : Int32) (a4 : Int32) (a5 : Int32) (fu : Nat) {z : Int64} : ∀ (fn : Nat) (v7 : Int64) (v9 : Int64) (v11 : Int32) (v13 : Int64) (v15 : Int64) (v17 : Int32) (v18 : Int32), p_X10_scaled_229 fu m_c m_e m_d m_k m_s m_u m_n m_m a1 a3 a4 a5 fn v7 v9 v11 v13 v15 v17 v18 = some z → J X 35 (JQl X [(m, .inr (6, [.ref mt, .int m_tl, .ref md, .int m_dl, .ref mk, .ref ms, .int m_c, .ref mu, .ref mn, .ref mm, .int m_e, .ref mo, .int m_ol, .int m_fa, .int m_f, .ref mw, .int m_p, .int m_is])), (mt, .inl (cI, 6000, .inl m_t)), (md, .inl (cI, 12000, .inl m_d)), (mk, .inl (cI, 61, .inl m_k)), (ms, .inl (cI, 61, .inl m_s)), (mu, .inl (cI, 41, .inl m_u)), (mn, .inl (cJ, 41, .inr (.inl m_n))), (mm, .inl (cI, 41, .inl m_m)), (mo, .inl (cI, 14000, .inl m_o)), (mw, .inl (cI, 61, .inl m_w))] z 0 0) [(m, .inr (6, [.ref mt, .int m_tl, .ref md, .int m_dl, .ref mk, .ref ms, .int m_c, .ref mu, .ref mn, .ref mm, .int m_e, .ref mo, .int m_ol, .int m_fa, .int m_f, .ref mw, .int m_p, .int m_is])), (mt, .inl (cI, 6000, .inl m_t)), (md, .inl (cI, 12000, .inl m_d)), (mk, .inl (cI, 61, .inl m_k)), (ms, .inl (cI, 61, .inl m_s)), (mu, .inl (cI, 41, .inl m_u)), (mn, .inl (cJ, 41, .inr (.inl m_n))), (mm, .inl (cI, 41, .inl m_m)), (mo, .inl (cI, 14000, .inl m_o)), (mw, .inl (cI, 61, .inl m_w))] 0 0 229 [(0, .ref m), (3, .int a3), (4, .int a4), (5, .int a5), (7, .long v7), (9, .long v9), (11, .int v11), (13, .long v13), (15, .long v15), (17, .int v17), (18, .int v18)] [] := by
  intro fn
  induction fn with
  | zero =>
    intro v7 v9 v11 v13 v15 v17 v18 hf
    rw [p_X10_scaled_229] at hf
    exact jt_n hf
  | succ fn ih =>
    intro v7 v9 v11 v13 v15 v17 v18 hf
    rw [p_X10_scaled_229] at hf
    refine J_iload O (i := 18) (pc := 229) 10 rfl dX10_scaled_229 ?_
    refine J_bipush O (v := 6) (pc := 231) (by decide) dX10_scaled_231 ?_
    refine J_icmp_ge O (tgt := 275) (pc := 233) dX10_scaled_233 (by decide) (fun c233 => ?_) (fun c233 => ?_)
    · have hf := jt_t c233 hf
      refine J_aload_n O (i := 0) (k0 := 0) (pc := 275) 0 rfl rfl dX10_scaled_275 ?_
      refine J_get O (pc := 276) in_X10_scaled_X10 0 rfl rfl 2 (by decide) mb_X10_scaled_7 rfl dX10_scaled_276 ?_
      refine J_iload O (i := 11) (pc := 279) 6 rfl dX10_scaled_279 ?_
      obtain ⟨z281, h281, hf⟩ := jt_b hf
      refine J_callSl O (pc := 281) (c_X10_four l D cB cI cJ md 12000 m_d v11 h281) rfl gX10_scaled_X10_four hdS_X10_four ⟨(Nat.le_of_ble_eq_true rfl), (Nat.le_of_ble_eq_true rfl)⟩ rfl (st := []) rfl (Nat.le_of_ble_eq_true rfl) [2] [0, 1, 3, 4, 5, 6, 7, 8, 9] rfl rfl rfl rfl rfl (by decide) [(m, .inr (6, [.ref mt, .int m_tl, .ref md, .int m_dl, .ref mk, .ref ms, .int m_c, .ref mu, .ref mn, .ref mm, .int m_e, .ref mo, .int m_ol, .int m_fa, .int m_f, .ref mw, .int m_p, .int m_is])), (mt, .inl (cI, 6000, .inl m_t)), (md, .inl (cI, 12000, .inl m_d)), (mk, .inl (cI, 61, .inl m_k)), (ms, .inl (cI, 61, .inl m_s)), (mu, .inl (cI, 41, .inl m_u)), (mn, .inl (cJ, 41, .inr (.inl m_n))), (mm, .inl (cI, 41, .inl m_m)), (mo, .inl (cI, 14000, .inl m_o)), (mw, .inl (cI, 61, .inl m_w))] [0, 1, 9, 2, 3, 4, 5, 6, 7, 8] rfl rfl rfl (0) (0) (Nat.le_of_ble_eq_true rfl) (Nat.le_of_ble_eq_true rfl) ⟨(Nat.le_of_ble_eq_true rfl), (Nat.le_of_ble_eq_true rfl)⟩ dX10_scaled_281 ?_
      refine J_lstore O (i := 18) (pc := 284) [(18, .long z281), (0, .ref m), (3, .int a3), (4, .int a4), (5, .int a5), (7, .long v7), (9, .long v9), (11, .int v11), (13, .long v13), (15, .long v15), (17, .int v17)] (by decide) rfl dX10_scaled_284 ?_
      refine J_aload_n O (i := 0) (k0 := 0) (pc := 286) 1 rfl rfl dX10_scaled_286 ?_
      refine J_get O (pc := 287) in_X10_scaled_X10 0 rfl rfl 2 (by decide) mb_X10_scaled_7 rfl dX10_scaled_287 ?_
      refine J_iload O (i := 11) (pc := 290) 7 rfl dX10_scaled_290 ?_
      refine J_iconst O (v := 4) (pc := 292) (by decide) dX10_scaled_292 ?_
      refine J_iadd O (pc := 293) dX10_scaled_293 ?_
      obtain ⟨z294, h294, hf⟩ := jt_b hf
      refine J_callSl O (pc := 294) (c_X10_four l D cB cI cJ md 12000 m_d (v11 + 4) h294) rfl gX10_scaled_X10_four hdS_X10_four ⟨(Nat.le_of_ble_eq_true rfl), (Nat.le_of_ble_eq_true rfl)⟩ rfl (st := []) rfl (Nat.le_of_ble_eq_true rfl) [2] [0, 1, 3, 4, 5, 6, 7, 8, 9] rfl rfl rfl rfl rfl (by decide) [(m, .inr (6, [.ref mt, .int m_tl, .ref md, .int m_dl, .ref mk, .ref ms, .int m_c, .ref mu, .ref mn, .ref mm, .int m_e, .ref mo, .int m_ol, .int m_fa, .int m_f, .ref mw, .int m_p, .int m_is])), (mt, .inl (cI, 6000, .inl m_t)), (md, .inl (cI, 12000, .inl m_d)), (mk, .inl (cI, 61, .inl m_k)), (ms, .inl (cI, 61, .inl m_s)), (mu, .inl (cI, 41, .inl m_u)), (mn, .inl (cJ, 41, .inr (.inl m_n))), (mm, .inl (cI, 41, .inl m_m)), (mo, .inl (cI, 14000, .inl m_o)), (mw, .inl (cI, 61, .inl m_w))] [0, 1, 9, 2, 3, 4, 5, 6, 7, 8] rfl rfl rfl (0) (0) (Nat.le_of_ble_eq_true rfl) (Nat.le_of_ble_eq_true rfl) ⟨(Nat.le_of_ble_eq_true rfl), (Nat.le_of_ble_eq_true rfl)⟩ dX10_scaled_294 ?_
      refine J_lstore O (i := 20) (pc := 297) [(20, .long z294), (18, .long z281), (0, .ref m), (3, .int a3), (4, .int a4), (5, .int a5), (7, .long v7), (9, .long v9), (11, .int v11), (13, .long v13), (15, .long v15), (17, .int v17)] (by decide) rfl dX10_scaled_297 ?_
      refine J_aload_n O (i := 0) (k0 := 0) (pc := 299) 2 rfl rfl dX10_scaled_299 ?_
      refine J_get O (pc := 300) in_X10_scaled_X10 0 rfl rfl 2 (by decide) mb_X10_scaled_7 rfl dX10_scaled_300 ?_
      refine J_iload O (i := 11) (pc := 303) 8 rfl dX10_scaled_303 ?_
      refine J_bipush O (v := 8) (pc := 305) (by decide) dX10_scaled_305 ?_
      refine J_iadd O (pc := 307) dX10_scaled_307 ?_
      obtain ⟨z308, h308, hf⟩ := jt_b hf
      refine J_callSl O (pc := 308) (c_X10_four l D cB cI cJ md 12000 m_d (v11 + 8) h308) rfl gX10_scaled_X10_four hdS_X10_four ⟨(Nat.le_of_ble_eq_true rfl), (Nat.le_of_ble_eq_true rfl)⟩ rfl (st := []) rfl (Nat.le_of_ble_eq_true rfl) [2] [0, 1, 3, 4, 5, 6, 7, 8, 9] rfl rfl rfl rfl rfl (by decide) [(m, .inr (6, [.ref mt, .int m_tl, .ref md, .int m_dl, .ref mk, .ref ms, .int m_c, .ref mu, .ref mn, .ref mm, .int m_e, .ref mo, .int m_ol, .int m_fa, .int m_f, .ref mw, .int m_p, .int m_is])), (mt, .inl (cI, 6000, .inl m_t)), (md, .inl (cI, 12000, .inl m_d)), (mk, .inl (cI, 61, .inl m_k)), (ms, .inl (cI, 61, .inl m_s)), (mu, .inl (cI, 41, .inl m_u)), (mn, .inl (cJ, 41, .inr (.inl m_n))), (mm, .inl (cI, 41, .inl m_m)), (mo, .inl (cI, 14000, .inl m_o)), (mw, .inl (cI, 61, .inl m_w))] [0, 1, 9, 2, 3, 4, 5, 6, 7, 8] rfl rfl rfl (0) (0) (Nat.le_of_ble_eq_true rfl) (Nat.le_of_ble_eq_true rfl) ⟨(Nat.le_of_ble_eq_true rfl), (Nat.le_of_ble_eq_true rfl)⟩ dX10_scaled_308 ?_
      refine J_lstore O (i := 22) (pc := 311) [(22, .long z308), (20, .long z294), (18, .long z281), (0, .ref m), (3, .int a3), (4, .int a4), (5, .int a5), (7, .long v7), (9, .long v9), (11, .int v11), (13, .long v13), (15, .long v15), (17, .int v17)] (by decide) rfl dX10_scaled_311 ?_
      refine J_aload_n O (i := 0) (k0 := 0) (pc := 313) 3 rfl rfl dX10_scaled_313 ?_
      refine J_get O (pc := 314) in_X10_scaled_X10 0 rfl rfl 2 (by decide) mb_X10_scaled_7 rfl dX10_scaled_314 ?_
      refine J_iload O (i := 11) (pc := 317) 9 rfl dX10_scaled_317 ?_
      refine J_bipush O (v := 12) (pc := 319) (by decide) dX10_scaled_319 ?_
      refine J_iadd O (pc := 321) dX10_scaled_321 ?_
      obtain ⟨z322, h322, hf⟩ := jt_b hf
      refine J_callSl O (pc := 322) (c_X10_four l D cB cI cJ md 12000 m_d (v11 + 12) h322) rfl gX10_scaled_X10_four hdS_X10_four ⟨(Nat.le_of_ble_eq_true rfl), (Nat.le_of_ble_eq_true rfl)⟩ rfl (st := []) rfl (Nat.le_of_ble_eq_true rfl) [2] [0, 1, 3, 4, 5, 6, 7, 8, 9] rfl rfl rfl rfl rfl (by decide) [(m, .inr (6, [.ref mt, .int m_tl, .ref md, .int m_dl, .ref mk, .ref ms, .int m_c, .ref mu, .ref mn, .ref mm, .int m_e, .ref mo, .int m_ol, .int m_fa, .int m_f, .ref mw, .int m_p, .int m_is])), (mt, .inl (cI, 6000, .inl m_t)), (md, .inl (cI, 12000, .inl m_d)), (mk, .inl (cI, 61, .inl m_k)), (ms, .inl (cI, 61, .inl m_s)), (mu, .inl (cI, 41, .inl m_u)), (mn, .inl (cJ, 41, .inr (.inl m_n))), (mm, .inl (cI, 41, .inl m_m)), (mo, .inl (cI, 14000, .inl m_o)), (mw, .inl (cI, 61, .inl m_w))] [0, 1, 9, 2, 3, 4, 5, 6, 7, 8] rfl rfl rfl (0) (0) (Nat.le_of_ble_eq_true rfl) (Nat.le_of_ble_eq_true rfl) ⟨(Nat.le_of_ble_eq_true rfl), (Nat.le_of_ble_eq_true rfl)⟩ dX10_scaled_322 ?_
      refine J_lstore O (i := 24) (pc := 325) [(24, .long z322), (22, .long z308), (20, .long z294), (18, .long z281), (0, .ref m), (3, .int a3), (4, .int a4), (5, .int a5), (7, .long v7), (9, .long v9), (11, .int v11), (13, .long v13), (15, .long v15), (17, .int v17)] (by decide) rfl dX10_scaled_325 ?_
      refine J_aload_n O (i := 0) (k0 := 0) (pc := 327) 4 rfl rfl dX10_scaled_327 ?_
      refine J_get O (pc := 328) in_X10_scaled_X10 0 rfl rfl 2 (by decide) mb_X10_scaled_7 rfl dX10_scaled_328 ?_
      refine J_iload O (i := 11) (pc := 331) 10 rfl dX10_scaled_331 ?_
      refine J_bipush O (v := 16) (pc := 333) (by decide) dX10_scaled_333 ?_
      refine J_iadd O (pc := 335) dX10_scaled_335 ?_
      obtain ⟨z336, h336, hf⟩ := jt_b hf
      refine J_callSl O (pc := 336) (c_X10_four l D cB cI cJ md 12000 m_d (v11 + 16) h336) rfl gX10_scaled_X10_four hdS_X10_four ⟨(Nat.le_of_ble_eq_true rfl), (Nat.le_of_ble_eq_true rfl)⟩ rfl (st := []) rfl (Nat.le_of_ble_eq_true rfl) [2] [0, 1, 3, 4, 5, 6, 7, 8, 9] rfl rfl rfl rfl rfl (by decide) [(m, .inr (6, [.ref mt, .int m_tl, .ref md, .int m_dl, .ref mk, .ref ms, .int m_c, .ref mu, .ref mn, .ref mm, .int m_e, .ref mo, .int m_ol, .int m_fa, .int m_f, .ref mw, .int m_p, .int m_is])), (mt, .inl (cI, 6000, .inl m_t)), (md, .inl (cI, 12000, .inl m_d)), (mk, .inl (cI, 61, .inl m_k)), (ms, .inl (cI, 61, .inl m_s)), (mu, .inl (cI, 41, .inl m_u)), (mn, .inl (cJ, 41, .inr (.inl m_n))), (mm, .inl (cI, 41, .inl m_m)), (mo, .inl (cI, 14000, .inl m_o)), (mw, .inl (cI, 61, .inl m_w))] [0, 1, 9, 2, 3, 4, 5, 6, 7, 8] rfl rfl rfl (0) (0) (Nat.le_of_ble_eq_true rfl) (Nat.le_of_ble_eq_true rfl) ⟨(Nat.le_of_ble_eq_true rfl), (Nat.le_of_ble_eq_true rfl)⟩ dX10_scaled_336 ?_
      refine J_lstore O (i := 26) (pc := 339) [(26, .long z336), (24, .long z322), (22, .long z308), (20, .long z294), (18, .long z281), (0, .ref m), (3, .int a3), (4, .int a4), (5, .int a5), (7, .long v7), (9, .long v9), (11, .int v11), (13, .long v13), (15, .long v15), (17, .int v17)] (by decide) rfl dX10_scaled_339 ?_
      refine J_aload_n O (i := 0) (k0 := 0) (pc := 341) 5 rfl rfl dX10_scaled_341 ?_
      refine J_get O (pc := 342) in_X10_scaled_X10 0 rfl rfl 2 (by decide) mb_X10_scaled_7 rfl dX10_scaled_342 ?_
      refine J_iload O (i := 11) (pc := 345) 11 rfl dX10_scaled_345 ?_
      refine J_bipush O (v := 20) (pc := 347) (by decide) dX10_scaled_347 ?_
      refine J_iadd O (pc := 349) dX10_scaled_349 ?_
      obtain ⟨z350, h350, hf⟩ := jt_b hf
      refine J_callSl O (pc := 350) (c_X10_four l D cB cI cJ md 12000 m_d (v11 + 20) h350) rfl gX10_scaled_X10_four hdS_X10_four ⟨(Nat.le_of_ble_eq_true rfl), (Nat.le_of_ble_eq_true rfl)⟩ rfl (st := []) rfl (Nat.le_of_ble_eq_true rfl) [2] [0, 1, 3, 4, 5, 6, 7, 8, 9] rfl rfl rfl rfl rfl (by decide) [(m, .inr (6, [.ref mt, .int m_tl, .ref md, .int m_dl, .ref mk, .ref ms, .int m_c, .ref mu, .ref mn, .ref mm, .int m_e, .ref mo, .int m_ol, .int m_fa, .int m_f, .ref mw, .int m_p, .int m_is])), (mt, .inl (cI, 6000, .inl m_t)), (md, .inl (cI, 12000, .inl m_d)), (mk, .inl (cI, 61, .inl m_k)), (ms, .inl (cI, 61, .inl m_s)), (mu, .inl (cI, 41, .inl m_u)), (mn, .inl (cJ, 41, .inr (.inl m_n))), (mm, .inl (cI, 41, .inl m_m)), (mo, .inl (cI, 14000, .inl m_o)), (mw, .inl (cI, 61, .inl m_w))] [0, 1, 9, 2, 3, 4, 5, 6, 7, 8] rfl rfl rfl (0) (0) (Nat.le_of_ble_eq_true rfl) (Nat.le_of_ble_eq_true rfl) ⟨(Nat.le_of_ble_eq_true rfl), (Nat.le_of_ble_eq_true rfl)⟩ dX10_scaled_350 ?_
      refine J_lstore O (i := 28) (pc := 353) [(28, .long z350), (26, .long z336), (24, .long z322), (22, .long z308), (20, .long z294), (18, .long z281), (0, .ref m), (3, .int a3), (4, .int a4), (5, .int a5), (7, .long v7), (9, .long v9), (11, .int v11), (13, .long v13), (15, .long v15), (17, .int v17)] (by decide) rfl dX10_scaled_353 ?_
      refine J_iload O (i := 17) (pc := 355) 15 rfl dX10_scaled_355 ?_
      refine J_if_eq O (tgt := 399) (pc := 357) dX10_scaled_357 (by decide) (fun c357 => ?_) (fun c357 => ?_)
      · have hf := jt_t c357 hf
        refine J_iconst O (v := 0) (pc := 399) (by decide) dX10_scaled_399 ?_
        refine J_sub [7, 8, 9, 10, 11, 13, 14, 5, 4, 3, 2, 1, 0] (lv' := [(3, .int a3), (4, .int a4), (5, .int a5), (7, .long v7), (9, .long v9), (13, .long v13), (15, .long v15), (18, .long z281), (20, .long z294), (22, .long z308), (24, .long z322), (26, .long z336), (28, .long z350)]) rfl ?_
        exact wk_X10_scaled_400 O m mt md mk ms mu mn mm mo mw m_tl m_dl m_c m_e m_ol m_fa m_f m_p m_is m_t m_d m_k m_s m_u m_n m_m m_o m_w a1 a3 a4 a5 fu v7 v9 v13 v15 z281 z294 z308 z322 z336 z350 0 hf
      · have hf := jt_f c357 hf
        refine J_lload O (i := 20) (pc := 360) 4 rfl dX10_scaled_360 ?_
        refine J_lconst O (v := 0) (pc := 362) (by decide) dX10_scaled_362 ?_
        refine J_lif_le O (tgt := 399) (pc := 363) dX10_scaled_363 dX10_scaled_364 (by decide) (fun c363 => ?_) (fun c363 => ?_)
        · have hf := jt_t c363 hf
          refine J_iconst O (v := 0) (pc := 399) (by decide) dX10_scaled_399 ?_
          refine J_sub [7, 8, 9, 10, 11, 13, 14, 5, 4, 3, 2, 1, 0] (lv' := [(3, .int a3), (4, .int a4), (5, .int a5), (7, .long v7), (9, .long v9), (13, .long v13), (15, .long v15), (18, .long z281), (20, .long z294), (22, .long z308), (24, .long z322), (26, .long z336), (28, .long z350)]) rfl ?_
          exact wk_X10_scaled_400 O m mt md mk ms mu mn mm mo mw m_tl m_dl m_c m_e m_ol m_fa m_f m_p m_is m_t m_d m_k m_s m_u m_n m_m m_o m_w a1 a3 a4 a5 fu v7 v9 v13 v15 z281 z294 z308 z322 z336 z350 0 hf
        · have hf := jt_f c363 hf
          refine J_lload O (i := 24) (pc := 367) 2 rfl dX10_scaled_367 ?_
          refine J_lconst O (v := 0) (pc := 369) (by decide) dX10_scaled_369 ?_
          refine J_lif_gt O (tgt := 381) (pc := 370) dX10_scaled_370 dX10_scaled_371 (by decide) (fun c370 => ?_) (fun c370 => ?_)
          · have hf := jt_t c370 hf
            refine J_lload O (i := 28) (pc := 381) 0 rfl dX10_scaled_381 ?_
            refine J_lconst O (v := 0) (pc := 383) (by decide) dX10_scaled_383 ?_
            refine J_lif_gt O (tgt := 395) (pc := 384) dX10_scaled_384 dX10_scaled_385 (by decide) (fun c384 => ?_) (fun c384 => ?_)
            · have hf := jt_t c384 hf
              refine J_iconst O (v := 1) (pc := 395) (by decide) dX10_scaled_395 ?_
              refine J_goto O (tgt := 400) (pc := 396) dX10_scaled_396 (by decide) ?_
              refine J_sub [7, 8, 9, 10, 11, 13, 14, 5, 4, 3, 2, 1, 0] (lv' := [(3, .int a3), (4, .int a4), (5, .int a5), (7, .long v7), (9, .long v9), (13, .long v13), (15, .long v15), (18, .long z281), (20, .long z294), (22, .long z308), (24, .long z322), (26, .long z336), (28, .long z350)]) rfl ?_
              exact wk_X10_scaled_400 O m mt md mk ms mu mn mm mo mw m_tl m_dl m_c m_e m_ol m_fa m_f m_p m_is m_t m_d m_k m_s m_u m_n m_m m_o m_w a1 a3 a4 a5 fu v7 v9 v13 v15 z281 z294 z308 z322 z336 z350 1 hf
            · have hf := jt_f c384 hf
              refine J_lload O (i := 26) (pc := 388) 1 rfl dX10_scaled_388 ?_
              refine J_lconst O (v := 0) (pc := 390) (by decide) dX10_scaled_390 ?_
              refine J_lif_ne O (tgt := 399) (pc := 391) dX10_scaled_391 dX10_scaled_392 (by decide) (fun c391 => ?_) (fun c391 => ?_)
              · have hf := jt_f c391 hf
                refine J_iconst O (v := 0) (pc := 399) (by decide) dX10_scaled_399 ?_
                refine J_sub [7, 8, 9, 10, 11, 13, 14, 5, 4, 3, 2, 1, 0] (lv' := [(3, .int a3), (4, .int a4), (5, .int a5), (7, .long v7), (9, .long v9), (13, .long v13), (15, .long v15), (18, .long z281), (20, .long z294), (22, .long z308), (24, .long z322), (26, .long z336), (28, .long z350)]) rfl ?_
                exact wk_X10_scaled_400 O m mt md mk ms mu mn mm mo mw m_tl m_dl m_c m_e m_ol m_fa m_f m_p m_is m_t m_d m_k m_s m_u m_n m_m m_o m_w a1 a3 a4 a5 fu v7 v9 v13 v15 z281 z294 z308 z322 z336 z350 0 hf
              · have hf := jt_t c391 hf
                refine J_iconst O (v := 1) (pc := 395) (by decide) dX10_scaled_395 ?_
                refine J_goto O (tgt := 400) (pc := 396) dX10_scaled_396 (by decide) ?_
                refine J_sub [7, 8, 9, 10, 11, 13, 14, 5, 4, 3, 2, 1, 0] (lv' := [(3, .int a3), (4, .int a4), (5, .int a5), (7, .long v7), (9, .long v9), (13, .long v13), (15, .long v15), (18, .long z281), (20, .long z294), (22, .long z308), (24, .long z322), (26, .long z336), (28, .long z350)]) rfl ?_
                exact wk_X10_scaled_400 O m mt md mk ms mu mn mm mo mw m_tl m_dl m_c m_e m_ol m_fa m_f m_p m_is m_t m_d m_k m_s m_u m_n m_m m_o m_w a1 a3 a4 a5 fu v7 v9 v13 v15 z281 z294 z308 z322 z336 z350 1 hf
          · have hf := jt_f c370 hf
            refine J_lload O (i := 22) (pc := 374) 3 rfl dX10_scaled_374 ?_
            refine J_lconst O (v := 0) (pc := 376) (by decide) dX10_scaled_376 ?_
            refine J_lif_ne O (tgt := 399) (pc := 377) dX10_scaled_377 dX10_scaled_378 (by decide) (fun c377 => ?_) (fun c377 => ?_)
            · have hf := jt_f c377 hf
              refine J_iconst O (v := 0) (pc := 399) (by decide) dX10_scaled_399 ?_
              refine J_sub [7, 8, 9, 10, 11, 13, 14, 5, 4, 3, 2, 1, 0] (lv' := [(3, .int a3), (4, .int a4), (5, .int a5), (7, .long v7), (9, .long v9), (13, .long v13), (15, .long v15), (18, .long z281), (20, .long z294), (22, .long z308), (24, .long z322), (26, .long z336), (28, .long z350)]) rfl ?_
              exact wk_X10_scaled_400 O m mt md mk ms mu mn mm mo mw m_tl m_dl m_c m_e m_ol m_fa m_f m_p m_is m_t m_d m_k m_s m_u m_n m_m m_o m_w a1 a3 a4 a5 fu v7 v9 v13 v15 z281 z294 z308 z322 z336 z350 0 hf
            · have hf := jt_t c377 hf
              refine J_lload O (i := 28) (pc := 381) 0 rfl dX10_scaled_381 ?_
              refine J_lconst O (v := 0) (pc := 383) (by decide) dX10_scaled_383 ?_
              refine J_lif_gt O (tgt := 395) (pc := 384) dX10_scaled_384 dX10_scaled_385 (by decide) (fun c384 => ?_) (fun c384 => ?_)
              · have hf := jt_t c384 hf
                refine J_iconst O (v := 1) (pc := 395) (by decide) dX10_scaled_395 ?_
                refine J_goto O (tgt := 400) (pc := 396) dX10_scaled_396 (by decide) ?_
                refine J_sub [7, 8, 9, 10, 11, 13, 14, 5, 4, 3, 2, 1, 0] (lv' := [(3, .int a3), (4, .int a4), (5, .int a5), (7, .long v7), (9, .long v9), (13, .long v13), (15, .long v15), (18, .long z281), (20, .long z294), (22, .long z308), (24, .long z322), (26, .long z336), (28, .long z350)]) rfl ?_
                exact wk_X10_scaled_400 O m mt md mk ms mu mn mm mo mw m_tl m_dl m_c m_e m_ol m_fa m_f m_p m_is m_t m_d m_k m_s m_u m_n m_m m_o m_w a1 a3 a4 a5 fu v7 v9 v13 v15 z281 z294 z308 z322 z336 z350 1 hf
              · have hf := jt_f c384 hf
                refine J_lload O (i := 26) (pc := 388) 1 rfl dX10_scaled_388 ?_
                refine J_lconst O (v := 0) (pc := 390) (by decide) dX10_scaled_390 ?_
                refine J_lif_ne O (tgt := 399) (pc := 391) dX10_scaled_391 dX10_scaled_392 (by decide) (fun c391 => ?_) (fun c391 => ?_)
                · have hf := jt_f c391 hf
                  refine J_iconst O (v := 0) (pc := 399) (by decide) dX10_scaled_399 ?_
                  refine J_sub [7, 8, 9, 10, 11, 13, 14, 5, 4, 3, 2, 1, 0] (lv' := [(3, .int a3), (4, .int a4), (5, .int a5), (7, .long v7), (9, .long v9), (13, .long v13), (15, .long v15), (18, .long z281), (20, .long z294), (22, .long z308), (24, .long z322), (26, .long z336), (28, .long z350)]) rfl ?_
                  exact wk_X10_scaled_400 O m mt md mk ms mu mn mm mo mw m_tl m_dl m_c m_e m_ol m_fa m_f m_p m_is m_t m_d m_k m_s m_u m_n m_m m_o m_w a1 a3 a4 a5 fu v7 v9 v13 v15 z281 z294 z308 z322 z336 z350 0 hf
                · have hf := jt_t c391 hf
                  refine J_iconst O (v := 1) (pc := 395) (by decide) dX10_scaled_395 ?_
                  refine J_goto O (tgt := 400) (pc := 396) dX10_scaled_396 (by decide) ?_
                  refine J_sub [7, 8, 9, 10, 11, 13, 14, 5, 4, 3, 2, 1, 0] (lv' := [(3, .int a3), (4, .int a4), (5, .int a5), (7, .long v7), (9, .long v9), (13, .long v13), (15, .long v15), (18, .long z281), (20, .long z294), (22, .long z308), (24, .long z322), (26, .long z336), (28, .long z350)]) rfl ?_
                  exact wk_X10_scaled_400 O m mt md mk ms mu mn mm mo mw m_tl m_dl m_c m_e m_ol m_fa m_f m_p m_is m_t m_d m_k m_s m_u m_n m_m m_o m_w a1 a3 a4 a5 fu v7 v9 v13 v15 z281 z294 z308 z322 z336 z350 1 hf
    · have hf := jt_f c233 hf
      refine J_iload O (i := 17) (pc := 236) 9 rfl dX10_scaled_236 ?_
      refine J_if_eq O (tgt := 266) (pc := 238) dX10_scaled_238 (by decide) (fun c238 => ?_) (fun c238 => ?_)
      · have hf := jt_t c238 hf
        refine J_iconst O (v := 0) (pc := 266) (by decide) dX10_scaled_266 ?_
        refine J_istore O (i := 17) (pc := 267) [(17, .int 0), (0, .ref m), (3, .int a3), (4, .int a4), (5, .int a5), (7, .long v7), (9, .long v9), (11, .int v11), (13, .long v13), (15, .long v15), (18, .int v18)] (by decide) rfl dX10_scaled_267 ?_
        refine J_iinc O (i := 18) (n := 1) (v := v18 + 1) (pc := 269) 10 rfl [(18, .int (v18 + 1)), (17, .int 0), (0, .ref m), (3, .int a3), (4, .int a4), (5, .int a5), (7, .long v7), (9, .long v9), (11, .int v11), (13, .long v13), (15, .long v15)] (by decide) (congrArg (_ + ·) (by decide)) rfl dX10_scaled_269 ?_
        refine J_goto O (tgt := 229) (pc := 272) dX10_scaled_272 (by decide) ?_
        refine J_sub [2, 3, 4, 5, 6, 7, 8, 9, 10, 1, 0] (lv' := [(0, .ref m), (3, .int a3), (4, .int a4), (5, .int a5), (7, .long v7), (9, .long v9), (11, .int v11), (13, .long v13), (15, .long v15), (17, .int 0), (18, .int (v18 + 1))]) rfl ?_
        exact ih v7 v9 v11 v13 v15 0 (v18 + 1) hf
      · have hf := jt_f c238 hf
        refine J_aload_n O (i := 0) (k0 := 0) (pc := 241) 0 rfl rfl dX10_scaled_241 ?_
        refine J_get O (pc := 242) in_X10_scaled_X10 0 rfl rfl 2 (by decide) mb_X10_scaled_7 rfl dX10_scaled_242 ?_
        refine J_iload O (i := 11) (pc := 245) 6 rfl dX10_scaled_245 ?_
        refine J_iconst O (v := 4) (pc := 247) (by decide) dX10_scaled_247 ?_
        refine J_iload O (i := 18) (pc := 248) 10 rfl dX10_scaled_248 ?_
        refine J_imul O (pc := 250) dX10_scaled_250 ?_
        refine J_iadd O (pc := 251) dX10_scaled_251 ?_
        obtain ⟨z252, h252, hf⟩ := jt_b hf
        refine J_callSl O (pc := 252) (c_X10_four l D cB cI cJ md 12000 m_d (v11 + (4 * v18)) h252) rfl gX10_scaled_X10_four hdS_X10_four ⟨(Nat.le_of_ble_eq_true rfl), (Nat.le_of_ble_eq_true rfl)⟩ rfl (st := []) rfl (Nat.le_of_ble_eq_true rfl) [2] [0, 1, 3, 4, 5, 6, 7, 8, 9] rfl rfl rfl rfl rfl (by decide) [(m, .inr (6, [.ref mt, .int m_tl, .ref md, .int m_dl, .ref mk, .ref ms, .int m_c, .ref mu, .ref mn, .ref mm, .int m_e, .ref mo, .int m_ol, .int m_fa, .int m_f, .ref mw, .int m_p, .int m_is])), (mt, .inl (cI, 6000, .inl m_t)), (md, .inl (cI, 12000, .inl m_d)), (mk, .inl (cI, 61, .inl m_k)), (ms, .inl (cI, 61, .inl m_s)), (mu, .inl (cI, 41, .inl m_u)), (mn, .inl (cJ, 41, .inr (.inl m_n))), (mm, .inl (cI, 41, .inl m_m)), (mo, .inl (cI, 14000, .inl m_o)), (mw, .inl (cI, 61, .inl m_w))] [0, 1, 9, 2, 3, 4, 5, 6, 7, 8] rfl rfl rfl (0) (0) (Nat.le_of_ble_eq_true rfl) (Nat.le_of_ble_eq_true rfl) ⟨(Nat.le_of_ble_eq_true rfl), (Nat.le_of_ble_eq_true rfl)⟩ dX10_scaled_252 ?_
        refine J_ldc2 O (pc := 255) mb_X10_scaled_1 dX10_scaled_255 ?_
        refine J_lif_gt O (tgt := 266) (pc := 258) dX10_scaled_258 dX10_scaled_259 (by decide) (fun c258 => ?_) (fun c258 => ?_)
        · have hf := jt_t c258 hf
          refine J_iconst O (v := 0) (pc := 266) (by decide) dX10_scaled_266 ?_
          refine J_istore O (i := 17) (pc := 267) [(17, .int 0), (0, .ref m), (3, .int a3), (4, .int a4), (5, .int a5), (7, .long v7), (9, .long v9), (11, .int v11), (13, .long v13), (15, .long v15), (18, .int v18)] (by decide) rfl dX10_scaled_267 ?_
          refine J_iinc O (i := 18) (n := 1) (v := v18 + 1) (pc := 269) 10 rfl [(18, .int (v18 + 1)), (17, .int 0), (0, .ref m), (3, .int a3), (4, .int a4), (5, .int a5), (7, .long v7), (9, .long v9), (11, .int v11), (13, .long v13), (15, .long v15)] (by decide) (congrArg (_ + ·) (by decide)) rfl dX10_scaled_269 ?_
          refine J_goto O (tgt := 229) (pc := 272) dX10_scaled_272 (by decide) ?_
          refine J_sub [2, 3, 4, 5, 6, 7, 8, 9, 10, 1, 0] (lv' := [(0, .ref m), (3, .int a3), (4, .int a4), (5, .int a5), (7, .long v7), (9, .long v9), (11, .int v11), (13, .long v13), (15, .long v15), (17, .int 0), (18, .int (v18 + 1))]) rfl ?_
          exact ih v7 v9 v11 v13 v15 0 (v18 + 1) hf
        · have hf := jt_f c258 hf
          refine J_iconst O (v := 1) (pc := 262) (by decide) dX10_scaled_262 ?_
          refine J_goto O (tgt := 267) (pc := 263) dX10_scaled_263 (by decide) ?_
          refine J_istore O (i := 17) (pc := 267) [(17, .int 1), (0, .ref m), (3, .int a3), (4, .int a4), (5, .int a5), (7, .long v7), (9, .long v9), (11, .int v11), (13, .long v13), (15, .long v15), (18, .int v18)] (by decide) rfl dX10_scaled_267 ?_
          refine J_iinc O (i := 18) (n := 1) (v := v18 + 1) (pc := 269) 10 rfl [(18, .int (v18 + 1)), (17, .int 1), (0, .ref m), (3, .int a3), (4, .int a4), (5, .int a5), (7, .long v7), (9, .long v9), (11, .int v11), (13, .long v13), (15, .long v15)] (by decide) (congrArg (_ + ·) (by decide)) rfl dX10_scaled_269 ?_
          refine J_goto O (tgt := 229) (pc := 272) dX10_scaled_272 (by decide) ?_
          refine J_sub [2, 3, 4, 5, 6, 7, 8, 9, 10, 1, 0] (lv' := [(0, .ref m), (3, .int a3), (4, .int a4), (5, .int a5), (7, .long v7), (9, .long v9), (11, .int v11), (13, .long v13), (15, .long v15), (17, .int 1), (18, .int (v18 + 1))]) rfl ?_
          exact ih v7 v9 v11 v13 v15 1 (v18 + 1) hf
set_option maxHeartbeats 4000000 in
set_option maxRecDepth 100000 in
theorem c_X10_scaled (l : Launch) (D : va_G) (cB cI cJ : ClassId) (m mt md mk ms mu mn mm mo mw : Nat) (m_tl : Int32) (m_dl : Int32) (m_c : Int32) (m_e : Int32) (m_ol : Int32) (m_fa : Int32) (m_f : Int32) (m_p : Int32) (m_is : Int32) (m_t : Nat → Int32) (m_d : Nat → Int32) (m_k : Nat → Int32) (m_s : Nat → Int32) (m_u : Nat → Int32) (m_n : Nat → Int64) (m_m : Nat → Int32) (m_o : Nat → Int32) (m_w : Nat → Int32) (a1 : Int64) (a3 : Int32) (a4 : Int32) (a5 : Int32) (fu : Nat) {z : Int64} (hf : p_X10_scaled fu m_c m_e m_d m_k m_s m_u m_n m_m a1 a3 a4 a5 = some z) : Cl (l, D, cB, cI, cJ) yX10_scaled wsX10_scaled rmX10_scaled [.ref m, .long a1, .int a3, .int a4, .int a5] [(m, .inr (6, [.ref mt, .int m_tl, .ref md, .int m_dl, .ref mk, .ref ms, .int m_c, .ref mu, .ref mn, .ref mm, .int m_e, .ref mo, .int m_ol, .int m_fa, .int m_f, .ref mw, .int m_p, .int m_is])), (mt, .inl (cI, 6000, .inl m_t)), (md, .inl (cI, 12000, .inl m_d)), (mk, .inl (cI, 61, .inl m_k)), (ms, .inl (cI, 61, .inl m_s)), (mu, .inl (cI, 41, .inl m_u)), (mn, .inl (cJ, 41, .inr (.inl m_n))), (mm, .inl (cI, 41, .inl m_m)), (mo, .inl (cI, 14000, .inl m_o)), (mw, .inl (cI, 61, .inl m_w))] [(m, .inr (6, [.ref mt, .int m_tl, .ref md, .int m_dl, .ref mk, .ref ms, .int m_c, .ref mu, .ref mn, .ref mm, .int m_e, .ref mo, .int m_ol, .int m_fa, .int m_f, .ref mw, .int m_p, .int m_is])), (mt, .inl (cI, 6000, .inl m_t)), (md, .inl (cI, 12000, .inl m_d)), (mk, .inl (cI, 61, .inl m_k)), (ms, .inl (cI, 61, .inl m_s)), (mu, .inl (cI, 41, .inl m_u)), (mn, .inl (cJ, 41, .inr (.inl m_n))), (mm, .inl (cI, 41, .inl m_m)), (mo, .inl (cI, 14000, .inl m_o)), (mw, .inl (cI, 61, .inl m_w))] z := by
  refine Cl_of (cc := cX10_scaled) (nL := 35) (own := RX10) (ret := (some .long)) (by decide) rfl rfl (Nat.le_of_ble_eq_true rfl) (fun X O hnm0 => ?_)
  rw [p_X10_scaled] at hf
  show J X 35 (JQl X [(m, .inr (6, [.ref mt, .int m_tl, .ref md, .int m_dl, .ref mk, .ref ms, .int m_c, .ref mu, .ref mn, .ref mm, .int m_e, .ref mo, .int m_ol, .int m_fa, .int m_f, .ref mw, .int m_p, .int m_is])), (mt, .inl (cI, 6000, .inl m_t)), (md, .inl (cI, 12000, .inl m_d)), (mk, .inl (cI, 61, .inl m_k)), (ms, .inl (cI, 61, .inl m_s)), (mu, .inl (cI, 41, .inl m_u)), (mn, .inl (cJ, 41, .inr (.inl m_n))), (mm, .inl (cI, 41, .inl m_m)), (mo, .inl (cI, 14000, .inl m_o)), (mw, .inl (cI, 61, .inl m_w))] z 0 0) [(m, .inr (6, [.ref mt, .int m_tl, .ref md, .int m_dl, .ref mk, .ref ms, .int m_c, .ref mu, .ref mn, .ref mm, .int m_e, .ref mo, .int m_ol, .int m_fa, .int m_f, .ref mw, .int m_p, .int m_is])), (mt, .inl (cI, 6000, .inl m_t)), (md, .inl (cI, 12000, .inl m_d)), (mk, .inl (cI, 61, .inl m_k)), (ms, .inl (cI, 61, .inl m_s)), (mu, .inl (cI, 41, .inl m_u)), (mn, .inl (cJ, 41, .inr (.inl m_n))), (mm, .inl (cI, 41, .inl m_m)), (mo, .inl (cI, 14000, .inl m_o)), (mw, .inl (cI, 61, .inl m_w))] 0 0 0 [(0, .ref m), (1, .long a1), (3, .int a3), (4, .int a4), (5, .int a5)] []
  refine J_lload_n O (i := 1) (k0 := 1) (pc := 0) 1 rfl rfl dX10_scaled_0 ?_
  obtain ⟨z1, h1, hf⟩ := jt_b hf
  refine J_callSi O (pc := 1) (c_X10_isNumber l D cB cI cJ a1 h1) rfl gX10_scaled_X10_isNumber hdS_X10_isNumber ⟨(Nat.le_of_ble_eq_true rfl), (Nat.le_of_ble_eq_true rfl)⟩ rfl (st := []) rfl (Nat.le_of_ble_eq_true rfl) [] [0, 1, 2, 3, 4, 5, 6, 7, 8, 9] rfl rfl rfl rfl rfl (by decide) [(m, .inr (6, [.ref mt, .int m_tl, .ref md, .int m_dl, .ref mk, .ref ms, .int m_c, .ref mu, .ref mn, .ref mm, .int m_e, .ref mo, .int m_ol, .int m_fa, .int m_f, .ref mw, .int m_p, .int m_is])), (mt, .inl (cI, 6000, .inl m_t)), (md, .inl (cI, 12000, .inl m_d)), (mk, .inl (cI, 61, .inl m_k)), (ms, .inl (cI, 61, .inl m_s)), (mu, .inl (cI, 41, .inl m_u)), (mn, .inl (cJ, 41, .inr (.inl m_n))), (mm, .inl (cI, 41, .inl m_m)), (mo, .inl (cI, 14000, .inl m_o)), (mw, .inl (cI, 61, .inl m_w))] [0, 1, 2, 3, 4, 5, 6, 7, 8, 9] rfl rfl rfl (0) (0) (Nat.le_of_ble_eq_true rfl) (Nat.le_of_ble_eq_true rfl) ⟨(Nat.le_of_ble_eq_true rfl), (Nat.le_of_ble_eq_true rfl)⟩ dX10_scaled_1 ?_
  refine J_zeq O (tgt := 43) (pc := 4) dX10_scaled_4 (by decide) (fun c4 => ?_) (fun c4 => ?_)
  · have hf := jt_f c4 hf
    refine J_ldc2 O (pc := 43) mb_X10_scaled_0 dX10_scaled_43 ?_
    have e9 := Option.some.inj hf
    subst e9
    exact J_lret O (pc := 46) rfl dX10_scaled_46
  · have hf := jt_t c4 hf
    refine J_iload_n O (i := 3) (k0 := 3) (pc := 7) 2 rfl rfl dX10_scaled_7 ?_
    refine J_i2l O (pc := 8) dX10_scaled_8 ?_
    refine J_lconst O (v := 1) (pc := 9) (by decide) dX10_scaled_9 ?_
    refine J_ldc2 O (pc := 10) mb_X10_scaled_1 dX10_scaled_10 ?_
    obtain ⟨z13, h13, hf⟩ := jt_b hf
    refine J_callSi O (pc := 13) (c_X10_in l D cB cI cJ (Int32.toInt64 a3) 1 65535 h13) rfl gX10_scaled_X10_in hdS_X10_in ⟨(Nat.le_of_ble_eq_true rfl), (Nat.le_of_ble_eq_true rfl)⟩ rfl (st := []) rfl (Nat.le_of_ble_eq_true rfl) [] [0, 1, 2, 3, 4, 5, 6, 7, 8, 9] rfl rfl rfl rfl rfl (by decide) [(m, .inr (6, [.ref mt, .int m_tl, .ref md, .int m_dl, .ref mk, .ref ms, .int m_c, .ref mu, .ref mn, .ref mm, .int m_e, .ref mo, .int m_ol, .int m_fa, .int m_f, .ref mw, .int m_p, .int m_is])), (mt, .inl (cI, 6000, .inl m_t)), (md, .inl (cI, 12000, .inl m_d)), (mk, .inl (cI, 61, .inl m_k)), (ms, .inl (cI, 61, .inl m_s)), (mu, .inl (cI, 41, .inl m_u)), (mn, .inl (cJ, 41, .inr (.inl m_n))), (mm, .inl (cI, 41, .inl m_m)), (mo, .inl (cI, 14000, .inl m_o)), (mw, .inl (cI, 61, .inl m_w))] [0, 1, 2, 3, 4, 5, 6, 7, 8, 9] rfl rfl rfl (0) (0) (Nat.le_of_ble_eq_true rfl) (Nat.le_of_ble_eq_true rfl) ⟨(Nat.le_of_ble_eq_true rfl), (Nat.le_of_ble_eq_true rfl)⟩ dX10_scaled_13 ?_
    refine J_zeq O (tgt := 43) (pc := 16) dX10_scaled_16 (by decide) (fun c16 => ?_) (fun c16 => ?_)
    · have hf := jt_f c16 hf
      refine J_ldc2 O (pc := 43) mb_X10_scaled_0 dX10_scaled_43 ?_
      have e9 := Option.some.inj hf
      subst e9
      exact J_lret O (pc := 46) rfl dX10_scaled_46
    · have hf := jt_t c16 hf
      refine J_iload O (i := 4) (pc := 19) 3 rfl dX10_scaled_19 ?_
      refine J_i2l O (pc := 21) dX10_scaled_21 ?_
      refine J_lconst O (v := 1) (pc := 22) (by decide) dX10_scaled_22 ?_
      refine J_ldc2 O (pc := 23) mb_X10_scaled_1 dX10_scaled_23 ?_
      obtain ⟨z26, h26, hf⟩ := jt_b hf
      refine J_callSi O (pc := 26) (c_X10_in l D cB cI cJ (Int32.toInt64 a4) 1 65535 h26) rfl gX10_scaled_X10_in hdS_X10_in ⟨(Nat.le_of_ble_eq_true rfl), (Nat.le_of_ble_eq_true rfl)⟩ rfl (st := []) rfl (Nat.le_of_ble_eq_true rfl) [] [0, 1, 2, 3, 4, 5, 6, 7, 8, 9] rfl rfl rfl rfl rfl (by decide) [(m, .inr (6, [.ref mt, .int m_tl, .ref md, .int m_dl, .ref mk, .ref ms, .int m_c, .ref mu, .ref mn, .ref mm, .int m_e, .ref mo, .int m_ol, .int m_fa, .int m_f, .ref mw, .int m_p, .int m_is])), (mt, .inl (cI, 6000, .inl m_t)), (md, .inl (cI, 12000, .inl m_d)), (mk, .inl (cI, 61, .inl m_k)), (ms, .inl (cI, 61, .inl m_s)), (mu, .inl (cI, 41, .inl m_u)), (mn, .inl (cJ, 41, .inr (.inl m_n))), (mm, .inl (cI, 41, .inl m_m)), (mo, .inl (cI, 14000, .inl m_o)), (mw, .inl (cI, 61, .inl m_w))] [0, 1, 2, 3, 4, 5, 6, 7, 8, 9] rfl rfl rfl (0) (0) (Nat.le_of_ble_eq_true rfl) (Nat.le_of_ble_eq_true rfl) ⟨(Nat.le_of_ble_eq_true rfl), (Nat.le_of_ble_eq_true rfl)⟩ dX10_scaled_26 ?_
      refine J_zeq O (tgt := 43) (pc := 29) dX10_scaled_29 (by decide) (fun c29 => ?_) (fun c29 => ?_)
      · have hf := jt_f c29 hf
        refine J_ldc2 O (pc := 43) mb_X10_scaled_0 dX10_scaled_43 ?_
        have e9 := Option.some.inj hf
        subst e9
        exact J_lret O (pc := 46) rfl dX10_scaled_46
      · have hf := jt_t c29 hf
        refine J_iload O (i := 5) (pc := 32) 4 rfl dX10_scaled_32 ?_
        refine J_i2l O (pc := 34) dX10_scaled_34 ?_
        refine J_lconst O (v := 0) (pc := 35) (by decide) dX10_scaled_35 ?_
        refine J_lconst O (v := 1) (pc := 36) (by decide) dX10_scaled_36 ?_
        obtain ⟨z37, h37, hf⟩ := jt_b hf
        refine J_callSi O (pc := 37) (c_X10_in l D cB cI cJ (Int32.toInt64 a5) 0 1 h37) rfl gX10_scaled_X10_in hdS_X10_in ⟨(Nat.le_of_ble_eq_true rfl), (Nat.le_of_ble_eq_true rfl)⟩ rfl (st := []) rfl (Nat.le_of_ble_eq_true rfl) [] [0, 1, 2, 3, 4, 5, 6, 7, 8, 9] rfl rfl rfl rfl rfl (by decide) [(m, .inr (6, [.ref mt, .int m_tl, .ref md, .int m_dl, .ref mk, .ref ms, .int m_c, .ref mu, .ref mn, .ref mm, .int m_e, .ref mo, .int m_ol, .int m_fa, .int m_f, .ref mw, .int m_p, .int m_is])), (mt, .inl (cI, 6000, .inl m_t)), (md, .inl (cI, 12000, .inl m_d)), (mk, .inl (cI, 61, .inl m_k)), (ms, .inl (cI, 61, .inl m_s)), (mu, .inl (cI, 41, .inl m_u)), (mn, .inl (cJ, 41, .inr (.inl m_n))), (mm, .inl (cI, 41, .inl m_m)), (mo, .inl (cI, 14000, .inl m_o)), (mw, .inl (cI, 61, .inl m_w))] [0, 1, 2, 3, 4, 5, 6, 7, 8, 9] rfl rfl rfl (0) (0) (Nat.le_of_ble_eq_true rfl) (Nat.le_of_ble_eq_true rfl) ⟨(Nat.le_of_ble_eq_true rfl), (Nat.le_of_ble_eq_true rfl)⟩ dX10_scaled_37 ?_
        refine J_zne O (tgt := 47) (pc := 40) dX10_scaled_40 (by decide) (fun c40 => ?_) (fun c40 => ?_)
        · have hf := jt_t c40 hf
          refine J_aload_n O (i := 0) (k0 := 0) (pc := 47) 0 rfl rfl dX10_scaled_47 ?_
          refine J_ldc O (pc := 48) mb_X10_scaled_2 dX10_scaled_48 ?_
          refine J_lload_n O (i := 1) (k0 := 1) (pc := 50) 1 rfl rfl dX10_scaled_50 ?_
          obtain ⟨z51, h51, hf⟩ := jt_b hf
          refine J_callVi O (pc := 51) (c_X10_entryFor l D cB cI cJ m mt md mk ms mu mn mm mo mw m_tl m_dl m_c m_e m_ol m_fa m_f m_p m_is m_t m_d m_k m_s m_u m_n m_m m_o m_w 1349084020 a1 fu h51) rfl 0 rfl rfl gX10_scaled_X10_entryFor hdV_X10_entryFor ⟨(Nat.le_of_ble_eq_true rfl), (Nat.le_of_ble_eq_true rfl)⟩ rfl (st := []) rfl (Nat.le_of_ble_eq_true rfl) [0, 1, 2, 3, 4, 5, 6, 7, 8, 9] [] rfl rfl rfl rfl rfl (by decide) [(m, .inr (6, [.ref mt, .int m_tl, .ref md, .int m_dl, .ref mk, .ref ms, .int m_c, .ref mu, .ref mn, .ref mm, .int m_e, .ref mo, .int m_ol, .int m_fa, .int m_f, .ref mw, .int m_p, .int m_is])), (mt, .inl (cI, 6000, .inl m_t)), (md, .inl (cI, 12000, .inl m_d)), (mk, .inl (cI, 61, .inl m_k)), (ms, .inl (cI, 61, .inl m_s)), (mu, .inl (cI, 41, .inl m_u)), (mn, .inl (cJ, 41, .inr (.inl m_n))), (mm, .inl (cI, 41, .inl m_m)), (mo, .inl (cI, 14000, .inl m_o)), (mw, .inl (cI, 61, .inl m_w))] [0, 1, 2, 3, 4, 5, 6, 7, 8, 9] rfl rfl rfl (0) (0) (Nat.le_of_ble_eq_true rfl) (Nat.le_of_ble_eq_true rfl) ⟨(Nat.le_of_ble_eq_true rfl), (Nat.le_of_ble_eq_true rfl)⟩ dX10_scaled_51 ?_
          refine J_istore O (i := 6) (pc := 54) [(6, .int z51), (0, .ref m), (1, .long a1), (3, .int a3), (4, .int a4), (5, .int a5)] (by decide) rfl dX10_scaled_54 ?_
          refine J_iload O (i := 6) (pc := 56) 0 rfl dX10_scaled_56 ?_
          refine J_bipush O (v := (-2)) (pc := 58) (by decide) dX10_scaled_58 ?_
          refine J_icmp_ne O (tgt := 67) (pc := 60) dX10_scaled_60 (by decide) (fun c60 => ?_) (fun c60 => ?_)
          · have hf := jt_f c60 hf
            refine J_aload_n O (i := 0) (k0 := 0) (pc := 67) 1 rfl rfl dX10_scaled_67 ?_
            refine J_aload_n O (i := 0) (k0 := 0) (pc := 68) 1 rfl rfl dX10_scaled_68 ?_
            refine J_get O (pc := 69) in_X10_scaled_X10 0 rfl rfl 9 (by decide) mb_X10_scaled_4 rfl dX10_scaled_69 ?_
            refine J_iload O (i := 6) (pc := 72) 0 rfl dX10_scaled_72 ?_
            obtain ⟨h74, hf⟩ := jt_g hf
            refine J_iald O (pc := 74) 7 1 rfl rfl h74 dX10_scaled_74 ?_
            refine J_iconst O (v := 0) (pc := 75) (by decide) dX10_scaled_75 ?_
            obtain ⟨z76, h76, hf⟩ := jt_b hf
            refine J_callVl O (pc := 76) (c_X10_sizeOf l D cB cI cJ m mt md mk ms mu mn mm mo mw m_tl m_dl m_c m_e m_ol m_fa m_f m_p m_is m_t m_d m_k m_s m_u m_n m_m m_o m_w (m_m (Int32.toNatClampNeg z51)) 0 fu h76) rfl 0 rfl rfl gX10_scaled_X10_sizeOf hdV_X10_sizeOf ⟨(Nat.le_of_ble_eq_true rfl), (Nat.le_of_ble_eq_true rfl)⟩ rfl (st := []) rfl (Nat.le_of_ble_eq_true rfl) [0, 1, 2, 3, 4, 5, 6, 7, 8, 9] [] rfl rfl rfl rfl rfl (by decide) [(m, .inr (6, [.ref mt, .int m_tl, .ref md, .int m_dl, .ref mk, .ref ms, .int m_c, .ref mu, .ref mn, .ref mm, .int m_e, .ref mo, .int m_ol, .int m_fa, .int m_f, .ref mw, .int m_p, .int m_is])), (mt, .inl (cI, 6000, .inl m_t)), (md, .inl (cI, 12000, .inl m_d)), (mk, .inl (cI, 61, .inl m_k)), (ms, .inl (cI, 61, .inl m_s)), (mu, .inl (cI, 41, .inl m_u)), (mn, .inl (cJ, 41, .inr (.inl m_n))), (mm, .inl (cI, 41, .inl m_m)), (mo, .inl (cI, 14000, .inl m_o)), (mw, .inl (cI, 61, .inl m_w))] [0, 1, 2, 3, 4, 5, 6, 7, 8, 9] rfl rfl rfl (0) (0) (Nat.le_of_ble_eq_true rfl) (Nat.le_of_ble_eq_true rfl) ⟨(Nat.le_of_ble_eq_true rfl), (Nat.le_of_ble_eq_true rfl)⟩ dX10_scaled_76 ?_
            refine J_lstore O (i := 7) (pc := 79) [(7, .long z76), (6, .int z51), (0, .ref m), (1, .long a1), (3, .int a3), (4, .int a4), (5, .int a5)] (by decide) rfl dX10_scaled_79 ?_
            refine J_aload_n O (i := 0) (k0 := 0) (pc := 81) 2 rfl rfl dX10_scaled_81 ?_
            refine J_aload_n O (i := 0) (k0 := 0) (pc := 82) 2 rfl rfl dX10_scaled_82 ?_
            refine J_get O (pc := 83) in_X10_scaled_X10 0 rfl rfl 9 (by decide) mb_X10_scaled_4 rfl dX10_scaled_83 ?_
            refine J_iload O (i := 6) (pc := 86) 1 rfl dX10_scaled_86 ?_
            obtain ⟨h88, hf⟩ := jt_g hf
            refine J_iald O (pc := 88) 7 1 rfl rfl h88 dX10_scaled_88 ?_
            refine J_iconst O (v := 1) (pc := 89) (by decide) dX10_scaled_89 ?_
            obtain ⟨z90, h90, hf⟩ := jt_b hf
            refine J_callVl O (pc := 90) (c_X10_sizeOf l D cB cI cJ m mt md mk ms mu mn mm mo mw m_tl m_dl m_c m_e m_ol m_fa m_f m_p m_is m_t m_d m_k m_s m_u m_n m_m m_o m_w (m_m (Int32.toNatClampNeg z51)) 1 fu h90) rfl 0 rfl rfl gX10_scaled_X10_sizeOf hdV_X10_sizeOf ⟨(Nat.le_of_ble_eq_true rfl), (Nat.le_of_ble_eq_true rfl)⟩ rfl (st := []) rfl (Nat.le_of_ble_eq_true rfl) [0, 1, 2, 3, 4, 5, 6, 7, 8, 9] [] rfl rfl rfl rfl rfl (by decide) [(m, .inr (6, [.ref mt, .int m_tl, .ref md, .int m_dl, .ref mk, .ref ms, .int m_c, .ref mu, .ref mn, .ref mm, .int m_e, .ref mo, .int m_ol, .int m_fa, .int m_f, .ref mw, .int m_p, .int m_is])), (mt, .inl (cI, 6000, .inl m_t)), (md, .inl (cI, 12000, .inl m_d)), (mk, .inl (cI, 61, .inl m_k)), (ms, .inl (cI, 61, .inl m_s)), (mu, .inl (cI, 41, .inl m_u)), (mn, .inl (cJ, 41, .inr (.inl m_n))), (mm, .inl (cI, 41, .inl m_m)), (mo, .inl (cI, 14000, .inl m_o)), (mw, .inl (cI, 61, .inl m_w))] [0, 1, 2, 3, 4, 5, 6, 7, 8, 9] rfl rfl rfl (0) (0) (Nat.le_of_ble_eq_true rfl) (Nat.le_of_ble_eq_true rfl) ⟨(Nat.le_of_ble_eq_true rfl), (Nat.le_of_ble_eq_true rfl)⟩ dX10_scaled_90 ?_
            refine J_lstore O (i := 9) (pc := 93) [(9, .long z90), (7, .long z76), (6, .int z51), (0, .ref m), (1, .long a1), (3, .int a3), (4, .int a4), (5, .int a5)] (by decide) rfl dX10_scaled_93 ?_
            refine J_lload O (i := 7) (pc := 95) 1 rfl dX10_scaled_95 ?_
            refine J_lconst O (v := 0) (pc := 97) (by decide) dX10_scaled_97 ?_
            refine J_lif_le O (tgt := 109) (pc := 98) dX10_scaled_98 dX10_scaled_99 (by decide) (fun c98 => ?_) (fun c98 => ?_)
            · have hf := jt_t c98 hf
              refine J_ldc2 O (pc := 109) mb_X10_scaled_5 dX10_scaled_109 ?_
              have e9 := Option.some.inj hf
              subst e9
              exact J_lret O (pc := 112) rfl dX10_scaled_112
            · have hf := jt_f c98 hf
              refine J_lload O (i := 9) (pc := 102) 0 rfl dX10_scaled_102 ?_
              refine J_lconst O (v := 0) (pc := 104) (by decide) dX10_scaled_104 ?_
              refine J_lif_gt O (tgt := 113) (pc := 105) dX10_scaled_105 dX10_scaled_106 (by decide) (fun c105 => ?_) (fun c105 => ?_)
              · have hf := jt_t c105 hf
                refine J_aload_n O (i := 0) (k0 := 0) (pc := 113) 3 rfl rfl dX10_scaled_113 ?_
                refine J_lload_n O (i := 1) (k0 := 1) (pc := 114) 4 rfl rfl dX10_scaled_114 ?_
                obtain ⟨z115, h115, hf⟩ := jt_b hf
                refine J_callVi O (pc := 115) (c_X10_ratiosOf l D cB cI cJ m mt md mk ms mu mn mm mo mw m_tl m_dl m_c m_e m_ol m_fa m_f m_p m_is m_t m_d m_k m_s m_u m_n m_m m_o m_w a1 fu h115) rfl 0 rfl rfl gX10_scaled_X10_ratiosOf hdV_X10_ratiosOf ⟨(Nat.le_of_ble_eq_true rfl), (Nat.le_of_ble_eq_true rfl)⟩ rfl (st := []) rfl (Nat.le_of_ble_eq_true rfl) [0, 1, 2, 3, 4, 5, 6, 7, 8, 9] [] rfl rfl rfl rfl rfl (by decide) [(m, .inr (6, [.ref mt, .int m_tl, .ref md, .int m_dl, .ref mk, .ref ms, .int m_c, .ref mu, .ref mn, .ref mm, .int m_e, .ref mo, .int m_ol, .int m_fa, .int m_f, .ref mw, .int m_p, .int m_is])), (mt, .inl (cI, 6000, .inl m_t)), (md, .inl (cI, 12000, .inl m_d)), (mk, .inl (cI, 61, .inl m_k)), (ms, .inl (cI, 61, .inl m_s)), (mu, .inl (cI, 41, .inl m_u)), (mn, .inl (cJ, 41, .inr (.inl m_n))), (mm, .inl (cI, 41, .inl m_m)), (mo, .inl (cI, 14000, .inl m_o)), (mw, .inl (cI, 61, .inl m_w))] [0, 1, 2, 3, 4, 5, 6, 7, 8, 9] rfl rfl rfl (0) (0) (Nat.le_of_ble_eq_true rfl) (Nat.le_of_ble_eq_true rfl) ⟨(Nat.le_of_ble_eq_true rfl), (Nat.le_of_ble_eq_true rfl)⟩ dX10_scaled_115 ?_
                refine J_istore O (i := 11) (pc := 118) [(11, .int z115), (9, .long z90), (7, .long z76), (6, .int z51), (0, .ref m), (1, .long a1), (3, .int a3), (4, .int a4), (5, .int a5)] (by decide) rfl dX10_scaled_118 ?_
                refine J_iload O (i := 11) (pc := 120) 0 rfl dX10_scaled_120 ?_
                refine J_bipush O (v := (-2)) (pc := 122) (by decide) dX10_scaled_122 ?_
                refine J_icmp_ne O (tgt := 140) (pc := 124) dX10_scaled_124 (by decide) (fun c124 => ?_) (fun c124 => ?_)
                · have hf := jt_f c124 hf
                  refine J_aload_n O (i := 0) (k0 := 0) (pc := 140) 4 rfl rfl dX10_scaled_140 ?_
                  refine J_aload_n O (i := 0) (k0 := 0) (pc := 141) 4 rfl rfl dX10_scaled_141 ?_
                  refine J_ldc O (pc := 142) mb_X10_scaled_6 dX10_scaled_142 ?_
                  refine J_iconst O (v := (-1)) (pc := 144) (by decide) dX10_scaled_144 ?_
                  obtain ⟨z145, h145, hf⟩ := jt_b hf
                  refine J_callVi O (pc := 145) (c_X10_first l D cB cI cJ m mt md mk ms mu mn mm mo mw m_tl m_dl m_c m_e m_ol m_fa m_f m_p m_is m_t m_d m_k m_s m_u m_n m_m m_o m_w 1382380399 (-1) fu h145) rfl 0 rfl rfl gX10_scaled_X10_first hdV_X10_first ⟨(Nat.le_of_ble_eq_true rfl), (Nat.le_of_ble_eq_true rfl)⟩ rfl (st := [.ref m]) rfl (Nat.le_of_ble_eq_true rfl) [0, 1, 2, 3, 4, 5, 6, 7, 8, 9] [] rfl rfl rfl rfl rfl (by decide) [(m, .inr (6, [.ref mt, .int m_tl, .ref md, .int m_dl, .ref mk, .ref ms, .int m_c, .ref mu, .ref mn, .ref mm, .int m_e, .ref mo, .int m_ol, .int m_fa, .int m_f, .ref mw, .int m_p, .int m_is])), (mt, .inl (cI, 6000, .inl m_t)), (md, .inl (cI, 12000, .inl m_d)), (mk, .inl (cI, 61, .inl m_k)), (ms, .inl (cI, 61, .inl m_s)), (mu, .inl (cI, 41, .inl m_u)), (mn, .inl (cJ, 41, .inr (.inl m_n))), (mm, .inl (cI, 41, .inl m_m)), (mo, .inl (cI, 14000, .inl m_o)), (mw, .inl (cI, 61, .inl m_w))] [0, 1, 2, 3, 4, 5, 6, 7, 8, 9] rfl rfl rfl (0) (0) (Nat.le_of_ble_eq_true rfl) (Nat.le_of_ble_eq_true rfl) ⟨(Nat.le_of_ble_eq_true rfl), (Nat.le_of_ble_eq_true rfl)⟩ dX10_scaled_145 ?_
                  obtain ⟨z148, h148, hf⟩ := jt_b hf
                  refine J_callVi O (pc := 148) (c_X10_fromOf l D cB cI cJ m mt md mk ms mu mn mm mo mw m_tl m_dl m_c m_e m_ol m_fa m_f m_p m_is m_t m_d m_k m_s m_u m_n m_m m_o m_w z145 fu h148) rfl 0 rfl rfl gX10_scaled_X10_fromOf hdV_X10_fromOf ⟨(Nat.le_of_ble_eq_true rfl), (Nat.le_of_ble_eq_true rfl)⟩ rfl (st := []) rfl (Nat.le_of_ble_eq_true rfl) [0, 1, 2, 3, 4, 5, 6, 7, 8, 9] [] rfl rfl rfl rfl rfl (by decide) [(m, .inr (6, [.ref mt, .int m_tl, .ref md, .int m_dl, .ref mk, .ref ms, .int m_c, .ref mu, .ref mn, .ref mm, .int m_e, .ref mo, .int m_ol, .int m_fa, .int m_f, .ref mw, .int m_p, .int m_is])), (mt, .inl (cI, 6000, .inl m_t)), (md, .inl (cI, 12000, .inl m_d)), (mk, .inl (cI, 61, .inl m_k)), (ms, .inl (cI, 61, .inl m_s)), (mu, .inl (cI, 41, .inl m_u)), (mn, .inl (cJ, 41, .inr (.inl m_n))), (mm, .inl (cI, 41, .inl m_m)), (mo, .inl (cI, 14000, .inl m_o)), (mw, .inl (cI, 61, .inl m_w))] [0, 1, 2, 3, 4, 5, 6, 7, 8, 9] rfl rfl rfl (0) (0) (Nat.le_of_ble_eq_true rfl) (Nat.le_of_ble_eq_true rfl) ⟨(Nat.le_of_ble_eq_true rfl), (Nat.le_of_ble_eq_true rfl)⟩ dX10_scaled_148 ?_
                  refine J_istore O (i := 12) (pc := 151) [(12, .int z148), (11, .int z115), (9, .long z90), (7, .long z76), (6, .int z51), (0, .ref m), (1, .long a1), (3, .int a3), (4, .int a4), (5, .int a5)] (by decide) rfl dX10_scaled_151 ?_
                  refine J_aload_n O (i := 0) (k0 := 0) (pc := 153) 5 rfl rfl dX10_scaled_153 ?_
                  refine J_get O (pc := 154) in_X10_scaled_X10 0 rfl rfl 2 (by decide) mb_X10_scaled_7 rfl dX10_scaled_154 ?_
                  refine J_iload O (i := 12) (pc := 157) 0 rfl dX10_scaled_157 ?_
                  obtain ⟨z159, h159, hf⟩ := jt_b hf
                  refine J_callSl O (pc := 159) (c_X10_four l D cB cI cJ md 12000 m_d z148 h159) rfl gX10_scaled_X10_four hdS_X10_four ⟨(Nat.le_of_ble_eq_true rfl), (Nat.le_of_ble_eq_true rfl)⟩ rfl (st := []) rfl (Nat.le_of_ble_eq_true rfl) [2] [0, 1, 3, 4, 5, 6, 7, 8, 9] rfl rfl rfl rfl rfl (by decide) [(m, .inr (6, [.ref mt, .int m_tl, .ref md, .int m_dl, .ref mk, .ref ms, .int m_c, .ref mu, .ref mn, .ref mm, .int m_e, .ref mo, .int m_ol, .int m_fa, .int m_f, .ref mw, .int m_p, .int m_is])), (mt, .inl (cI, 6000, .inl m_t)), (md, .inl (cI, 12000, .inl m_d)), (mk, .inl (cI, 61, .inl m_k)), (ms, .inl (cI, 61, .inl m_s)), (mu, .inl (cI, 41, .inl m_u)), (mn, .inl (cJ, 41, .inr (.inl m_n))), (mm, .inl (cI, 41, .inl m_m)), (mo, .inl (cI, 14000, .inl m_o)), (mw, .inl (cI, 61, .inl m_w))] [0, 1, 9, 2, 3, 4, 5, 6, 7, 8] rfl rfl rfl (0) (0) (Nat.le_of_ble_eq_true rfl) (Nat.le_of_ble_eq_true rfl) ⟨(Nat.le_of_ble_eq_true rfl), (Nat.le_of_ble_eq_true rfl)⟩ dX10_scaled_159 ?_
                  refine J_lstore O (i := 13) (pc := 162) [(13, .long z159), (12, .int z148), (11, .int z115), (9, .long z90), (7, .long z76), (6, .int z51), (0, .ref m), (1, .long a1), (3, .int a3), (4, .int a4), (5, .int a5)] (by decide) rfl dX10_scaled_162 ?_
                  refine J_aload_n O (i := 0) (k0 := 0) (pc := 164) 6 rfl rfl dX10_scaled_164 ?_
                  refine J_get O (pc := 165) in_X10_scaled_X10 0 rfl rfl 2 (by decide) mb_X10_scaled_7 rfl dX10_scaled_165 ?_
                  refine J_iload O (i := 12) (pc := 168) 1 rfl dX10_scaled_168 ?_
                  refine J_iconst O (v := 4) (pc := 170) (by decide) dX10_scaled_170 ?_
                  refine J_iadd O (pc := 171) dX10_scaled_171 ?_
                  obtain ⟨z172, h172, hf⟩ := jt_b hf
                  refine J_callSl O (pc := 172) (c_X10_four l D cB cI cJ md 12000 m_d (z148 + 4) h172) rfl gX10_scaled_X10_four hdS_X10_four ⟨(Nat.le_of_ble_eq_true rfl), (Nat.le_of_ble_eq_true rfl)⟩ rfl (st := []) rfl (Nat.le_of_ble_eq_true rfl) [2] [0, 1, 3, 4, 5, 6, 7, 8, 9] rfl rfl rfl rfl rfl (by decide) [(m, .inr (6, [.ref mt, .int m_tl, .ref md, .int m_dl, .ref mk, .ref ms, .int m_c, .ref mu, .ref mn, .ref mm, .int m_e, .ref mo, .int m_ol, .int m_fa, .int m_f, .ref mw, .int m_p, .int m_is])), (mt, .inl (cI, 6000, .inl m_t)), (md, .inl (cI, 12000, .inl m_d)), (mk, .inl (cI, 61, .inl m_k)), (ms, .inl (cI, 61, .inl m_s)), (mu, .inl (cI, 41, .inl m_u)), (mn, .inl (cJ, 41, .inr (.inl m_n))), (mm, .inl (cI, 41, .inl m_m)), (mo, .inl (cI, 14000, .inl m_o)), (mw, .inl (cI, 61, .inl m_w))] [0, 1, 9, 2, 3, 4, 5, 6, 7, 8] rfl rfl rfl (0) (0) (Nat.le_of_ble_eq_true rfl) (Nat.le_of_ble_eq_true rfl) ⟨(Nat.le_of_ble_eq_true rfl), (Nat.le_of_ble_eq_true rfl)⟩ dX10_scaled_172 ?_
                  refine J_lstore O (i := 15) (pc := 175) [(15, .long z172), (13, .long z159), (12, .int z148), (11, .int z115), (9, .long z90), (7, .long z76), (6, .int z51), (0, .ref m), (1, .long a1), (3, .int a3), (4, .int a4), (5, .int a5)] (by decide) rfl dX10_scaled_175 ?_
                  refine J_lload O (i := 13) (pc := 177) 1 rfl dX10_scaled_177 ?_
                  refine J_lconst O (v := 1) (pc := 179) (by decide) dX10_scaled_179 ?_
                  refine J_ldc2 O (pc := 180) mb_X10_scaled_1 dX10_scaled_180 ?_
                  obtain ⟨z183, h183, hf⟩ := jt_b hf
                  refine J_callSi O (pc := 183) (c_X10_in l D cB cI cJ z159 1 65535 h183) rfl gX10_scaled_X10_in hdS_X10_in ⟨(Nat.le_of_ble_eq_true rfl), (Nat.le_of_ble_eq_true rfl)⟩ rfl (st := []) rfl (Nat.le_of_ble_eq_true rfl) [] [0, 1, 2, 3, 4, 5, 6, 7, 8, 9] rfl rfl rfl rfl rfl (by decide) [(m, .inr (6, [.ref mt, .int m_tl, .ref md, .int m_dl, .ref mk, .ref ms, .int m_c, .ref mu, .ref mn, .ref mm, .int m_e, .ref mo, .int m_ol, .int m_fa, .int m_f, .ref mw, .int m_p, .int m_is])), (mt, .inl (cI, 6000, .inl m_t)), (md, .inl (cI, 12000, .inl m_d)), (mk, .inl (cI, 61, .inl m_k)), (ms, .inl (cI, 61, .inl m_s)), (mu, .inl (cI, 41, .inl m_u)), (mn, .inl (cJ, 41, .inr (.inl m_n))), (mm, .inl (cI, 41, .inl m_m)), (mo, .inl (cI, 14000, .inl m_o)), (mw, .inl (cI, 61, .inl m_w))] [0, 1, 2, 3, 4, 5, 6, 7, 8, 9] rfl rfl rfl (0) (0) (Nat.le_of_ble_eq_true rfl) (Nat.le_of_ble_eq_true rfl) ⟨(Nat.le_of_ble_eq_true rfl), (Nat.le_of_ble_eq_true rfl)⟩ dX10_scaled_183 ?_
                  refine J_zeq O (tgt := 223) (pc := 186) dX10_scaled_186 (by decide) (fun c186 => ?_) (fun c186 => ?_)
                  · have hf := jt_f c186 hf
                    refine J_iconst O (v := 0) (pc := 223) (by decide) dX10_scaled_223 ?_
                    refine J_istore O (i := 17) (pc := 224) [(17, .int 0), (15, .long z172), (13, .long z159), (12, .int z148), (11, .int z115), (9, .long z90), (7, .long z76), (6, .int z51), (0, .ref m), (1, .long a1), (3, .int a3), (4, .int a4), (5, .int a5)] (by decide) rfl dX10_scaled_224 ?_
                    refine J_iconst O (v := 0) (pc := 226) (by decide) dX10_scaled_226 ?_
                    refine J_istore O (i := 18) (pc := 227) [(18, .int 0), (17, .int 0), (15, .long z172), (13, .long z159), (12, .int z148), (11, .int z115), (9, .long z90), (7, .long z76), (6, .int z51), (0, .ref m), (1, .long a1), (3, .int a3), (4, .int a4), (5, .int a5)] (by decide) rfl dX10_scaled_227 ?_
                    refine J_sub [9, 11, 12, 13, 7, 6, 5, 3, 2, 1, 0] (lv' := [(0, .ref m), (3, .int a3), (4, .int a4), (5, .int a5), (7, .long z76), (9, .long z90), (11, .int z115), (13, .long z159), (15, .long z172), (17, .int 0), (18, .int 0)]) rfl ?_
                    exact wk_X10_scaled_229 O m mt md mk ms mu mn mm mo mw m_tl m_dl m_c m_e m_ol m_fa m_f m_p m_is m_t m_d m_k m_s m_u m_n m_m m_o m_w a1 a3 a4 a5 fu fu z76 z90 z115 z159 z172 0 0 hf
                  · have hf := jt_t c186 hf
                    refine J_lload O (i := 15) (pc := 189) 0 rfl dX10_scaled_189 ?_
                    refine J_lconst O (v := 1) (pc := 191) (by decide) dX10_scaled_191 ?_
                    refine J_ldc2 O (pc := 192) mb_X10_scaled_1 dX10_scaled_192 ?_
                    obtain ⟨z195, h195, hf⟩ := jt_b hf
                    refine J_callSi O (pc := 195) (c_X10_in l D cB cI cJ z172 1 65535 h195) rfl gX10_scaled_X10_in hdS_X10_in ⟨(Nat.le_of_ble_eq_true rfl), (Nat.le_of_ble_eq_true rfl)⟩ rfl (st := []) rfl (Nat.le_of_ble_eq_true rfl) [] [0, 1, 2, 3, 4, 5, 6, 7, 8, 9] rfl rfl rfl rfl rfl (by decide) [(m, .inr (6, [.ref mt, .int m_tl, .ref md, .int m_dl, .ref mk, .ref ms, .int m_c, .ref mu, .ref mn, .ref mm, .int m_e, .ref mo, .int m_ol, .int m_fa, .int m_f, .ref mw, .int m_p, .int m_is])), (mt, .inl (cI, 6000, .inl m_t)), (md, .inl (cI, 12000, .inl m_d)), (mk, .inl (cI, 61, .inl m_k)), (ms, .inl (cI, 61, .inl m_s)), (mu, .inl (cI, 41, .inl m_u)), (mn, .inl (cJ, 41, .inr (.inl m_n))), (mm, .inl (cI, 41, .inl m_m)), (mo, .inl (cI, 14000, .inl m_o)), (mw, .inl (cI, 61, .inl m_w))] [0, 1, 2, 3, 4, 5, 6, 7, 8, 9] rfl rfl rfl (0) (0) (Nat.le_of_ble_eq_true rfl) (Nat.le_of_ble_eq_true rfl) ⟨(Nat.le_of_ble_eq_true rfl), (Nat.le_of_ble_eq_true rfl)⟩ dX10_scaled_195 ?_
                    refine J_zeq O (tgt := 223) (pc := 198) dX10_scaled_198 (by decide) (fun c198 => ?_) (fun c198 => ?_)
                    · have hf := jt_f c198 hf
                      refine J_iconst O (v := 0) (pc := 223) (by decide) dX10_scaled_223 ?_
                      refine J_istore O (i := 17) (pc := 224) [(17, .int 0), (15, .long z172), (13, .long z159), (12, .int z148), (11, .int z115), (9, .long z90), (7, .long z76), (6, .int z51), (0, .ref m), (1, .long a1), (3, .int a3), (4, .int a4), (5, .int a5)] (by decide) rfl dX10_scaled_224 ?_
                      refine J_iconst O (v := 0) (pc := 226) (by decide) dX10_scaled_226 ?_
                      refine J_istore O (i := 18) (pc := 227) [(18, .int 0), (17, .int 0), (15, .long z172), (13, .long z159), (12, .int z148), (11, .int z115), (9, .long z90), (7, .long z76), (6, .int z51), (0, .ref m), (1, .long a1), (3, .int a3), (4, .int a4), (5, .int a5)] (by decide) rfl dX10_scaled_227 ?_
                      refine J_sub [9, 11, 12, 13, 7, 6, 5, 3, 2, 1, 0] (lv' := [(0, .ref m), (3, .int a3), (4, .int a4), (5, .int a5), (7, .long z76), (9, .long z90), (11, .int z115), (13, .long z159), (15, .long z172), (17, .int 0), (18, .int 0)]) rfl ?_
                      exact wk_X10_scaled_229 O m mt md mk ms mu mn mm mo mw m_tl m_dl m_c m_e m_ol m_fa m_f m_p m_is m_t m_d m_k m_s m_u m_n m_m m_o m_w a1 a3 a4 a5 fu fu z76 z90 z115 z159 z172 0 0 hf
                    · have hf := jt_t c198 hf
                      refine J_lload O (i := 7) (pc := 201) 5 rfl dX10_scaled_201 ?_
                      refine J_ldc2 O (pc := 203) mb_X10_scaled_1 dX10_scaled_203 ?_
                      refine J_lif_gt O (tgt := 223) (pc := 206) dX10_scaled_206 dX10_scaled_207 (by decide) (fun c206 => ?_) (fun c206 => ?_)
                      · have hf := jt_t c206 hf
                        refine J_iconst O (v := 0) (pc := 223) (by decide) dX10_scaled_223 ?_
                        refine J_istore O (i := 17) (pc := 224) [(17, .int 0), (15, .long z172), (13, .long z159), (12, .int z148), (11, .int z115), (9, .long z90), (7, .long z76), (6, .int z51), (0, .ref m), (1, .long a1), (3, .int a3), (4, .int a4), (5, .int a5)] (by decide) rfl dX10_scaled_224 ?_
                        refine J_iconst O (v := 0) (pc := 226) (by decide) dX10_scaled_226 ?_
                        refine J_istore O (i := 18) (pc := 227) [(18, .int 0), (17, .int 0), (15, .long z172), (13, .long z159), (12, .int z148), (11, .int z115), (9, .long z90), (7, .long z76), (6, .int z51), (0, .ref m), (1, .long a1), (3, .int a3), (4, .int a4), (5, .int a5)] (by decide) rfl dX10_scaled_227 ?_
                        refine J_sub [9, 11, 12, 13, 7, 6, 5, 3, 2, 1, 0] (lv' := [(0, .ref m), (3, .int a3), (4, .int a4), (5, .int a5), (7, .long z76), (9, .long z90), (11, .int z115), (13, .long z159), (15, .long z172), (17, .int 0), (18, .int 0)]) rfl ?_
                        exact wk_X10_scaled_229 O m mt md mk ms mu mn mm mo mw m_tl m_dl m_c m_e m_ol m_fa m_f m_p m_is m_t m_d m_k m_s m_u m_n m_m m_o m_w a1 a3 a4 a5 fu fu z76 z90 z115 z159 z172 0 0 hf
                      · have hf := jt_f c206 hf
                        refine J_lload O (i := 9) (pc := 210) 4 rfl dX10_scaled_210 ?_
                        refine J_ldc2 O (pc := 212) mb_X10_scaled_1 dX10_scaled_212 ?_
                        refine J_lif_gt O (tgt := 223) (pc := 215) dX10_scaled_215 dX10_scaled_216 (by decide) (fun c215 => ?_) (fun c215 => ?_)
                        · have hf := jt_t c215 hf
                          refine J_iconst O (v := 0) (pc := 223) (by decide) dX10_scaled_223 ?_
                          refine J_istore O (i := 17) (pc := 224) [(17, .int 0), (15, .long z172), (13, .long z159), (12, .int z148), (11, .int z115), (9, .long z90), (7, .long z76), (6, .int z51), (0, .ref m), (1, .long a1), (3, .int a3), (4, .int a4), (5, .int a5)] (by decide) rfl dX10_scaled_224 ?_
                          refine J_iconst O (v := 0) (pc := 226) (by decide) dX10_scaled_226 ?_
                          refine J_istore O (i := 18) (pc := 227) [(18, .int 0), (17, .int 0), (15, .long z172), (13, .long z159), (12, .int z148), (11, .int z115), (9, .long z90), (7, .long z76), (6, .int z51), (0, .ref m), (1, .long a1), (3, .int a3), (4, .int a4), (5, .int a5)] (by decide) rfl dX10_scaled_227 ?_
                          refine J_sub [9, 11, 12, 13, 7, 6, 5, 3, 2, 1, 0] (lv' := [(0, .ref m), (3, .int a3), (4, .int a4), (5, .int a5), (7, .long z76), (9, .long z90), (11, .int z115), (13, .long z159), (15, .long z172), (17, .int 0), (18, .int 0)]) rfl ?_
                          exact wk_X10_scaled_229 O m mt md mk ms mu mn mm mo mw m_tl m_dl m_c m_e m_ol m_fa m_f m_p m_is m_t m_d m_k m_s m_u m_n m_m m_o m_w a1 a3 a4 a5 fu fu z76 z90 z115 z159 z172 0 0 hf
                        · have hf := jt_f c215 hf
                          refine J_iconst O (v := 1) (pc := 219) (by decide) dX10_scaled_219 ?_
                          refine J_goto O (tgt := 224) (pc := 220) dX10_scaled_220 (by decide) ?_
                          refine J_istore O (i := 17) (pc := 224) [(17, .int 1), (15, .long z172), (13, .long z159), (12, .int z148), (11, .int z115), (9, .long z90), (7, .long z76), (6, .int z51), (0, .ref m), (1, .long a1), (3, .int a3), (4, .int a4), (5, .int a5)] (by decide) rfl dX10_scaled_224 ?_
                          refine J_iconst O (v := 0) (pc := 226) (by decide) dX10_scaled_226 ?_
                          refine J_istore O (i := 18) (pc := 227) [(18, .int 0), (17, .int 1), (15, .long z172), (13, .long z159), (12, .int z148), (11, .int z115), (9, .long z90), (7, .long z76), (6, .int z51), (0, .ref m), (1, .long a1), (3, .int a3), (4, .int a4), (5, .int a5)] (by decide) rfl dX10_scaled_227 ?_
                          refine J_sub [9, 11, 12, 13, 7, 6, 5, 3, 2, 1, 0] (lv' := [(0, .ref m), (3, .int a3), (4, .int a4), (5, .int a5), (7, .long z76), (9, .long z90), (11, .int z115), (13, .long z159), (15, .long z172), (17, .int 1), (18, .int 0)]) rfl ?_
                          exact wk_X10_scaled_229 O m mt md mk ms mu mn mm mo mw m_tl m_dl m_c m_e m_ol m_fa m_f m_p m_is m_t m_d m_k m_s m_u m_n m_m m_o m_w a1 a3 a4 a5 fu fu z76 z90 z115 z159 z172 1 0 hf
                · have hf := jt_t c124 hf
                  refine J_iload O (i := 5) (pc := 127) 8 rfl dX10_scaled_127 ?_
                  refine J_if_ne O (tgt := 137) (pc := 129) dX10_scaled_129 (by decide) (fun c129 => ?_) (fun c129 => ?_)
                  · have hf := jt_f c129 hf
                    refine J_lload O (i := 9) (pc := 137) 1 rfl dX10_scaled_137 ?_
                    have e9 := Option.some.inj hf
                    subst e9
                    exact J_lret O (pc := 139) rfl dX10_scaled_139
                  · have hf := jt_t c129 hf
                    refine J_lload O (i := 7) (pc := 132) 2 rfl dX10_scaled_132 ?_
                    refine J_goto O (tgt := 139) (pc := 134) dX10_scaled_134 (by decide) ?_
                    have e9 := Option.some.inj hf
                    subst e9
                    exact J_lret O (pc := 139) rfl dX10_scaled_139
              · have hf := jt_f c105 hf
                refine J_ldc2 O (pc := 109) mb_X10_scaled_5 dX10_scaled_109 ?_
                have e9 := Option.some.inj hf
                subst e9
                exact J_lret O (pc := 112) rfl dX10_scaled_112
          · have hf := jt_t c60 hf
            refine J_ldc2 O (pc := 63) mb_X10_scaled_5 dX10_scaled_63 ?_
            have e9 := Option.some.inj hf
            subst e9
            exact J_lret O (pc := 66) rfl dX10_scaled_66
        · have hf := jt_f c40 hf
          refine J_ldc2 O (pc := 43) mb_X10_scaled_0 dX10_scaled_43 ?_
          have e9 := Option.some.inj hf
          subst e9
          exact J_lret O (pc := 46) rfl dX10_scaled_46
