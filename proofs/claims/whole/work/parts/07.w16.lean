theorem mb_X10_jpeg_0 : Cond.constantLong RX10 164 (-2) ∈ wsX10_jpeg := by decide +kernel
theorem in_X10_jpeg_X10 : ∀ w ∈ u_ws RX10 TX10 18, w ∈ wsX10_jpeg := fun _ h => List.mem_cons_of_mem _ (List.mem_append_right _ h)
theorem mb_X10_jpeg_2 : Cond.fieldLink RX10 13 (TX10 2).1 (TX10 2).2.1 (TX10 2).2.2.1 ∈ wsX10_jpeg := by decide +kernel
theorem mb_X10_jpeg_3 : Cond.constantLong RX10 166 208 ∈ wsX10_jpeg := by decide +kernel
theorem mb_X10_jpeg_4 : Cond.constantLong RX10 168 215 ∈ wsX10_jpeg := by decide +kernel
theorem mb_X10_jpeg_5 : Cond.constantLong RX10 173 192 ∈ wsX10_jpeg := by decide +kernel
theorem mb_X10_jpeg_6 : Cond.constantLong RX10 175 207 ∈ wsX10_jpeg := by decide +kernel
theorem hdS_X10_two : yX10_two.cls ≠ "java/lang/invoke/MethodHandle" ∧ yX10_two.cls ≠ "java/lang/invoke/VarHandle" ∧ (parseMethodDescriptor yX10_two.desc).map (fun d => d.parameters.length) = some 2 := by decide +kernel
abbrev rmX10_jpeg : Room := { frames := 1, cells := 0, slots := 0, locals := 25 }
set_option maxHeartbeats 4000000 in
set_option maxRecDepth 100000 in
theorem wk_X10_jpeg_179 {X : JC} {l : Launch} {D : va_G} {cB cI cJ : ClassId} (O : Jo X (l, D, cB, cI, cJ) cX10_jpeg 7 RX10 wsX10_jpeg rmX10_jpeg (some .long)) (m mt md mk ms mu mn mm mo mw : Nat) (m_tl : Int32) (m_dl : Int32) (m_c : Int32) (m_e : Int32) (m_ol : Int32) (m_fa : Int32) (m_f : Int32) (m_p : Int32) (m_is : Int32) (m_t : Nat → Int32) (m_d : Nat → Int32) (m_k : Nat → Int32) (m_s : Nat → Int32) (m_u : Nat → Int32) (m_n : Nat → Int64) (m_m : Nat → Int32) (m_o : Nat → Int32) (m_w : Nat → Int32) (a1 : Int32) (a2 : Int32) (a3 : Int32) (fu : Nat) {z : Int64} (k38 : Int32 → Option (Int64)) (hk38 : ∀ (v4 : Int32), k38 v4 = some z → J X 7 (JQl X [(m, .inr (6, [.ref mt, .int m_tl, .ref md, .int m_dl, .ref mk, .ref ms, .int m_c, .ref mu, .ref mn, .ref mm, .int m_e, .ref mo, .int m_ol, .int m_fa, .int m_f, .ref mw, .int m_p, .int m_is])), (mt, .inl (cI, 6000, .inl m_t)), (md, .inl (cI, 12000, .inl m_d)), (mk, .inl (cI, 61, .inl m_k)), (ms, .inl (cI, 61, .inl m_s)), (mu, .inl (cI, 41, .inl m_u)), (mn, .inl (cJ, 41, .inr (.inl m_n))), (mm, .inl (cI, 41, .inl m_m)), (mo, .inl (cI, 14000, .inl m_o)), (mw, .inl (cI, 61, .inl m_w))] z 0 0) [(m, .inr (6, [.ref mt, .int m_tl, .ref md, .int m_dl, .ref mk, .ref ms, .int m_c, .ref mu, .ref mn, .ref mm, .int m_e, .ref mo, .int m_ol, .int m_fa, .int m_f, .ref mw, .int m_p, .int m_is])), (mt, .inl (cI, 6000, .inl m_t)), (md, .inl (cI, 12000, .inl m_d)), (mk, .inl (cI, 61, .inl m_k)), (ms, .inl (cI, 61, .inl m_s)), (mu, .inl (cI, 41, .inl m_u)), (mn, .inl (cJ, 41, .inr (.inl m_n))), (mm, .inl (cI, 41, .inl m_m)), (mo, .inl (cI, 14000, .inl m_o)), (mw, .inl (cI, 61, .inl m_w))] 0 0 38 [(0, .ref m), (1, .int a1), (2, .int a2), (3, .int a3), (4, .int v4)] []) (v4 : Int32) (v5 : Int32) (s0 : Int32) (hf : p_X10_jpeg_179 fu m_d a1 a2 a3 k38 v4 v5 s0 = some z) : J X 7 (JQl X [(m, .inr (6, [.ref mt, .int m_tl, .ref md, .int m_dl, .ref mk, .ref ms, .int m_c, .ref mu, .ref mn, .ref mm, .int m_e, .ref mo, .int m_ol, .int m_fa, .int m_f, .ref mw, .int m_p, .int m_is])), (mt, .inl (cI, 6000, .inl m_t)), (md, .inl (cI, 12000, .inl m_d)), (mk, .inl (cI, 61, .inl m_k)), (ms, .inl (cI, 61, .inl m_s)), (mu, .inl (cI, 41, .inl m_u)), (mn, .inl (cJ, 41, .inr (.inl m_n))), (mm, .inl (cI, 41, .inl m_m)), (mo, .inl (cI, 14000, .inl m_o)), (mw, .inl (cI, 61, .inl m_w))] z 0 0) [(m, .inr (6, [.ref mt, .int m_tl, .ref md, .int m_dl, .ref mk, .ref ms, .int m_c, .ref mu, .ref mn, .ref mm, .int m_e, .ref mo, .int m_ol, .int m_fa, .int m_f, .ref mw, .int m_p, .int m_is])), (mt, .inl (cI, 6000, .inl m_t)), (md, .inl (cI, 12000, .inl m_d)), (mk, .inl (cI, 61, .inl m_k)), (ms, .inl (cI, 61, .inl m_s)), (mu, .inl (cI, 41, .inl m_u)), (mn, .inl (cJ, 41, .inr (.inl m_n))), (mm, .inl (cI, 41, .inl m_m)), (mo, .inl (cI, 14000, .inl m_o)), (mw, .inl (cI, 61, .inl m_w))] 0 0 179 [(0, .ref m), (1, .int a1), (2, .int a2), (3, .int a3), (4, .int v4), (5, .int v5)] [.int s0] := by
  rw [p_X10_jpeg_179] at hf
  refine J_istore O (i := 6) (pc := 179) [(6, .int s0), (0, .ref m), (1, .int a1), (2, .int a2), (3, .int a3), (4, .int v4), (5, .int v5)] (by decide) rfl dX10_jpeg_179 ?_
  refine J_iload O (i := 6) (pc := 181) 0 rfl dX10_jpeg_181 ?_
  refine J_iconst O (v := 2) (pc := 183) (by decide) dX10_jpeg_183 ?_
  refine J_icmp_ge O (tgt := 191) (pc := 184) dX10_jpeg_184 (by decide) (fun c184 => ?_) (fun c184 => ?_)
  · have hf := jt_t c184 hf
    refine J_iload O (i := 5) (pc := 191) 6 rfl dX10_jpeg_191 ?_
    refine J_i2l O (pc := 193) dX10_jpeg_193 ?_
    refine J_ldc2 O (pc := 194) mb_X10_jpeg_5 dX10_jpeg_194 ?_
    refine J_ldc2 O (pc := 197) mb_X10_jpeg_6 dX10_jpeg_197 ?_
    obtain ⟨z200, h200, hf⟩ := jt_b hf
    refine J_callSi O (pc := 200) (c_X10_in l D cB cI cJ (Int32.toInt64 v5) 192 207 h200) rfl gX10_jpeg_X10_in hdS_X10_in ⟨(Nat.le_of_ble_eq_true rfl), (Nat.le_of_ble_eq_true rfl)⟩ rfl (st := []) rfl (Nat.le_of_ble_eq_true rfl) [] [0, 1, 2, 3, 4, 5, 6, 7, 8, 9] rfl rfl rfl rfl rfl (by decide) [(m, .inr (6, [.ref mt, .int m_tl, .ref md, .int m_dl, .ref mk, .ref ms, .int m_c, .ref mu, .ref mn, .ref mm, .int m_e, .ref mo, .int m_ol, .int m_fa, .int m_f, .ref mw, .int m_p, .int m_is])), (mt, .inl (cI, 6000, .inl m_t)), (md, .inl (cI, 12000, .inl m_d)), (mk, .inl (cI, 61, .inl m_k)), (ms, .inl (cI, 61, .inl m_s)), (mu, .inl (cI, 41, .inl m_u)), (mn, .inl (cJ, 41, .inr (.inl m_n))), (mm, .inl (cI, 41, .inl m_m)), (mo, .inl (cI, 14000, .inl m_o)), (mw, .inl (cI, 61, .inl m_w))] [0, 1, 2, 3, 4, 5, 6, 7, 8, 9] rfl rfl rfl (0) (0) (Nat.le_of_ble_eq_true rfl) (Nat.le_of_ble_eq_true rfl) ⟨(Nat.le_of_ble_eq_true rfl), (Nat.le_of_ble_eq_true rfl)⟩ dX10_jpeg_200 ?_
    refine J_zeq O (tgt := 275) (pc := 203) dX10_jpeg_203 (by decide) (fun c203 => ?_) (fun c203 => ?_)
    · have hf := jt_f c203 hf
      refine J_iload O (i := 4) (pc := 275) 5 rfl dX10_jpeg_275 ?_
      refine J_iload O (i := 6) (pc := 277) 0 rfl dX10_jpeg_277 ?_
      refine J_iadd O (pc := 279) dX10_jpeg_279 ?_
      refine J_istore O (i := 4) (pc := 280) [(4, .int (v4 + s0)), (6, .int s0), (0, .ref m), (1, .int a1), (2, .int a2), (3, .int a3), (5, .int v5)] (by decide) rfl dX10_jpeg_280 ?_
      refine J_goto O (tgt := 38) (pc := 282) dX10_jpeg_282 (by decide) ?_
      refine J_sub [2, 3, 4, 5, 0] (lv' := [(0, .ref m), (1, .int a1), (2, .int a2), (3, .int a3), (4, .int (v4 + s0))]) rfl ?_
      exact hk38 (v4 + s0) hf
    · have hf := jt_t c203 hf
      refine J_iload O (i := 5) (pc := 206) 6 rfl dX10_jpeg_206 ?_
      refine J_sipush O (v := 196) (pc := 208) (by decide) dX10_jpeg_208 ?_
      refine J_icmp_eq O (tgt := 275) (pc := 211) dX10_jpeg_211 (by decide) (fun c211 => ?_) (fun c211 => ?_)
      · have hf := jt_t c211 hf
        refine J_iload O (i := 4) (pc := 275) 5 rfl dX10_jpeg_275 ?_
        refine J_iload O (i := 6) (pc := 277) 0 rfl dX10_jpeg_277 ?_
        refine J_iadd O (pc := 279) dX10_jpeg_279 ?_
        refine J_istore O (i := 4) (pc := 280) [(4, .int (v4 + s0)), (6, .int s0), (0, .ref m), (1, .int a1), (2, .int a2), (3, .int a3), (5, .int v5)] (by decide) rfl dX10_jpeg_280 ?_
        refine J_goto O (tgt := 38) (pc := 282) dX10_jpeg_282 (by decide) ?_
        refine J_sub [2, 3, 4, 5, 0] (lv' := [(0, .ref m), (1, .int a1), (2, .int a2), (3, .int a3), (4, .int (v4 + s0))]) rfl ?_
        exact hk38 (v4 + s0) hf
      · have hf := jt_f c211 hf
        refine J_iload O (i := 5) (pc := 214) 6 rfl dX10_jpeg_214 ?_
        refine J_sipush O (v := 200) (pc := 216) (by decide) dX10_jpeg_216 ?_
        refine J_icmp_eq O (tgt := 275) (pc := 219) dX10_jpeg_219 (by decide) (fun c219 => ?_) (fun c219 => ?_)
        · have hf := jt_t c219 hf
          refine J_iload O (i := 4) (pc := 275) 5 rfl dX10_jpeg_275 ?_
          refine J_iload O (i := 6) (pc := 277) 0 rfl dX10_jpeg_277 ?_
          refine J_iadd O (pc := 279) dX10_jpeg_279 ?_
          refine J_istore O (i := 4) (pc := 280) [(4, .int (v4 + s0)), (6, .int s0), (0, .ref m), (1, .int a1), (2, .int a2), (3, .int a3), (5, .int v5)] (by decide) rfl dX10_jpeg_280 ?_
          refine J_goto O (tgt := 38) (pc := 282) dX10_jpeg_282 (by decide) ?_
          refine J_sub [2, 3, 4, 5, 0] (lv' := [(0, .ref m), (1, .int a1), (2, .int a2), (3, .int a3), (4, .int (v4 + s0))]) rfl ?_
          exact hk38 (v4 + s0) hf
        · have hf := jt_f c219 hf
          refine J_iload O (i := 5) (pc := 222) 6 rfl dX10_jpeg_222 ?_
          refine J_sipush O (v := 204) (pc := 224) (by decide) dX10_jpeg_224 ?_
          refine J_icmp_eq O (tgt := 275) (pc := 227) dX10_jpeg_227 (by decide) (fun c227 => ?_) (fun c227 => ?_)
          · have hf := jt_t c227 hf
            refine J_iload O (i := 4) (pc := 275) 5 rfl dX10_jpeg_275 ?_
            refine J_iload O (i := 6) (pc := 277) 0 rfl dX10_jpeg_277 ?_
            refine J_iadd O (pc := 279) dX10_jpeg_279 ?_
            refine J_istore O (i := 4) (pc := 280) [(4, .int (v4 + s0)), (6, .int s0), (0, .ref m), (1, .int a1), (2, .int a2), (3, .int a3), (5, .int v5)] (by decide) rfl dX10_jpeg_280 ?_
            refine J_goto O (tgt := 38) (pc := 282) dX10_jpeg_282 (by decide) ?_
            refine J_sub [2, 3, 4, 5, 0] (lv' := [(0, .ref m), (1, .int a1), (2, .int a2), (3, .int a3), (4, .int (v4 + s0))]) rfl ?_
            exact hk38 (v4 + s0) hf
          · have hf := jt_f c227 hf
            refine J_iload O (i := 6) (pc := 230) 0 rfl dX10_jpeg_230 ?_
            refine J_bipush O (v := 7) (pc := 232) (by decide) dX10_jpeg_232 ?_
            refine J_icmp_lt O (tgt := 271) (pc := 234) dX10_jpeg_234 (by decide) (fun c234 => ?_) (fun c234 => ?_)
            · have hf := jt_t c234 hf
              refine J_ldc2 O (pc := 271) mb_X10_jpeg_0 dX10_jpeg_271 ?_
              have e9 := Option.some.inj hf
              subst e9
              exact J_lret O (pc := 274) rfl dX10_jpeg_274
            · have hf := jt_f c234 hf
              refine J_iload O (i := 4) (pc := 237) 5 rfl dX10_jpeg_237 ?_
              refine J_bipush O (v := 7) (pc := 239) (by decide) dX10_jpeg_239 ?_
              refine J_iadd O (pc := 241) dX10_jpeg_241 ?_
              refine J_iload_n O (i := 2) (k0 := 2) (pc := 242) 3 rfl rfl dX10_jpeg_242 ?_
              refine J_icmp_gt O (tgt := 271) (pc := 243) dX10_jpeg_243 (by decide) (fun c243 => ?_) (fun c243 => ?_)
              · have hf := jt_t c243 hf
                refine J_ldc2 O (pc := 271) mb_X10_jpeg_0 dX10_jpeg_271 ?_
                have e9 := Option.some.inj hf
                subst e9
                exact J_lret O (pc := 274) rfl dX10_jpeg_274
              · have hf := jt_f c243 hf
                refine J_aload_n O (i := 0) (k0 := 0) (pc := 246) 1 rfl rfl dX10_jpeg_246 ?_
                refine J_get O (pc := 247) in_X10_jpeg_X10 0 rfl rfl 2 (by decide) mb_X10_jpeg_2 rfl dX10_jpeg_247 ?_
                refine J_iload_n O (i := 1) (k0 := 1) (pc := 250) 2 rfl rfl dX10_jpeg_250 ?_
                refine J_iload O (i := 4) (pc := 251) 5 rfl dX10_jpeg_251 ?_
                refine J_iadd O (pc := 253) dX10_jpeg_253 ?_
                refine J_iload_n O (i := 3) (k0 := 3) (pc := 254) 4 rfl rfl dX10_jpeg_254 ?_
                refine J_if_ne O (tgt := 262) (pc := 255) dX10_jpeg_255 (by decide) (fun c255 => ?_) (fun c255 => ?_)
                · have hf := jt_f c255 hf
                  refine J_iconst O (v := 3) (pc := 262) (by decide) dX10_jpeg_262 ?_
                  refine J_iadd O (pc := 263) dX10_jpeg_263 ?_
                  obtain ⟨z264, h264, hf⟩ := jt_b hf
                  refine J_callSi O (pc := 264) (c_X10_two l D cB cI cJ md 12000 m_d ((a1 + v4) + 3) h264) rfl gX10_jpeg_X10_two hdS_X10_two ⟨(Nat.le_of_ble_eq_true rfl), (Nat.le_of_ble_eq_true rfl)⟩ rfl (st := []) rfl (Nat.le_of_ble_eq_true rfl) [2] [0, 1, 3, 4, 5, 6, 7, 8, 9] rfl rfl rfl rfl rfl (by decide) [(m, .inr (6, [.ref mt, .int m_tl, .ref md, .int m_dl, .ref mk, .ref ms, .int m_c, .ref mu, .ref mn, .ref mm, .int m_e, .ref mo, .int m_ol, .int m_fa, .int m_f, .ref mw, .int m_p, .int m_is])), (mt, .inl (cI, 6000, .inl m_t)), (md, .inl (cI, 12000, .inl m_d)), (mk, .inl (cI, 61, .inl m_k)), (ms, .inl (cI, 61, .inl m_s)), (mu, .inl (cI, 41, .inl m_u)), (mn, .inl (cJ, 41, .inr (.inl m_n))), (mm, .inl (cI, 41, .inl m_m)), (mo, .inl (cI, 14000, .inl m_o)), (mw, .inl (cI, 61, .inl m_w))] [0, 1, 9, 2, 3, 4, 5, 6, 7, 8] rfl rfl rfl (0) (0) (Nat.le_of_ble_eq_true rfl) (Nat.le_of_ble_eq_true rfl) ⟨(Nat.le_of_ble_eq_true rfl), (Nat.le_of_ble_eq_true rfl)⟩ dX10_jpeg_264 ?_
                  refine J_i2l O (pc := 267) dX10_jpeg_267 ?_
                  refine J_goto O (tgt := 274) (pc := 268) dX10_jpeg_268 (by decide) ?_
                  have e9 := Option.some.inj hf
                  subst e9
                  exact J_lret O (pc := 274) rfl dX10_jpeg_274
                · have hf := jt_t c255 hf
                  refine J_iconst O (v := 5) (pc := 258) (by decide) dX10_jpeg_258 ?_
                  refine J_goto O (tgt := 263) (pc := 259) dX10_jpeg_259 (by decide) ?_
                  refine J_iadd O (pc := 263) dX10_jpeg_263 ?_
                  obtain ⟨z264, h264, hf⟩ := jt_b hf
                  refine J_callSi O (pc := 264) (c_X10_two l D cB cI cJ md 12000 m_d ((a1 + v4) + 5) h264) rfl gX10_jpeg_X10_two hdS_X10_two ⟨(Nat.le_of_ble_eq_true rfl), (Nat.le_of_ble_eq_true rfl)⟩ rfl (st := []) rfl (Nat.le_of_ble_eq_true rfl) [2] [0, 1, 3, 4, 5, 6, 7, 8, 9] rfl rfl rfl rfl rfl (by decide) [(m, .inr (6, [.ref mt, .int m_tl, .ref md, .int m_dl, .ref mk, .ref ms, .int m_c, .ref mu, .ref mn, .ref mm, .int m_e, .ref mo, .int m_ol, .int m_fa, .int m_f, .ref mw, .int m_p, .int m_is])), (mt, .inl (cI, 6000, .inl m_t)), (md, .inl (cI, 12000, .inl m_d)), (mk, .inl (cI, 61, .inl m_k)), (ms, .inl (cI, 61, .inl m_s)), (mu, .inl (cI, 41, .inl m_u)), (mn, .inl (cJ, 41, .inr (.inl m_n))), (mm, .inl (cI, 41, .inl m_m)), (mo, .inl (cI, 14000, .inl m_o)), (mw, .inl (cI, 61, .inl m_w))] [0, 1, 9, 2, 3, 4, 5, 6, 7, 8] rfl rfl rfl (0) (0) (Nat.le_of_ble_eq_true rfl) (Nat.le_of_ble_eq_true rfl) ⟨(Nat.le_of_ble_eq_true rfl), (Nat.le_of_ble_eq_true rfl)⟩ dX10_jpeg_264 ?_
                  refine J_i2l O (pc := 267) dX10_jpeg_267 ?_
                  refine J_goto O (tgt := 274) (pc := 268) dX10_jpeg_268 (by decide) ?_
                  have e9 := Option.some.inj hf
                  subst e9
                  exact J_lret O (pc := 274) rfl dX10_jpeg_274
  · have hf := jt_f c184 hf
    refine J_ldc2 O (pc := 187) mb_X10_jpeg_0 dX10_jpeg_187 ?_
    have e9 := Option.some.inj hf
    subst e9
    exact J_lret O (pc := 190) rfl dX10_jpeg_190
set_option maxHeartbeats 4000000 in
set_option maxRecDepth 100000 in
theorem wk_X10_jpeg_105 {X : JC} {l : Launch} {D : va_G} {cB cI cJ : ClassId} (O : Jo X (l, D, cB, cI, cJ) cX10_jpeg 7 RX10 wsX10_jpeg rmX10_jpeg (some .long)) (m mt md mk ms mu mn mm mo mw : Nat) (m_tl : Int32) (m_dl : Int32) (m_c : Int32) (m_e : Int32) (m_ol : Int32) (m_fa : Int32) (m_f : Int32) (m_p : Int32) (m_is : Int32) (m_t : Nat → Int32) (m_d : Nat → Int32) (m_k : Nat → Int32) (m_s : Nat → Int32) (m_u : Nat → Int32) (m_n : Nat → Int64) (m_m : Nat → Int32) (m_o : Nat → Int32) (m_w : Nat → Int32) (a1 : Int32) (a2 : Int32) (a3 : Int32) (fu : Nat) {z : Int64} (k38 : Int32 → Option (Int64)) (hk38 : ∀ (v4 : Int32), k38 v4 = some z → J X 7 (JQl X [(m, .inr (6, [.ref mt, .int m_tl, .ref md, .int m_dl, .ref mk, .ref ms, .int m_c, .ref mu, .ref mn, .ref mm, .int m_e, .ref mo, .int m_ol, .int m_fa, .int m_f, .ref mw, .int m_p, .int m_is])), (mt, .inl (cI, 6000, .inl m_t)), (md, .inl (cI, 12000, .inl m_d)), (mk, .inl (cI, 61, .inl m_k)), (ms, .inl (cI, 61, .inl m_s)), (mu, .inl (cI, 41, .inl m_u)), (mn, .inl (cJ, 41, .inr (.inl m_n))), (mm, .inl (cI, 41, .inl m_m)), (mo, .inl (cI, 14000, .inl m_o)), (mw, .inl (cI, 61, .inl m_w))] z 0 0) [(m, .inr (6, [.ref mt, .int m_tl, .ref md, .int m_dl, .ref mk, .ref ms, .int m_c, .ref mu, .ref mn, .ref mm, .int m_e, .ref mo, .int m_ol, .int m_fa, .int m_f, .ref mw, .int m_p, .int m_is])), (mt, .inl (cI, 6000, .inl m_t)), (md, .inl (cI, 12000, .inl m_d)), (mk, .inl (cI, 61, .inl m_k)), (ms, .inl (cI, 61, .inl m_s)), (mu, .inl (cI, 41, .inl m_u)), (mn, .inl (cJ, 41, .inr (.inl m_n))), (mm, .inl (cI, 41, .inl m_m)), (mo, .inl (cI, 14000, .inl m_o)), (mw, .inl (cI, 61, .inl m_w))] 0 0 38 [(0, .ref m), (1, .int a1), (2, .int a2), (3, .int a3), (4, .int v4)] []) (v4 : Int32) (s0 : Int32) (hf : p_X10_jpeg_105 fu m_d a1 a2 a3 k38 v4 s0 = some z) : J X 7 (JQl X [(m, .inr (6, [.ref mt, .int m_tl, .ref md, .int m_dl, .ref mk, .ref ms, .int m_c, .ref mu, .ref mn, .ref mm, .int m_e, .ref mo, .int m_ol, .int m_fa, .int m_f, .ref mw, .int m_p, .int m_is])), (mt, .inl (cI, 6000, .inl m_t)), (md, .inl (cI, 12000, .inl m_d)), (mk, .inl (cI, 61, .inl m_k)), (ms, .inl (cI, 61, .inl m_s)), (mu, .inl (cI, 41, .inl m_u)), (mn, .inl (cJ, 41, .inr (.inl m_n))), (mm, .inl (cI, 41, .inl m_m)), (mo, .inl (cI, 14000, .inl m_o)), (mw, .inl (cI, 61, .inl m_w))] z 0 0) [(m, .inr (6, [.ref mt, .int m_tl, .ref md, .int m_dl, .ref mk, .ref ms, .int m_c, .ref mu, .ref mn, .ref mm, .int m_e, .ref mo, .int m_ol, .int m_fa, .int m_f, .ref mw, .int m_p, .int m_is])), (mt, .inl (cI, 6000, .inl m_t)), (md, .inl (cI, 12000, .inl m_d)), (mk, .inl (cI, 61, .inl m_k)), (ms, .inl (cI, 61, .inl m_s)), (mu, .inl (cI, 41, .inl m_u)), (mn, .inl (cJ, 41, .inr (.inl m_n))), (mm, .inl (cI, 41, .inl m_m)), (mo, .inl (cI, 14000, .inl m_o)), (mw, .inl (cI, 61, .inl m_w))] 0 0 105 [(0, .ref m), (1, .int a1), (2, .int a2), (3, .int a3), (4, .int v4)] [.int s0] := by
  rw [p_X10_jpeg_105] at hf
  refine J_istore O (i := 5) (pc := 105) [(5, .int s0), (0, .ref m), (1, .int a1), (2, .int a2), (3, .int a3), (4, .int v4)] (by decide) rfl dX10_jpeg_105 ?_
  refine J_iinc O (i := 4) (n := 1) (v := v4 + 1) (pc := 107) 5 rfl [(4, .int (v4 + 1)), (5, .int s0), (0, .ref m), (1, .int a1), (2, .int a2), (3, .int a3)] (by decide) (congrArg (_ + ·) (by decide)) rfl dX10_jpeg_107 ?_
  refine J_iload O (i := 5) (pc := 110) 1 rfl dX10_jpeg_110 ?_
  refine J_if_eq O (tgt := 131) (pc := 112) dX10_jpeg_112 (by decide) (fun c112 => ?_) (fun c112 => ?_)
  · have hf := jt_t c112 hf
    refine J_ldc2 O (pc := 131) mb_X10_jpeg_0 dX10_jpeg_131 ?_
    have e9 := Option.some.inj hf
    subst e9
    exact J_lret O (pc := 134) rfl dX10_jpeg_134
  · have hf := jt_f c112 hf
    refine J_iload O (i := 5) (pc := 115) 1 rfl dX10_jpeg_115 ?_
    refine J_sipush O (v := 216) (pc := 117) (by decide) dX10_jpeg_117 ?_
    refine J_icmp_eq O (tgt := 131) (pc := 120) dX10_jpeg_120 (by decide) (fun c120 => ?_) (fun c120 => ?_)
    · have hf := jt_t c120 hf
      refine J_ldc2 O (pc := 131) mb_X10_jpeg_0 dX10_jpeg_131 ?_
      have e9 := Option.some.inj hf
      subst e9
      exact J_lret O (pc := 134) rfl dX10_jpeg_134
    · have hf := jt_f c120 hf
      refine J_iload O (i := 5) (pc := 123) 1 rfl dX10_jpeg_123 ?_
      refine J_sipush O (v := 217) (pc := 125) (by decide) dX10_jpeg_125 ?_
      refine J_icmp_ne O (tgt := 135) (pc := 128) dX10_jpeg_128 (by decide) (fun c128 => ?_) (fun c128 => ?_)
      · have hf := jt_f c128 hf
        refine J_iload O (i := 5) (pc := 135) 1 rfl dX10_jpeg_135 ?_
        refine J_iconst O (v := 1) (pc := 137) (by decide) dX10_jpeg_137 ?_
        refine J_icmp_eq O (tgt := 282) (pc := 138) dX10_jpeg_138 (by decide) (fun c138 => ?_) (fun c138 => ?_)
        · have hf := jt_t c138 hf
          refine J_goto O (tgt := 38) (pc := 282) dX10_jpeg_282 (by decide) ?_
          refine J_sub [2, 3, 4, 5, 0] (lv' := [(0, .ref m), (1, .int a1), (2, .int a2), (3, .int a3), (4, .int (v4 + 1))]) rfl ?_
          exact hk38 (v4 + 1) hf
        · have hf := jt_f c138 hf
          refine J_iload O (i := 5) (pc := 141) 1 rfl dX10_jpeg_141 ?_
          refine J_i2l O (pc := 143) dX10_jpeg_143 ?_
          refine J_ldc2 O (pc := 144) mb_X10_jpeg_3 dX10_jpeg_144 ?_
          refine J_ldc2 O (pc := 147) mb_X10_jpeg_4 dX10_jpeg_147 ?_
          obtain ⟨z150, h150, hf⟩ := jt_b hf
          refine J_callSi O (pc := 150) (c_X10_in l D cB cI cJ (Int32.toInt64 s0) 208 215 h150) rfl gX10_jpeg_X10_in hdS_X10_in ⟨(Nat.le_of_ble_eq_true rfl), (Nat.le_of_ble_eq_true rfl)⟩ rfl (st := []) rfl (Nat.le_of_ble_eq_true rfl) [] [0, 1, 2, 3, 4, 5, 6, 7, 8, 9] rfl rfl rfl rfl rfl (by decide) [(m, .inr (6, [.ref mt, .int m_tl, .ref md, .int m_dl, .ref mk, .ref ms, .int m_c, .ref mu, .ref mn, .ref mm, .int m_e, .ref mo, .int m_ol, .int m_fa, .int m_f, .ref mw, .int m_p, .int m_is])), (mt, .inl (cI, 6000, .inl m_t)), (md, .inl (cI, 12000, .inl m_d)), (mk, .inl (cI, 61, .inl m_k)), (ms, .inl (cI, 61, .inl m_s)), (mu, .inl (cI, 41, .inl m_u)), (mn, .inl (cJ, 41, .inr (.inl m_n))), (mm, .inl (cI, 41, .inl m_m)), (mo, .inl (cI, 14000, .inl m_o)), (mw, .inl (cI, 61, .inl m_w))] [0, 1, 2, 3, 4, 5, 6, 7, 8, 9] rfl rfl rfl (0) (0) (Nat.le_of_ble_eq_true rfl) (Nat.le_of_ble_eq_true rfl) ⟨(Nat.le_of_ble_eq_true rfl), (Nat.le_of_ble_eq_true rfl)⟩ dX10_jpeg_150 ?_
          refine J_zne O (tgt := 282) (pc := 153) dX10_jpeg_153 (by decide) (fun c153 => ?_) (fun c153 => ?_)
          · have hf := jt_t c153 hf
            refine J_goto O (tgt := 38) (pc := 282) dX10_jpeg_282 (by decide) ?_
            refine J_sub [2, 3, 4, 5, 0] (lv' := [(0, .ref m), (1, .int a1), (2, .int a2), (3, .int a3), (4, .int (v4 + 1))]) rfl ?_
            exact hk38 (v4 + 1) hf
          · have hf := jt_f c153 hf
            refine J_iload O (i := 4) (pc := 156) 0 rfl dX10_jpeg_156 ?_
            refine J_iconst O (v := 2) (pc := 158) (by decide) dX10_jpeg_158 ?_
            refine J_iadd O (pc := 159) dX10_jpeg_159 ?_
            refine J_iload_n O (i := 2) (k0 := 2) (pc := 160) 4 rfl rfl dX10_jpeg_160 ?_
            refine J_icmp_gt O (tgt := 178) (pc := 161) dX10_jpeg_161 (by decide) (fun c161 => ?_) (fun c161 => ?_)
            · have hf := jt_t c161 hf
              refine J_iconst O (v := 0) (pc := 178) (by decide) dX10_jpeg_178 ?_
              refine J_sub [2, 3, 4, 5, 0, 1] (lv' := [(0, .ref m), (1, .int a1), (2, .int a2), (3, .int a3), (4, .int (v4 + 1)), (5, .int s0)]) rfl ?_
              exact wk_X10_jpeg_179 O m mt md mk ms mu mn mm mo mw m_tl m_dl m_c m_e m_ol m_fa m_f m_p m_is m_t m_d m_k m_s m_u m_n m_m m_o m_w a1 a2 a3 fu _ hk38 (v4 + 1) s0 0 hf
            · have hf := jt_f c161 hf
              refine J_aload_n O (i := 0) (k0 := 0) (pc := 164) 2 rfl rfl dX10_jpeg_164 ?_
              refine J_get O (pc := 165) in_X10_jpeg_X10 0 rfl rfl 2 (by decide) mb_X10_jpeg_2 rfl dX10_jpeg_165 ?_
              refine J_iload_n O (i := 1) (k0 := 1) (pc := 168) 3 rfl rfl dX10_jpeg_168 ?_
              refine J_iload O (i := 4) (pc := 169) 0 rfl dX10_jpeg_169 ?_
              refine J_iadd O (pc := 171) dX10_jpeg_171 ?_
              obtain ⟨z172, h172, hf⟩ := jt_b hf
              refine J_callSi O (pc := 172) (c_X10_two l D cB cI cJ md 12000 m_d (a1 + (v4 + 1)) h172) rfl gX10_jpeg_X10_two hdS_X10_two ⟨(Nat.le_of_ble_eq_true rfl), (Nat.le_of_ble_eq_true rfl)⟩ rfl (st := []) rfl (Nat.le_of_ble_eq_true rfl) [2] [0, 1, 3, 4, 5, 6, 7, 8, 9] rfl rfl rfl rfl rfl (by decide) [(m, .inr (6, [.ref mt, .int m_tl, .ref md, .int m_dl, .ref mk, .ref ms, .int m_c, .ref mu, .ref mn, .ref mm, .int m_e, .ref mo, .int m_ol, .int m_fa, .int m_f, .ref mw, .int m_p, .int m_is])), (mt, .inl (cI, 6000, .inl m_t)), (md, .inl (cI, 12000, .inl m_d)), (mk, .inl (cI, 61, .inl m_k)), (ms, .inl (cI, 61, .inl m_s)), (mu, .inl (cI, 41, .inl m_u)), (mn, .inl (cJ, 41, .inr (.inl m_n))), (mm, .inl (cI, 41, .inl m_m)), (mo, .inl (cI, 14000, .inl m_o)), (mw, .inl (cI, 61, .inl m_w))] [0, 1, 9, 2, 3, 4, 5, 6, 7, 8] rfl rfl rfl (0) (0) (Nat.le_of_ble_eq_true rfl) (Nat.le_of_ble_eq_true rfl) ⟨(Nat.le_of_ble_eq_true rfl), (Nat.le_of_ble_eq_true rfl)⟩ dX10_jpeg_172 ?_
              refine J_goto O (tgt := 179) (pc := 175) dX10_jpeg_175 (by decide) ?_
              refine J_sub [2, 3, 4, 5, 0, 1] (lv' := [(0, .ref m), (1, .int a1), (2, .int a2), (3, .int a3), (4, .int (v4 + 1)), (5, .int s0)]) rfl ?_
              exact wk_X10_jpeg_179 O m mt md mk ms mu mn mm mo mw m_tl m_dl m_c m_e m_ol m_fa m_f m_p m_is m_t m_d m_k m_s m_u m_n m_m m_o m_w a1 a2 a3 fu _ hk38 (v4 + 1) s0 z172 hf
      · have hf := jt_t c128 hf
        refine J_ldc2 O (pc := 131) mb_X10_jpeg_0 dX10_jpeg_131 ?_
        have e9 := Option.some.inj hf
        subst e9
        exact J_lret O (pc := 134) rfl dX10_jpeg_134
set_option maxHeartbeats 4000000 in
set_option maxRecDepth 100000 in
theorem wk_X10_jpeg_59 {X : JC} {l : Launch} {D : va_G} {cB cI cJ : ClassId} (O : Jo X (l, D, cB, cI, cJ) cX10_jpeg 7 RX10 wsX10_jpeg rmX10_jpeg (some .long)) (m mt md mk ms mu mn mm mo mw : Nat) (m_tl : Int32) (m_dl : Int32) (m_c : Int32) (m_e : Int32) (m_ol : Int32) (m_fa : Int32) (m_f : Int32) (m_p : Int32) (m_is : Int32) (m_t : Nat → Int32) (m_d : Nat → Int32) (m_k : Nat → Int32) (m_s : Nat → Int32) (m_u : Nat → Int32) (m_n : Nat → Int64) (m_m : Nat → Int32) (m_o : Nat → Int32) (m_w : Nat → Int32) (a1 : Int32) (a2 : Int32) (a3 : Int32) (fu : Nat) {z : Int64} (k38 : Int32 → Option (Int64)) (hk38 : ∀ (v4 : Int32), k38 v4 = some z → J X 7 (JQl X [(m, .inr (6, [.ref mt, .int m_tl, .ref md, .int m_dl, .ref mk, .ref ms, .int m_c, .ref mu, .ref mn, .ref mm, .int m_e, .ref mo, .int m_ol, .int m_fa, .int m_f, .ref mw, .int m_p, .int m_is])), (mt, .inl (cI, 6000, .inl m_t)), (md, .inl (cI, 12000, .inl m_d)), (mk, .inl (cI, 61, .inl m_k)), (ms, .inl (cI, 61, .inl m_s)), (mu, .inl (cI, 41, .inl m_u)), (mn, .inl (cJ, 41, .inr (.inl m_n))), (mm, .inl (cI, 41, .inl m_m)), (mo, .inl (cI, 14000, .inl m_o)), (mw, .inl (cI, 61, .inl m_w))] z 0 0) [(m, .inr (6, [.ref mt, .int m_tl, .ref md, .int m_dl, .ref mk, .ref ms, .int m_c, .ref mu, .ref mn, .ref mm, .int m_e, .ref mo, .int m_ol, .int m_fa, .int m_f, .ref mw, .int m_p, .int m_is])), (mt, .inl (cI, 6000, .inl m_t)), (md, .inl (cI, 12000, .inl m_d)), (mk, .inl (cI, 61, .inl m_k)), (ms, .inl (cI, 61, .inl m_s)), (mu, .inl (cI, 41, .inl m_u)), (mn, .inl (cJ, 41, .inr (.inl m_n))), (mm, .inl (cI, 41, .inl m_m)), (mo, .inl (cI, 14000, .inl m_o)), (mw, .inl (cI, 61, .inl m_w))] 0 0 38 [(0, .ref m), (1, .int a1), (2, .int a2), (3, .int a3), (4, .int v4)] []) : ∀ (fn : Nat) (v4 : Int32), p_X10_jpeg_59 fu m_d a1 a2 a3 k38 fn v4 = some z → J X 7 (JQl X [(m, .inr (6, [.ref mt, .int m_tl, .ref md, .int m_dl, .ref mk, .ref ms, .int m_c, .ref mu, .ref mn, .ref mm, .int m_e, .ref mo, .int m_ol, .int m_fa, .int m_f, .ref mw, .int m_p, .int m_is])), (mt, .inl (cI, 6000, .inl m_t)), (md, .inl (cI, 12000, .inl m_d)), (mk, .inl (cI, 61, .inl m_k)), (ms, .inl (cI, 61, .inl m_s)), (mu, .inl (cI, 41, .inl m_u)), (mn, .inl (cJ, 41, .inr (.inl m_n))), (mm, .inl (cI, 41, .inl m_m)), (mo, .inl (cI, 14000, .inl m_o)), (mw, .inl (cI, 61, .inl m_w))] z 0 0) [(m, .inr (6, [.ref mt, .int m_tl, .ref md, .int m_dl, .ref mk, .ref ms, .int m_c, .ref mu, .ref mn, .ref mm, .int m_e, .ref mo, .int m_ol, .int m_fa, .int m_f, .ref mw, .int m_p, .int m_is])), (mt, .inl (cI, 6000, .inl m_t)), (md, .inl (cI, 12000, .inl m_d)), (mk, .inl (cI, 61, .inl m_k)), (ms, .inl (cI, 61, .inl m_s)), (mu, .inl (cI, 41, .inl m_u)), (mn, .inl (cJ, 41, .inr (.inl m_n))), (mm, .inl (cI, 41, .inl m_m)), (mo, .inl (cI, 14000, .inl m_o)), (mw, .inl (cI, 61, .inl m_w))] 0 0 59 [(0, .ref m), (1, .int a1), (2, .int a2), (3, .int a3), (4, .int v4)] [] := by
  intro fn
  induction fn with
  | zero =>
    intro v4 hf
    rw [p_X10_jpeg_59] at hf
    exact jt_n hf
  | succ fn ih =>
    intro v4 hf
    rw [p_X10_jpeg_59] at hf
    refine J_iload O (i := 4) (pc := 59) 4 rfl dX10_jpeg_59 ?_
    refine J_iload_n O (i := 2) (k0 := 2) (pc := 61) 2 rfl rfl dX10_jpeg_61 ?_
    refine J_icmp_ge O (tgt := 86) (pc := 62) dX10_jpeg_62 (by decide) (fun c62 => ?_) (fun c62 => ?_)
    · have hf := jt_t c62 hf
      refine J_iload O (i := 4) (pc := 86) 4 rfl dX10_jpeg_86 ?_
      refine J_iload_n O (i := 2) (k0 := 2) (pc := 88) 2 rfl rfl dX10_jpeg_88 ?_
      refine J_icmp_ge O (tgt := 104) (pc := 89) dX10_jpeg_89 (by decide) (fun c89 => ?_) (fun c89 => ?_)
      · have hf := jt_t c89 hf
        refine J_iconst O (v := 0) (pc := 104) (by decide) dX10_jpeg_104 ?_
        refine J_sub [0, 1, 2, 3, 4] (lv' := [(0, .ref m), (1, .int a1), (2, .int a2), (3, .int a3), (4, .int v4)]) rfl ?_
        exact wk_X10_jpeg_105 O m mt md mk ms mu mn mm mo mw m_tl m_dl m_c m_e m_ol m_fa m_f m_p m_is m_t m_d m_k m_s m_u m_n m_m m_o m_w a1 a2 a3 fu _ hk38 v4 0 hf
      · have hf := jt_f c89 hf
        refine J_aload_n O (i := 0) (k0 := 0) (pc := 92) 0 rfl rfl dX10_jpeg_92 ?_
        refine J_get O (pc := 93) in_X10_jpeg_X10 0 rfl rfl 2 (by decide) mb_X10_jpeg_2 rfl dX10_jpeg_93 ?_
        refine J_iload_n O (i := 1) (k0 := 1) (pc := 96) 1 rfl rfl dX10_jpeg_96 ?_
        refine J_iload O (i := 4) (pc := 97) 4 rfl dX10_jpeg_97 ?_
        refine J_iadd O (pc := 99) dX10_jpeg_99 ?_
        obtain ⟨h100, hf⟩ := jt_g hf
        refine J_iald O (pc := 100) 2 1 rfl rfl h100 dX10_jpeg_100 ?_
        refine J_goto O (tgt := 105) (pc := 101) dX10_jpeg_101 (by decide) ?_
        refine J_sub [0, 1, 2, 3, 4] (lv' := [(0, .ref m), (1, .int a1), (2, .int a2), (3, .int a3), (4, .int v4)]) rfl ?_
        exact wk_X10_jpeg_105 O m mt md mk ms mu mn mm mo mw m_tl m_dl m_c m_e m_ol m_fa m_f m_p m_is m_t m_d m_k m_s m_u m_n m_m m_o m_w a1 a2 a3 fu _ hk38 v4 (m_d (Int32.toNatClampNeg (a1 + v4))) hf
    · have hf := jt_f c62 hf
      refine J_aload_n O (i := 0) (k0 := 0) (pc := 65) 0 rfl rfl dX10_jpeg_65 ?_
      refine J_get O (pc := 66) in_X10_jpeg_X10 0 rfl rfl 2 (by decide) mb_X10_jpeg_2 rfl dX10_jpeg_66 ?_
      refine J_iload_n O (i := 1) (k0 := 1) (pc := 69) 1 rfl rfl dX10_jpeg_69 ?_
      refine J_iload O (i := 4) (pc := 70) 4 rfl dX10_jpeg_70 ?_
      refine J_iadd O (pc := 72) dX10_jpeg_72 ?_
      obtain ⟨h73, hf⟩ := jt_g hf
      refine J_iald O (pc := 73) 2 1 rfl rfl h73 dX10_jpeg_73 ?_
      refine J_sipush O (v := 255) (pc := 74) (by decide) dX10_jpeg_74 ?_
      refine J_icmp_ne O (tgt := 86) (pc := 77) dX10_jpeg_77 (by decide) (fun c77 => ?_) (fun c77 => ?_)
      · have hf := jt_f c77 hf
        refine J_iload O (i := 4) (pc := 86) 4 rfl dX10_jpeg_86 ?_
        refine J_iload_n O (i := 2) (k0 := 2) (pc := 88) 2 rfl rfl dX10_jpeg_88 ?_
        refine J_icmp_ge O (tgt := 104) (pc := 89) dX10_jpeg_89 (by decide) (fun c89 => ?_) (fun c89 => ?_)
        · have hf := jt_t c89 hf
          refine J_iconst O (v := 0) (pc := 104) (by decide) dX10_jpeg_104 ?_
          refine J_sub [0, 1, 2, 3, 4] (lv' := [(0, .ref m), (1, .int a1), (2, .int a2), (3, .int a3), (4, .int v4)]) rfl ?_
          exact wk_X10_jpeg_105 O m mt md mk ms mu mn mm mo mw m_tl m_dl m_c m_e m_ol m_fa m_f m_p m_is m_t m_d m_k m_s m_u m_n m_m m_o m_w a1 a2 a3 fu _ hk38 v4 0 hf
        · have hf := jt_f c89 hf
          refine J_aload_n O (i := 0) (k0 := 0) (pc := 92) 0 rfl rfl dX10_jpeg_92 ?_
          refine J_get O (pc := 93) in_X10_jpeg_X10 0 rfl rfl 2 (by decide) mb_X10_jpeg_2 rfl dX10_jpeg_93 ?_
          refine J_iload_n O (i := 1) (k0 := 1) (pc := 96) 1 rfl rfl dX10_jpeg_96 ?_
          refine J_iload O (i := 4) (pc := 97) 4 rfl dX10_jpeg_97 ?_
          refine J_iadd O (pc := 99) dX10_jpeg_99 ?_
          obtain ⟨h100, hf⟩ := jt_g hf
          refine J_iald O (pc := 100) 2 1 rfl rfl h100 dX10_jpeg_100 ?_
          refine J_goto O (tgt := 105) (pc := 101) dX10_jpeg_101 (by decide) ?_
          refine J_sub [0, 1, 2, 3, 4] (lv' := [(0, .ref m), (1, .int a1), (2, .int a2), (3, .int a3), (4, .int v4)]) rfl ?_
          exact wk_X10_jpeg_105 O m mt md mk ms mu mn mm mo mw m_tl m_dl m_c m_e m_ol m_fa m_f m_p m_is m_t m_d m_k m_s m_u m_n m_m m_o m_w a1 a2 a3 fu _ hk38 v4 (m_d (Int32.toNatClampNeg (a1 + v4))) hf
      · have hf := jt_t c77 hf
        refine J_iinc O (i := 4) (n := 1) (v := v4 + 1) (pc := 80) 4 rfl [(4, .int (v4 + 1)), (0, .ref m), (1, .int a1), (2, .int a2), (3, .int a3)] (by decide) (congrArg (_ + ·) (by decide)) rfl dX10_jpeg_80 ?_
        refine J_goto O (tgt := 59) (pc := 83) dX10_jpeg_83 (by decide) ?_
        refine J_sub [1, 2, 3, 4, 0] (lv' := [(0, .ref m), (1, .int a1), (2, .int a2), (3, .int a3), (4, .int (v4 + 1))]) rfl ?_
        exact ih (v4 + 1) hf
set_option maxHeartbeats 4000000 in
set_option maxRecDepth 100000 in
theorem wk_X10_jpeg_38 {X : JC} {l : Launch} {D : va_G} {cB cI cJ : ClassId} (O : Jo X (l, D, cB, cI, cJ) cX10_jpeg 7 RX10 wsX10_jpeg rmX10_jpeg (some .long)) (m mt md mk ms mu mn mm mo mw : Nat) (m_tl : Int32) (m_dl : Int32) (m_c : Int32) (m_e : Int32) (m_ol : Int32) (m_fa : Int32) (m_f : Int32) (m_p : Int32) (m_is : Int32) (m_t : Nat → Int32) (m_d : Nat → Int32) (m_k : Nat → Int32) (m_s : Nat → Int32) (m_u : Nat → Int32) (m_n : Nat → Int64) (m_m : Nat → Int32) (m_o : Nat → Int32) (m_w : Nat → Int32) (a1 : Int32) (a2 : Int32) (a3 : Int32) (fu : Nat) {z : Int64} : ∀ (fn : Nat) (v4 : Int32), p_X10_jpeg_38 fu m_d a1 a2 a3 fn v4 = some z → J X 7 (JQl X [(m, .inr (6, [.ref mt, .int m_tl, .ref md, .int m_dl, .ref mk, .ref ms, .int m_c, .ref mu, .ref mn, .ref mm, .int m_e, .ref mo, .int m_ol, .int m_fa, .int m_f, .ref mw, .int m_p, .int m_is])), (mt, .inl (cI, 6000, .inl m_t)), (md, .inl (cI, 12000, .inl m_d)), (mk, .inl (cI, 61, .inl m_k)), (ms, .inl (cI, 61, .inl m_s)), (mu, .inl (cI, 41, .inl m_u)), (mn, .inl (cJ, 41, .inr (.inl m_n))), (mm, .inl (cI, 41, .inl m_m)), (mo, .inl (cI, 14000, .inl m_o)), (mw, .inl (cI, 61, .inl m_w))] z 0 0) [(m, .inr (6, [.ref mt, .int m_tl, .ref md, .int m_dl, .ref mk, .ref ms, .int m_c, .ref mu, .ref mn, .ref mm, .int m_e, .ref mo, .int m_ol, .int m_fa, .int m_f, .ref mw, .int m_p, .int m_is])), (mt, .inl (cI, 6000, .inl m_t)), (md, .inl (cI, 12000, .inl m_d)), (mk, .inl (cI, 61, .inl m_k)), (ms, .inl (cI, 61, .inl m_s)), (mu, .inl (cI, 41, .inl m_u)), (mn, .inl (cJ, 41, .inr (.inl m_n))), (mm, .inl (cI, 41, .inl m_m)), (mo, .inl (cI, 14000, .inl m_o)), (mw, .inl (cI, 61, .inl m_w))] 0 0 38 [(0, .ref m), (1, .int a1), (2, .int a2), (3, .int a3), (4, .int v4)] [] := by
  intro fn
  induction fn with
  | zero =>
    intro v4 hf
    rw [p_X10_jpeg_38] at hf
    exact jt_n hf
  | succ fn ih =>
    intro v4 hf
    rw [p_X10_jpeg_38] at hf
    refine J_iload O (i := 4) (pc := 38) 4 rfl dX10_jpeg_38 ?_
    refine J_iload_n O (i := 2) (k0 := 2) (pc := 40) 2 rfl rfl dX10_jpeg_40 ?_
    refine J_icmp_ge O (tgt := 285) (pc := 41) dX10_jpeg_41 (by decide) (fun c41 => ?_) (fun c41 => ?_)
    · have hf := jt_t c41 hf
      refine J_ldc2 O (pc := 285) mb_X10_jpeg_0 dX10_jpeg_285 ?_
      have e9 := Option.some.inj hf
      subst e9
      exact J_lret O (pc := 288) rfl dX10_jpeg_288
    · have hf := jt_f c41 hf
      refine J_aload_n O (i := 0) (k0 := 0) (pc := 44) 0 rfl rfl dX10_jpeg_44 ?_
      refine J_get O (pc := 45) in_X10_jpeg_X10 0 rfl rfl 2 (by decide) mb_X10_jpeg_2 rfl dX10_jpeg_45 ?_
      refine J_iload_n O (i := 1) (k0 := 1) (pc := 48) 1 rfl rfl dX10_jpeg_48 ?_
      refine J_iload O (i := 4) (pc := 49) 4 rfl dX10_jpeg_49 ?_
      refine J_iadd O (pc := 51) dX10_jpeg_51 ?_
      obtain ⟨h52, hf⟩ := jt_g hf
      refine J_iald O (pc := 52) 2 1 rfl rfl h52 dX10_jpeg_52 ?_
      refine J_sipush O (v := 255) (pc := 53) (by decide) dX10_jpeg_53 ?_
      refine J_icmp_ne O (tgt := 285) (pc := 56) dX10_jpeg_56 (by decide) (fun c56 => ?_) (fun c56 => ?_)
      · have hf := jt_f c56 hf
        refine J_ldc2 O (pc := 285) mb_X10_jpeg_0 dX10_jpeg_285 ?_
        have e9 := Option.some.inj hf
        subst e9
        exact J_lret O (pc := 288) rfl dX10_jpeg_288
      · have hf := jt_t c56 hf
        refine J_sub [0, 1, 2, 3, 4] (lv' := [(0, .ref m), (1, .int a1), (2, .int a2), (3, .int a3), (4, .int v4)]) rfl ?_
        exact wk_X10_jpeg_59 O m mt md mk ms mu mn mm mo mw m_tl m_dl m_c m_e m_ol m_fa m_f m_p m_is m_t m_d m_k m_s m_u m_n m_m m_o m_w a1 a2 a3 fu _ ih fu v4 hf
set_option maxHeartbeats 4000000 in
set_option maxRecDepth 100000 in
theorem c_X10_jpeg (l : Launch) (D : va_G) (cB cI cJ : ClassId) (m mt md mk ms mu mn mm mo mw : Nat) (m_tl : Int32) (m_dl : Int32) (m_c : Int32) (m_e : Int32) (m_ol : Int32) (m_fa : Int32) (m_f : Int32) (m_p : Int32) (m_is : Int32) (m_t : Nat → Int32) (m_d : Nat → Int32) (m_k : Nat → Int32) (m_s : Nat → Int32) (m_u : Nat → Int32) (m_n : Nat → Int64) (m_m : Nat → Int32) (m_o : Nat → Int32) (m_w : Nat → Int32) (a1 : Int32) (a2 : Int32) (a3 : Int32) (fu : Nat) {z : Int64} (hf : p_X10_jpeg fu m_d a1 a2 a3 = some z) : Cl (l, D, cB, cI, cJ) yX10_jpeg wsX10_jpeg rmX10_jpeg [.ref m, .int a1, .int a2, .int a3] [(m, .inr (6, [.ref mt, .int m_tl, .ref md, .int m_dl, .ref mk, .ref ms, .int m_c, .ref mu, .ref mn, .ref mm, .int m_e, .ref mo, .int m_ol, .int m_fa, .int m_f, .ref mw, .int m_p, .int m_is])), (mt, .inl (cI, 6000, .inl m_t)), (md, .inl (cI, 12000, .inl m_d)), (mk, .inl (cI, 61, .inl m_k)), (ms, .inl (cI, 61, .inl m_s)), (mu, .inl (cI, 41, .inl m_u)), (mn, .inl (cJ, 41, .inr (.inl m_n))), (mm, .inl (cI, 41, .inl m_m)), (mo, .inl (cI, 14000, .inl m_o)), (mw, .inl (cI, 61, .inl m_w))] [(m, .inr (6, [.ref mt, .int m_tl, .ref md, .int m_dl, .ref mk, .ref ms, .int m_c, .ref mu, .ref mn, .ref mm, .int m_e, .ref mo, .int m_ol, .int m_fa, .int m_f, .ref mw, .int m_p, .int m_is])), (mt, .inl (cI, 6000, .inl m_t)), (md, .inl (cI, 12000, .inl m_d)), (mk, .inl (cI, 61, .inl m_k)), (ms, .inl (cI, 61, .inl m_s)), (mu, .inl (cI, 41, .inl m_u)), (mn, .inl (cJ, 41, .inr (.inl m_n))), (mm, .inl (cI, 41, .inl m_m)), (mo, .inl (cI, 14000, .inl m_o)), (mw, .inl (cI, 61, .inl m_w))] z := by
  refine Cl_of (cc := cX10_jpeg) (nL := 7) (own := RX10) (ret := (some .long)) (by decide) rfl rfl (Nat.le_of_ble_eq_true rfl) (fun X O hnm0 => ?_)
  rw [p_X10_jpeg] at hf
  show J X 7 (JQl X [(m, .inr (6, [.ref mt, .int m_tl, .ref md, .int m_dl, .ref mk, .ref ms, .int m_c, .ref mu, .ref mn, .ref mm, .int m_e, .ref mo, .int m_ol, .int m_fa, .int m_f, .ref mw, .int m_p, .int m_is])), (mt, .inl (cI, 6000, .inl m_t)), (md, .inl (cI, 12000, .inl m_d)), (mk, .inl (cI, 61, .inl m_k)), (ms, .inl (cI, 61, .inl m_s)), (mu, .inl (cI, 41, .inl m_u)), (mn, .inl (cJ, 41, .inr (.inl m_n))), (mm, .inl (cI, 41, .inl m_m)), (mo, .inl (cI, 14000, .inl m_o)), (mw, .inl (cI, 61, .inl m_w))] z 0 0) [(m, .inr (6, [.ref mt, .int m_tl, .ref md, .int m_dl, .ref mk, .ref ms, .int m_c, .ref mu, .ref mn, .ref mm, .int m_e, .ref mo, .int m_ol, .int m_fa, .int m_f, .ref mw, .int m_p, .int m_is])), (mt, .inl (cI, 6000, .inl m_t)), (md, .inl (cI, 12000, .inl m_d)), (mk, .inl (cI, 61, .inl m_k)), (ms, .inl (cI, 61, .inl m_s)), (mu, .inl (cI, 41, .inl m_u)), (mn, .inl (cJ, 41, .inr (.inl m_n))), (mm, .inl (cI, 41, .inl m_m)), (mo, .inl (cI, 14000, .inl m_o)), (mw, .inl (cI, 61, .inl m_w))] 0 0 0 [(0, .ref m), (1, .int a1), (2, .int a2), (3, .int a3)] []
  refine J_iload_n O (i := 2) (k0 := 2) (pc := 0) 2 rfl rfl dX10_jpeg_0 ?_
  refine J_iconst O (v := 2) (pc := 1) (by decide) dX10_jpeg_1 ?_
  refine J_icmp_lt O (tgt := 31) (pc := 2) dX10_jpeg_2 (by decide) (fun c2 => ?_) (fun c2 => ?_)
  · have hf := jt_t c2 hf
    refine J_ldc2 O (pc := 31) mb_X10_jpeg_0 dX10_jpeg_31 ?_
    have e9 := Option.some.inj hf
    subst e9
    exact J_lret O (pc := 34) rfl dX10_jpeg_34
  · have hf := jt_f c2 hf
    refine J_aload_n O (i := 0) (k0 := 0) (pc := 5) 0 rfl rfl dX10_jpeg_5 ?_
    refine J_get O (pc := 6) in_X10_jpeg_X10 0 rfl rfl 2 (by decide) mb_X10_jpeg_2 rfl dX10_jpeg_6 ?_
    refine J_iload_n O (i := 1) (k0 := 1) (pc := 9) 1 rfl rfl dX10_jpeg_9 ?_
    obtain ⟨h10, hf⟩ := jt_g hf
    refine J_iald O (pc := 10) 2 1 rfl rfl h10 dX10_jpeg_10 ?_
    refine J_sipush O (v := 255) (pc := 11) (by decide) dX10_jpeg_11 ?_
    refine J_icmp_ne O (tgt := 31) (pc := 14) dX10_jpeg_14 (by decide) (fun c14 => ?_) (fun c14 => ?_)
    · have hf := jt_f c14 hf
      refine J_ldc2 O (pc := 31) mb_X10_jpeg_0 dX10_jpeg_31 ?_
      have e9 := Option.some.inj hf
      subst e9
      exact J_lret O (pc := 34) rfl dX10_jpeg_34
    · have hf := jt_t c14 hf
      refine J_aload_n O (i := 0) (k0 := 0) (pc := 17) 0 rfl rfl dX10_jpeg_17 ?_
      refine J_get O (pc := 18) in_X10_jpeg_X10 0 rfl rfl 2 (by decide) mb_X10_jpeg_2 rfl dX10_jpeg_18 ?_
      refine J_iload_n O (i := 1) (k0 := 1) (pc := 21) 1 rfl rfl dX10_jpeg_21 ?_
      refine J_iconst O (v := 1) (pc := 22) (by decide) dX10_jpeg_22 ?_
      refine J_iadd O (pc := 23) dX10_jpeg_23 ?_
      obtain ⟨h24, hf⟩ := jt_g hf
      refine J_iald O (pc := 24) 2 1 rfl rfl h24 dX10_jpeg_24 ?_
      refine J_sipush O (v := 216) (pc := 25) (by decide) dX10_jpeg_25 ?_
      refine J_icmp_eq O (tgt := 35) (pc := 28) dX10_jpeg_28 (by decide) (fun c28 => ?_) (fun c28 => ?_)
      · have hf := jt_t c28 hf
        refine J_iconst O (v := 2) (pc := 35) (by decide) dX10_jpeg_35 ?_
        refine J_istore O (i := 4) (pc := 36) [(4, .int 2), (0, .ref m), (1, .int a1), (2, .int a2), (3, .int a3)] (by decide) rfl dX10_jpeg_36 ?_
        refine J_sub [1, 2, 3, 4, 0] (lv' := [(0, .ref m), (1, .int a1), (2, .int a2), (3, .int a3), (4, .int 2)]) rfl ?_
        exact wk_X10_jpeg_38 O m mt md mk ms mu mn mm mo mw m_tl m_dl m_c m_e m_ol m_fa m_f m_p m_is m_t m_d m_k m_s m_u m_n m_m m_o m_w a1 a2 a3 fu fu 2 hf
      · have hf := jt_f c28 hf
        refine J_ldc2 O (pc := 31) mb_X10_jpeg_0 dX10_jpeg_31 ?_
        have e9 := Option.some.inj hf
        subst e9
        exact J_lret O (pc := 34) rfl dX10_jpeg_34
theorem in_X10_isPng_X10 : ∀ w ∈ u_ws RX10 TX10 18, w ∈ wsX10_isPng := fun _ h => List.mem_cons_of_mem _ (List.mem_append_right _ h)
theorem mb_X10_isPng_1 : Cond.fieldLink RX10 13 (TX10 2).1 (TX10 2).2.1 (TX10 2).2.2.1 ∈ wsX10_isPng := by decide +kernel
theorem mb_X10_isPng_2 : Cond.constant RX10 177 (-1991225785) ∈ wsX10_isPng := by decide +kernel
theorem mb_X10_isPng_3 : Cond.constant RX10 178 218765834 ∈ wsX10_isPng := by decide +kernel
theorem mb_X10_isPng_4 : Cond.constant RX10 179 1229472850 ∈ wsX10_isPng := by decide +kernel
abbrev rmX10_isPng : Room := { frames := 1, cells := 0, slots := 0, locals := 21 }
set_option maxHeartbeats 4000000 in
set_option maxRecDepth 100000 in
theorem c_X10_isPng (l : Launch) (D : va_G) (cB cI cJ : ClassId) (m mt md mk ms mu mn mm mo mw : Nat) (m_tl : Int32) (m_dl : Int32) (m_c : Int32) (m_e : Int32) (m_ol : Int32) (m_fa : Int32) (m_f : Int32) (m_p : Int32) (m_is : Int32) (m_t : Nat → Int32) (m_d : Nat → Int32) (m_k : Nat → Int32) (m_s : Nat → Int32) (m_u : Nat → Int32) (m_n : Nat → Int64) (m_m : Nat → Int32) (m_o : Nat → Int32) (m_w : Nat → Int32) (a1 : Int32) (a2 : Int32) {z : Bool} (hf : p_X10_isPng m_d a1 a2 = some z) : Ci (l, D, cB, cI, cJ) yX10_isPng wsX10_isPng rmX10_isPng [.ref m, .int a1, .int a2] [(m, .inr (6, [.ref mt, .int m_tl, .ref md, .int m_dl, .ref mk, .ref ms, .int m_c, .ref mu, .ref mn, .ref mm, .int m_e, .ref mo, .int m_ol, .int m_fa, .int m_f, .ref mw, .int m_p, .int m_is])), (mt, .inl (cI, 6000, .inl m_t)), (md, .inl (cI, 12000, .inl m_d)), (mk, .inl (cI, 61, .inl m_k)), (ms, .inl (cI, 61, .inl m_s)), (mu, .inl (cI, 41, .inl m_u)), (mn, .inl (cJ, 41, .inr (.inl m_n))), (mm, .inl (cI, 41, .inl m_m)), (mo, .inl (cI, 14000, .inl m_o)), (mw, .inl (cI, 61, .inl m_w))] [(m, .inr (6, [.ref mt, .int m_tl, .ref md, .int m_dl, .ref mk, .ref ms, .int m_c, .ref mu, .ref mn, .ref mm, .int m_e, .ref mo, .int m_ol, .int m_fa, .int m_f, .ref mw, .int m_p, .int m_is])), (mt, .inl (cI, 6000, .inl m_t)), (md, .inl (cI, 12000, .inl m_d)), (mk, .inl (cI, 61, .inl m_k)), (ms, .inl (cI, 61, .inl m_s)), (mu, .inl (cI, 41, .inl m_u)), (mn, .inl (cJ, 41, .inr (.inl m_n))), (mm, .inl (cI, 41, .inl m_m)), (mo, .inl (cI, 14000, .inl m_o)), (mw, .inl (cI, 61, .inl m_w))] (bI z) := by
  refine Ci_of (cc := cX10_isPng) (nL := 3) (own := RX10) (ret := (some .boolean)) (by decide) rfl rfl (Nat.le_of_ble_eq_true rfl) (fun X O hnm0 => ?_)
  rw [p_X10_isPng] at hf
  show J X 3 (JQi X [(m, .inr (6, [.ref mt, .int m_tl, .ref md, .int m_dl, .ref mk, .ref ms, .int m_c, .ref mu, .ref mn, .ref mm, .int m_e, .ref mo, .int m_ol, .int m_fa, .int m_f, .ref mw, .int m_p, .int m_is])), (mt, .inl (cI, 6000, .inl m_t)), (md, .inl (cI, 12000, .inl m_d)), (mk, .inl (cI, 61, .inl m_k)), (ms, .inl (cI, 61, .inl m_s)), (mu, .inl (cI, 41, .inl m_u)), (mn, .inl (cJ, 41, .inr (.inl m_n))), (mm, .inl (cI, 41, .inl m_m)), (mo, .inl (cI, 14000, .inl m_o)), (mw, .inl (cI, 61, .inl m_w))] (bI z) 0 0) [(m, .inr (6, [.ref mt, .int m_tl, .ref md, .int m_dl, .ref mk, .ref ms, .int m_c, .ref mu, .ref mn, .ref mm, .int m_e, .ref mo, .int m_ol, .int m_fa, .int m_f, .ref mw, .int m_p, .int m_is])), (mt, .inl (cI, 6000, .inl m_t)), (md, .inl (cI, 12000, .inl m_d)), (mk, .inl (cI, 61, .inl m_k)), (ms, .inl (cI, 61, .inl m_s)), (mu, .inl (cI, 41, .inl m_u)), (mn, .inl (cJ, 41, .inr (.inl m_n))), (mm, .inl (cI, 41, .inl m_m)), (mo, .inl (cI, 14000, .inl m_o)), (mw, .inl (cI, 61, .inl m_w))] 0 0 0 [(0, .ref m), (1, .int a1), (2, .int a2)] []
  refine J_iload_n O (i := 2) (k0 := 2) (pc := 0) 2 rfl rfl dX10_isPng_0 ?_
  refine J_bipush O (v := 24) (pc := 1) (by decide) dX10_isPng_1 ?_
  refine J_icmp_lt O (tgt := 54) (pc := 3) dX10_isPng_3 (by decide) (fun c3 => ?_) (fun c3 => ?_)
  · have hf := jt_t c3 hf
    refine J_iconst O (v := 0) (pc := 54) (by decide) dX10_isPng_54 ?_
    have e9 := Option.some.inj hf
    subst e9
    exact J_zret O (pc := 55) rfl dX10_isPng_55
  · have hf := jt_f c3 hf
    refine J_aload_n O (i := 0) (k0 := 0) (pc := 6) 0 rfl rfl dX10_isPng_6 ?_
    refine J_get O (pc := 7) in_X10_isPng_X10 0 rfl rfl 2 (by decide) mb_X10_isPng_1 rfl dX10_isPng_7 ?_
    refine J_iload_n O (i := 1) (k0 := 1) (pc := 10) 1 rfl rfl dX10_isPng_10 ?_
    obtain ⟨z11, h11, hf⟩ := jt_b hf
    refine J_callSi O (pc := 11) (c_X10_kindIn l D cB cI cJ md 12000 m_d a1 h11) rfl gX10_isPng_X10_kindIn hdS_X10_kindIn ⟨(Nat.le_of_ble_eq_true rfl), (Nat.le_of_ble_eq_true rfl)⟩ rfl (st := []) rfl (Nat.le_of_ble_eq_true rfl) [2] [0, 1, 3, 4, 5, 6, 7, 8, 9] rfl rfl rfl rfl rfl (by decide) [(m, .inr (6, [.ref mt, .int m_tl, .ref md, .int m_dl, .ref mk, .ref ms, .int m_c, .ref mu, .ref mn, .ref mm, .int m_e, .ref mo, .int m_ol, .int m_fa, .int m_f, .ref mw, .int m_p, .int m_is])), (mt, .inl (cI, 6000, .inl m_t)), (md, .inl (cI, 12000, .inl m_d)), (mk, .inl (cI, 61, .inl m_k)), (ms, .inl (cI, 61, .inl m_s)), (mu, .inl (cI, 41, .inl m_u)), (mn, .inl (cJ, 41, .inr (.inl m_n))), (mm, .inl (cI, 41, .inl m_m)), (mo, .inl (cI, 14000, .inl m_o)), (mw, .inl (cI, 61, .inl m_w))] [0, 1, 9, 2, 3, 4, 5, 6, 7, 8] rfl rfl rfl (0) (0) (Nat.le_of_ble_eq_true rfl) (Nat.le_of_ble_eq_true rfl) ⟨(Nat.le_of_ble_eq_true rfl), (Nat.le_of_ble_eq_true rfl)⟩ dX10_isPng_11 ?_
    refine J_ldc O (pc := 14) mb_X10_isPng_2 dX10_isPng_14 ?_
    refine J_icmp_ne O (tgt := 54) (pc := 16) dX10_isPng_16 (by decide) (fun c16 => ?_) (fun c16 => ?_)
    · have hf := jt_f c16 hf
      refine J_iconst O (v := 0) (pc := 54) (by decide) dX10_isPng_54 ?_
      have e9 := Option.some.inj hf
      subst e9
      exact J_zret O (pc := 55) rfl dX10_isPng_55
    · have hf := jt_t c16 hf
      refine J_aload_n O (i := 0) (k0 := 0) (pc := 19) 0 rfl rfl dX10_isPng_19 ?_
      refine J_get O (pc := 20) in_X10_isPng_X10 0 rfl rfl 2 (by decide) mb_X10_isPng_1 rfl dX10_isPng_20 ?_
      refine J_iload_n O (i := 1) (k0 := 1) (pc := 23) 1 rfl rfl dX10_isPng_23 ?_
      refine J_iconst O (v := 4) (pc := 24) (by decide) dX10_isPng_24 ?_
      refine J_iadd O (pc := 25) dX10_isPng_25 ?_
      obtain ⟨z26, h26, hf⟩ := jt_b hf
      refine J_callSi O (pc := 26) (c_X10_kindIn l D cB cI cJ md 12000 m_d (a1 + 4) h26) rfl gX10_isPng_X10_kindIn hdS_X10_kindIn ⟨(Nat.le_of_ble_eq_true rfl), (Nat.le_of_ble_eq_true rfl)⟩ rfl (st := []) rfl (Nat.le_of_ble_eq_true rfl) [2] [0, 1, 3, 4, 5, 6, 7, 8, 9] rfl rfl rfl rfl rfl (by decide) [(m, .inr (6, [.ref mt, .int m_tl, .ref md, .int m_dl, .ref mk, .ref ms, .int m_c, .ref mu, .ref mn, .ref mm, .int m_e, .ref mo, .int m_ol, .int m_fa, .int m_f, .ref mw, .int m_p, .int m_is])), (mt, .inl (cI, 6000, .inl m_t)), (md, .inl (cI, 12000, .inl m_d)), (mk, .inl (cI, 61, .inl m_k)), (ms, .inl (cI, 61, .inl m_s)), (mu, .inl (cI, 41, .inl m_u)), (mn, .inl (cJ, 41, .inr (.inl m_n))), (mm, .inl (cI, 41, .inl m_m)), (mo, .inl (cI, 14000, .inl m_o)), (mw, .inl (cI, 61, .inl m_w))] [0, 1, 9, 2, 3, 4, 5, 6, 7, 8] rfl rfl rfl (0) (0) (Nat.le_of_ble_eq_true rfl) (Nat.le_of_ble_eq_true rfl) ⟨(Nat.le_of_ble_eq_true rfl), (Nat.le_of_ble_eq_true rfl)⟩ dX10_isPng_26 ?_
      refine J_ldc O (pc := 29) mb_X10_isPng_3 dX10_isPng_29 ?_
      refine J_icmp_ne O (tgt := 54) (pc := 31) dX10_isPng_31 (by decide) (fun c31 => ?_) (fun c31 => ?_)
      · have hf := jt_f c31 hf
        refine J_iconst O (v := 0) (pc := 54) (by decide) dX10_isPng_54 ?_
        have e9 := Option.some.inj hf
        subst e9
        exact J_zret O (pc := 55) rfl dX10_isPng_55
      · have hf := jt_t c31 hf
        refine J_aload_n O (i := 0) (k0 := 0) (pc := 34) 0 rfl rfl dX10_isPng_34 ?_
        refine J_get O (pc := 35) in_X10_isPng_X10 0 rfl rfl 2 (by decide) mb_X10_isPng_1 rfl dX10_isPng_35 ?_
        refine J_iload_n O (i := 1) (k0 := 1) (pc := 38) 1 rfl rfl dX10_isPng_38 ?_
        refine J_bipush O (v := 12) (pc := 39) (by decide) dX10_isPng_39 ?_
        refine J_iadd O (pc := 41) dX10_isPng_41 ?_
        obtain ⟨z42, h42, hf⟩ := jt_b hf
        refine J_callSi O (pc := 42) (c_X10_kindIn l D cB cI cJ md 12000 m_d (a1 + 12) h42) rfl gX10_isPng_X10_kindIn hdS_X10_kindIn ⟨(Nat.le_of_ble_eq_true rfl), (Nat.le_of_ble_eq_true rfl)⟩ rfl (st := []) rfl (Nat.le_of_ble_eq_true rfl) [2] [0, 1, 3, 4, 5, 6, 7, 8, 9] rfl rfl rfl rfl rfl (by decide) [(m, .inr (6, [.ref mt, .int m_tl, .ref md, .int m_dl, .ref mk, .ref ms, .int m_c, .ref mu, .ref mn, .ref mm, .int m_e, .ref mo, .int m_ol, .int m_fa, .int m_f, .ref mw, .int m_p, .int m_is])), (mt, .inl (cI, 6000, .inl m_t)), (md, .inl (cI, 12000, .inl m_d)), (mk, .inl (cI, 61, .inl m_k)), (ms, .inl (cI, 61, .inl m_s)), (mu, .inl (cI, 41, .inl m_u)), (mn, .inl (cJ, 41, .inr (.inl m_n))), (mm, .inl (cI, 41, .inl m_m)), (mo, .inl (cI, 14000, .inl m_o)), (mw, .inl (cI, 61, .inl m_w))] [0, 1, 9, 2, 3, 4, 5, 6, 7, 8] rfl rfl rfl (0) (0) (Nat.le_of_ble_eq_true rfl) (Nat.le_of_ble_eq_true rfl) ⟨(Nat.le_of_ble_eq_true rfl), (Nat.le_of_ble_eq_true rfl)⟩ dX10_isPng_42 ?_
        refine J_ldc O (pc := 45) mb_X10_isPng_4 dX10_isPng_45 ?_
        refine J_icmp_ne O (tgt := 54) (pc := 47) dX10_isPng_47 (by decide) (fun c47 => ?_) (fun c47 => ?_)
        · have hf := jt_f c47 hf
          refine J_iconst O (v := 0) (pc := 54) (by decide) dX10_isPng_54 ?_
          have e9 := Option.some.inj hf
          subst e9
          exact J_zret O (pc := 55) rfl dX10_isPng_55
        · have hf := jt_t c47 hf
          refine J_iconst O (v := 1) (pc := 50) (by decide) dX10_isPng_50 ?_
          refine J_goto O (tgt := 55) (pc := 51) dX10_isPng_51 (by decide) ?_
          have e9 := Option.some.inj hf
          subst e9
          exact J_zret O (pc := 55) rfl dX10_isPng_55
theorem in_X10_sizeOf_X10 : ∀ w ∈ u_ws RX10 TX10 18, w ∈ wsX10_sizeOf := fun _ h => List.mem_cons_of_mem _ (List.mem_append_right _ h)
theorem mb_X10_sizeOf_1 : Cond.fieldLink RX10 16 (TX10 4).1 (TX10 4).2.1 (TX10 4).2.2.1 ∈ wsX10_sizeOf := by decide +kernel
theorem mb_X10_sizeOf_2 : Cond.constant RX10 141 1382376308 ∈ wsX10_sizeOf := by decide +kernel
theorem mb_X10_sizeOf_3 : Cond.constant RX10 139 1347307296 ∈ wsX10_sizeOf := by decide +kernel
theorem mb_X10_sizeOf_4 : Cond.constant RX10 140 1246774599 ∈ wsX10_sizeOf := by decide +kernel
theorem mb_X10_sizeOf_5 : Cond.constantLong RX10 164 (-2) ∈ wsX10_sizeOf := by decide +kernel
theorem mb_X10_sizeOf_6 : Cond.fieldLink RX10 19 (TX10 5).1 (TX10 5).2.1 (TX10 5).2.2.1 ∈ wsX10_sizeOf := by decide +kernel
theorem hdV_X10_jpeg : yX10_jpeg.cls = RX10 ∧ yX10_jpeg.cls ≠ "java/lang/invoke/MethodHandle" ∧ yX10_jpeg.cls ≠ "java/lang/invoke/VarHandle" ∧ (parseMethodDescriptor yX10_jpeg.desc).map (fun d => d.parameters.length) = some 3 := by decide +kernel
theorem hdV_X10_isPng : yX10_isPng.cls = RX10 ∧ yX10_isPng.cls ≠ "java/lang/invoke/MethodHandle" ∧ yX10_isPng.cls ≠ "java/lang/invoke/VarHandle" ∧ (parseMethodDescriptor yX10_isPng.desc).map (fun d => d.parameters.length) = some 2 := by decide +kernel
theorem mb_X10_sizeOf_7 : Cond.fieldLink RX10 13 (TX10 2).1 (TX10 2).2.1 (TX10 2).2.2.1 ∈ wsX10_sizeOf := by decide +kernel
abbrev rmX10_sizeOf : Room := { frames := 2, cells := 0, slots := 0, locals := 51 }
set_option maxHeartbeats 4000000 in
set_option maxRecDepth 100000 in
theorem c_X10_sizeOf (l : Launch) (D : va_G) (cB cI cJ : ClassId) (m mt md mk ms mu mn mm mo mw : Nat) (m_tl : Int32) (m_dl : Int32) (m_c : Int32) (m_e : Int32) (m_ol : Int32) (m_fa : Int32) (m_f : Int32) (m_p : Int32) (m_is : Int32) (m_t : Nat → Int32) (m_d : Nat → Int32) (m_k : Nat → Int32) (m_s : Nat → Int32) (m_u : Nat → Int32) (m_n : Nat → Int64) (m_m : Nat → Int32) (m_o : Nat → Int32) (m_w : Nat → Int32) (a1 : Int32) (a2 : Int32) (fu : Nat) {z : Int64} (hf : p_X10_sizeOf fu m_d m_k m_s a1 a2 = some z) : Cl (l, D, cB, cI, cJ) yX10_sizeOf wsX10_sizeOf rmX10_sizeOf [.ref m, .int a1, .int a2] [(m, .inr (6, [.ref mt, .int m_tl, .ref md, .int m_dl, .ref mk, .ref ms, .int m_c, .ref mu, .ref mn, .ref mm, .int m_e, .ref mo, .int m_ol, .int m_fa, .int m_f, .ref mw, .int m_p, .int m_is])), (mt, .inl (cI, 6000, .inl m_t)), (md, .inl (cI, 12000, .inl m_d)), (mk, .inl (cI, 61, .inl m_k)), (ms, .inl (cI, 61, .inl m_s)), (mu, .inl (cI, 41, .inl m_u)), (mn, .inl (cJ, 41, .inr (.inl m_n))), (mm, .inl (cI, 41, .inl m_m)), (mo, .inl (cI, 14000, .inl m_o)), (mw, .inl (cI, 61, .inl m_w))] [(m, .inr (6, [.ref mt, .int m_tl, .ref md, .int m_dl, .ref mk, .ref ms, .int m_c, .ref mu, .ref mn, .ref mm, .int m_e, .ref mo, .int m_ol, .int m_fa, .int m_f, .ref mw, .int m_p, .int m_is])), (mt, .inl (cI, 6000, .inl m_t)), (md, .inl (cI, 12000, .inl m_d)), (mk, .inl (cI, 61, .inl m_k)), (ms, .inl (cI, 61, .inl m_s)), (mu, .inl (cI, 41, .inl m_u)), (mn, .inl (cJ, 41, .inr (.inl m_n))), (mm, .inl (cI, 41, .inl m_m)), (mo, .inl (cI, 14000, .inl m_o)), (mw, .inl (cI, 61, .inl m_w))] z := by
  refine Cl_of (cc := cX10_sizeOf) (nL := 4) (own := RX10) (ret := (some .long)) (by decide) rfl rfl (Nat.le_of_ble_eq_true rfl) (fun X O hnm0 => ?_)
  rw [p_X10_sizeOf] at hf
  show J X 4 (JQl X [(m, .inr (6, [.ref mt, .int m_tl, .ref md, .int m_dl, .ref mk, .ref ms, .int m_c, .ref mu, .ref mn, .ref mm, .int m_e, .ref mo, .int m_ol, .int m_fa, .int m_f, .ref mw, .int m_p, .int m_is])), (mt, .inl (cI, 6000, .inl m_t)), (md, .inl (cI, 12000, .inl m_d)), (mk, .inl (cI, 61, .inl m_k)), (ms, .inl (cI, 61, .inl m_s)), (mu, .inl (cI, 41, .inl m_u)), (mn, .inl (cJ, 41, .inr (.inl m_n))), (mm, .inl (cI, 41, .inl m_m)), (mo, .inl (cI, 14000, .inl m_o)), (mw, .inl (cI, 61, .inl m_w))] z 0 0) [(m, .inr (6, [.ref mt, .int m_tl, .ref md, .int m_dl, .ref mk, .ref ms, .int m_c, .ref mu, .ref mn, .ref mm, .int m_e, .ref mo, .int m_ol, .int m_fa, .int m_f, .ref mw, .int m_p, .int m_is])), (mt, .inl (cI, 6000, .inl m_t)), (md, .inl (cI, 12000, .inl m_d)), (mk, .inl (cI, 61, .inl m_k)), (ms, .inl (cI, 61, .inl m_s)), (mu, .inl (cI, 41, .inl m_u)), (mn, .inl (cJ, 41, .inr (.inl m_n))), (mm, .inl (cI, 41, .inl m_m)), (mo, .inl (cI, 14000, .inl m_o)), (mw, .inl (cI, 61, .inl m_w))] 0 0 0 [(0, .ref m), (1, .int a1), (2, .int a2)] []
  refine J_aload_n O (i := 0) (k0 := 0) (pc := 0) 0 rfl rfl dX10_sizeOf_0 ?_
  refine J_iload_n O (i := 1) (k0 := 1) (pc := 1) 1 rfl rfl dX10_sizeOf_1 ?_
  obtain ⟨z2, h2, hf⟩ := jt_b hf
  refine J_callVi O (pc := 2) (c_X10_fromOf l D cB cI cJ m mt md mk ms mu mn mm mo mw m_tl m_dl m_c m_e m_ol m_fa m_f m_p m_is m_t m_d m_k m_s m_u m_n m_m m_o m_w a1 fu h2) rfl 0 rfl rfl gX10_sizeOf_X10_fromOf hdV_X10_fromOf ⟨(Nat.le_of_ble_eq_true rfl), (Nat.le_of_ble_eq_true rfl)⟩ rfl (st := []) rfl (Nat.le_of_ble_eq_true rfl) [0, 1, 2, 3, 4, 5, 6, 7, 8, 9] [] rfl rfl rfl rfl rfl (by decide) [(m, .inr (6, [.ref mt, .int m_tl, .ref md, .int m_dl, .ref mk, .ref ms, .int m_c, .ref mu, .ref mn, .ref mm, .int m_e, .ref mo, .int m_ol, .int m_fa, .int m_f, .ref mw, .int m_p, .int m_is])), (mt, .inl (cI, 6000, .inl m_t)), (md, .inl (cI, 12000, .inl m_d)), (mk, .inl (cI, 61, .inl m_k)), (ms, .inl (cI, 61, .inl m_s)), (mu, .inl (cI, 41, .inl m_u)), (mn, .inl (cJ, 41, .inr (.inl m_n))), (mm, .inl (cI, 41, .inl m_m)), (mo, .inl (cI, 14000, .inl m_o)), (mw, .inl (cI, 61, .inl m_w))] [0, 1, 2, 3, 4, 5, 6, 7, 8, 9] rfl rfl rfl (0) (0) (Nat.le_of_ble_eq_true rfl) (Nat.le_of_ble_eq_true rfl) ⟨(Nat.le_of_ble_eq_true rfl), (Nat.le_of_ble_eq_true rfl)⟩ dX10_sizeOf_2 ?_
  refine J_istore_n O (i := 3) (k0 := 3) (pc := 5) rfl [(3, .int z2), (0, .ref m), (1, .int a1), (2, .int a2)] (by decide) rfl dX10_sizeOf_5 ?_
  refine J_aload_n O (i := 0) (k0 := 0) (pc := 6) 1 rfl rfl dX10_sizeOf_6 ?_
  refine J_get O (pc := 7) in_X10_sizeOf_X10 0 rfl rfl 4 (by decide) mb_X10_sizeOf_1 rfl dX10_sizeOf_7 ?_
  refine J_iload_n O (i := 1) (k0 := 1) (pc := 10) 2 rfl rfl dX10_sizeOf_10 ?_
  obtain ⟨h11, hf⟩ := jt_g hf
  refine J_iald O (pc := 11) 3 1 rfl rfl h11 dX10_sizeOf_11 ?_
  refine J_ldc O (pc := 12) mb_X10_sizeOf_2 dX10_sizeOf_12 ?_
  refine J_icmp_ne O (tgt := 47) (pc := 14) dX10_sizeOf_14 (by decide) (fun c14 => ?_) (fun c14 => ?_)
  · have hf := jt_f c14 hf
    refine J_aload_n O (i := 0) (k0 := 0) (pc := 47) 1 rfl rfl dX10_sizeOf_47 ?_
    refine J_get O (pc := 48) in_X10_sizeOf_X10 0 rfl rfl 4 (by decide) mb_X10_sizeOf_1 rfl dX10_sizeOf_48 ?_
    refine J_iload_n O (i := 1) (k0 := 1) (pc := 51) 2 rfl rfl dX10_sizeOf_51 ?_
    obtain ⟨h52, hf⟩ := jt_g hf
    refine J_iald O (pc := 52) 3 1 rfl rfl h52 dX10_sizeOf_52 ?_
    refine J_ldc O (pc := 53) mb_X10_sizeOf_3 dX10_sizeOf_53 ?_
    refine J_icmp_ne O (tgt := 94) (pc := 55) dX10_sizeOf_55 (by decide) (fun c55 => ?_) (fun c55 => ?_)
    · have hf := jt_f c55 hf
      refine J_aload_n O (i := 0) (k0 := 0) (pc := 94) 1 rfl rfl dX10_sizeOf_94 ?_
      refine J_get O (pc := 95) in_X10_sizeOf_X10 0 rfl rfl 4 (by decide) mb_X10_sizeOf_1 rfl dX10_sizeOf_95 ?_
      refine J_iload_n O (i := 1) (k0 := 1) (pc := 98) 2 rfl rfl dX10_sizeOf_98 ?_
      obtain ⟨h99, hf⟩ := jt_g hf
      refine J_iald O (pc := 99) 3 1 rfl rfl h99 dX10_sizeOf_99 ?_
      refine J_ldc O (pc := 100) mb_X10_sizeOf_4 dX10_sizeOf_100 ?_
      refine J_icmp_ne O (tgt := 120) (pc := 102) dX10_sizeOf_102 (by decide) (fun c102 => ?_) (fun c102 => ?_)
      · have hf := jt_f c102 hf
        refine J_ldc2 O (pc := 120) mb_X10_sizeOf_5 dX10_sizeOf_120 ?_
        have e9 := Option.some.inj hf
        subst e9
        exact J_lret O (pc := 123) rfl dX10_sizeOf_123
      · have hf := jt_t c102 hf
        refine J_aload_n O (i := 0) (k0 := 0) (pc := 105) 1 rfl rfl dX10_sizeOf_105 ?_
        refine J_iload_n O (i := 3) (k0 := 3) (pc := 106) 0 rfl rfl dX10_sizeOf_106 ?_
        refine J_aload_n O (i := 0) (k0 := 0) (pc := 107) 1 rfl rfl dX10_sizeOf_107 ?_
        refine J_get O (pc := 108) in_X10_sizeOf_X10 0 rfl rfl 5 (by decide) mb_X10_sizeOf_6 rfl dX10_sizeOf_108 ?_
        refine J_iload_n O (i := 1) (k0 := 1) (pc := 111) 2 rfl rfl dX10_sizeOf_111 ?_
        obtain ⟨h112, hf⟩ := jt_g hf
        refine J_iald O (pc := 112) 4 1 rfl rfl h112 dX10_sizeOf_112 ?_
        refine J_iload_n O (i := 2) (k0 := 2) (pc := 113) 3 rfl rfl dX10_sizeOf_113 ?_
        obtain ⟨z114, h114, hf⟩ := jt_b hf
        refine J_callVl O (pc := 114) (c_X10_jpeg l D cB cI cJ m mt md mk ms mu mn mm mo mw m_tl m_dl m_c m_e m_ol m_fa m_f m_p m_is m_t m_d m_k m_s m_u m_n m_m m_o m_w z2 (m_s (Int32.toNatClampNeg a1)) a2 fu h114) rfl 0 rfl rfl gX10_sizeOf_X10_jpeg hdV_X10_jpeg ⟨(Nat.le_of_ble_eq_true rfl), (Nat.le_of_ble_eq_true rfl)⟩ rfl (st := []) rfl (Nat.le_of_ble_eq_true rfl) [0, 1, 2, 3, 4, 5, 6, 7, 8, 9] [] rfl rfl rfl rfl rfl (by decide) [(m, .inr (6, [.ref mt, .int m_tl, .ref md, .int m_dl, .ref mk, .ref ms, .int m_c, .ref mu, .ref mn, .ref mm, .int m_e, .ref mo, .int m_ol, .int m_fa, .int m_f, .ref mw, .int m_p, .int m_is])), (mt, .inl (cI, 6000, .inl m_t)), (md, .inl (cI, 12000, .inl m_d)), (mk, .inl (cI, 61, .inl m_k)), (ms, .inl (cI, 61, .inl m_s)), (mu, .inl (cI, 41, .inl m_u)), (mn, .inl (cJ, 41, .inr (.inl m_n))), (mm, .inl (cI, 41, .inl m_m)), (mo, .inl (cI, 14000, .inl m_o)), (mw, .inl (cI, 61, .inl m_w))] [0, 1, 2, 3, 4, 5, 6, 7, 8, 9] rfl rfl rfl (0) (0) (Nat.le_of_ble_eq_true rfl) (Nat.le_of_ble_eq_true rfl) ⟨(Nat.le_of_ble_eq_true rfl), (Nat.le_of_ble_eq_true rfl)⟩ dX10_sizeOf_114 ?_
        refine J_goto O (tgt := 123) (pc := 117) dX10_sizeOf_117 (by decide) ?_
        have e9 := Option.some.inj hf
        subst e9
        exact J_lret O (pc := 123) rfl dX10_sizeOf_123
    · have hf := jt_t c55 hf
      refine J_aload_n O (i := 0) (k0 := 0) (pc := 58) 1 rfl rfl dX10_sizeOf_58 ?_
      refine J_iload_n O (i := 3) (k0 := 3) (pc := 59) 0 rfl rfl dX10_sizeOf_59 ?_
      refine J_aload_n O (i := 0) (k0 := 0) (pc := 60) 1 rfl rfl dX10_sizeOf_60 ?_
      refine J_get O (pc := 61) in_X10_sizeOf_X10 0 rfl rfl 5 (by decide) mb_X10_sizeOf_6 rfl dX10_sizeOf_61 ?_
      refine J_iload_n O (i := 1) (k0 := 1) (pc := 64) 2 rfl rfl dX10_sizeOf_64 ?_
      obtain ⟨h65, hf⟩ := jt_g hf
      refine J_iald O (pc := 65) 4 1 rfl rfl h65 dX10_sizeOf_65 ?_
      obtain ⟨z66, h66, hf⟩ := jt_b hf
      refine J_callVi O (pc := 66) (c_X10_isPng l D cB cI cJ m mt md mk ms mu mn mm mo mw m_tl m_dl m_c m_e m_ol m_fa m_f m_p m_is m_t m_d m_k m_s m_u m_n m_m m_o m_w z2 (m_s (Int32.toNatClampNeg a1)) h66) rfl 0 rfl rfl gX10_sizeOf_X10_isPng hdV_X10_isPng ⟨(Nat.le_of_ble_eq_true rfl), (Nat.le_of_ble_eq_true rfl)⟩ rfl (st := []) rfl (Nat.le_of_ble_eq_true rfl) [0, 1, 2, 3, 4, 5, 6, 7, 8, 9] [] rfl rfl rfl rfl rfl (by decide) [(m, .inr (6, [.ref mt, .int m_tl, .ref md, .int m_dl, .ref mk, .ref ms, .int m_c, .ref mu, .ref mn, .ref mm, .int m_e, .ref mo, .int m_ol, .int m_fa, .int m_f, .ref mw, .int m_p, .int m_is])), (mt, .inl (cI, 6000, .inl m_t)), (md, .inl (cI, 12000, .inl m_d)), (mk, .inl (cI, 61, .inl m_k)), (ms, .inl (cI, 61, .inl m_s)), (mu, .inl (cI, 41, .inl m_u)), (mn, .inl (cJ, 41, .inr (.inl m_n))), (mm, .inl (cI, 41, .inl m_m)), (mo, .inl (cI, 14000, .inl m_o)), (mw, .inl (cI, 61, .inl m_w))] [0, 1, 2, 3, 4, 5, 6, 7, 8, 9] rfl rfl rfl (0) (0) (Nat.le_of_ble_eq_true rfl) (Nat.le_of_ble_eq_true rfl) ⟨(Nat.le_of_ble_eq_true rfl), (Nat.le_of_ble_eq_true rfl)⟩ dX10_sizeOf_66 ?_
      refine J_zeq O (tgt := 90) (pc := 69) dX10_sizeOf_69 (by decide) (fun c69 => ?_) (fun c69 => ?_)
      · have hf := jt_f c69 hf
        refine J_ldc2 O (pc := 90) mb_X10_sizeOf_5 dX10_sizeOf_90 ?_
        have e9 := Option.some.inj hf
        subst e9
        exact J_lret O (pc := 93) rfl dX10_sizeOf_93
      · have hf := jt_t c69 hf
        refine J_aload_n O (i := 0) (k0 := 0) (pc := 72) 1 rfl rfl dX10_sizeOf_72 ?_
        refine J_get O (pc := 73) in_X10_sizeOf_X10 0 rfl rfl 2 (by decide) mb_X10_sizeOf_7 rfl dX10_sizeOf_73 ?_
        refine J_iload_n O (i := 3) (k0 := 3) (pc := 76) 0 rfl rfl dX10_sizeOf_76 ?_
        refine J_bipush O (v := 16) (pc := 77) (by decide) dX10_sizeOf_77 ?_
        refine J_iadd O (pc := 79) dX10_sizeOf_79 ?_
        refine J_iconst O (v := 4) (pc := 80) (by decide) dX10_sizeOf_80 ?_
        refine J_iload_n O (i := 2) (k0 := 2) (pc := 81) 3 rfl rfl dX10_sizeOf_81 ?_
        refine J_imul O (pc := 82) dX10_sizeOf_82 ?_
        refine J_iadd O (pc := 83) dX10_sizeOf_83 ?_
        obtain ⟨z84, h84, hf⟩ := jt_b hf
        refine J_callSl O (pc := 84) (c_X10_four l D cB cI cJ md 12000 m_d ((z2 + 16) + (4 * a2)) h84) rfl gX10_sizeOf_X10_four hdS_X10_four ⟨(Nat.le_of_ble_eq_true rfl), (Nat.le_of_ble_eq_true rfl)⟩ rfl (st := []) rfl (Nat.le_of_ble_eq_true rfl) [2] [0, 1, 3, 4, 5, 6, 7, 8, 9] rfl rfl rfl rfl rfl (by decide) [(m, .inr (6, [.ref mt, .int m_tl, .ref md, .int m_dl, .ref mk, .ref ms, .int m_c, .ref mu, .ref mn, .ref mm, .int m_e, .ref mo, .int m_ol, .int m_fa, .int m_f, .ref mw, .int m_p, .int m_is])), (mt, .inl (cI, 6000, .inl m_t)), (md, .inl (cI, 12000, .inl m_d)), (mk, .inl (cI, 61, .inl m_k)), (ms, .inl (cI, 61, .inl m_s)), (mu, .inl (cI, 41, .inl m_u)), (mn, .inl (cJ, 41, .inr (.inl m_n))), (mm, .inl (cI, 41, .inl m_m)), (mo, .inl (cI, 14000, .inl m_o)), (mw, .inl (cI, 61, .inl m_w))] [0, 1, 9, 2, 3, 4, 5, 6, 7, 8] rfl rfl rfl (0) (0) (Nat.le_of_ble_eq_true rfl) (Nat.le_of_ble_eq_true rfl) ⟨(Nat.le_of_ble_eq_true rfl), (Nat.le_of_ble_eq_true rfl)⟩ dX10_sizeOf_84 ?_
        refine J_goto O (tgt := 93) (pc := 87) dX10_sizeOf_87 (by decide) ?_
        have e9 := Option.some.inj hf
        subst e9
        exact J_lret O (pc := 93) rfl dX10_sizeOf_93
  · have hf := jt_t c14 hf
    refine J_aload_n O (i := 0) (k0 := 0) (pc := 17) 1 rfl rfl dX10_sizeOf_17 ?_
    refine J_get O (pc := 18) in_X10_sizeOf_X10 0 rfl rfl 5 (by decide) mb_X10_sizeOf_6 rfl dX10_sizeOf_18 ?_
    refine J_iload_n O (i := 1) (k0 := 1) (pc := 21) 2 rfl rfl dX10_sizeOf_21 ?_
    obtain ⟨h22, hf⟩ := jt_g hf
    refine J_iald O (pc := 22) 4 1 rfl rfl h22 dX10_sizeOf_22 ?_
    refine J_bipush O (v := 8) (pc := 23) (by decide) dX10_sizeOf_23 ?_
    refine J_icmp_lt O (tgt := 43) (pc := 25) dX10_sizeOf_25 (by decide) (fun c25 => ?_) (fun c25 => ?_)
    · have hf := jt_t c25 hf
      refine J_ldc2 O (pc := 43) mb_X10_sizeOf_5 dX10_sizeOf_43 ?_
      have e9 := Option.some.inj hf
      subst e9
      exact J_lret O (pc := 46) rfl dX10_sizeOf_46
    · have hf := jt_f c25 hf
      refine J_aload_n O (i := 0) (k0 := 0) (pc := 28) 1 rfl rfl dX10_sizeOf_28 ?_
      refine J_get O (pc := 29) in_X10_sizeOf_X10 0 rfl rfl 2 (by decide) mb_X10_sizeOf_7 rfl dX10_sizeOf_29 ?_
      refine J_iload_n O (i := 3) (k0 := 3) (pc := 32) 0 rfl rfl dX10_sizeOf_32 ?_
      refine J_iconst O (v := 4) (pc := 33) (by decide) dX10_sizeOf_33 ?_
      refine J_iload_n O (i := 2) (k0 := 2) (pc := 34) 3 rfl rfl dX10_sizeOf_34 ?_
      refine J_imul O (pc := 35) dX10_sizeOf_35 ?_
      refine J_iadd O (pc := 36) dX10_sizeOf_36 ?_
      obtain ⟨z37, h37, hf⟩ := jt_b hf
      refine J_callSl O (pc := 37) (c_X10_four l D cB cI cJ md 12000 m_d (z2 + (4 * a2)) h37) rfl gX10_sizeOf_X10_four hdS_X10_four ⟨(Nat.le_of_ble_eq_true rfl), (Nat.le_of_ble_eq_true rfl)⟩ rfl (st := []) rfl (Nat.le_of_ble_eq_true rfl) [2] [0, 1, 3, 4, 5, 6, 7, 8, 9] rfl rfl rfl rfl rfl (by decide) [(m, .inr (6, [.ref mt, .int m_tl, .ref md, .int m_dl, .ref mk, .ref ms, .int m_c, .ref mu, .ref mn, .ref mm, .int m_e, .ref mo, .int m_ol, .int m_fa, .int m_f, .ref mw, .int m_p, .int m_is])), (mt, .inl (cI, 6000, .inl m_t)), (md, .inl (cI, 12000, .inl m_d)), (mk, .inl (cI, 61, .inl m_k)), (ms, .inl (cI, 61, .inl m_s)), (mu, .inl (cI, 41, .inl m_u)), (mn, .inl (cJ, 41, .inr (.inl m_n))), (mm, .inl (cI, 41, .inl m_m)), (mo, .inl (cI, 14000, .inl m_o)), (mw, .inl (cI, 61, .inl m_w))] [0, 1, 9, 2, 3, 4, 5, 6, 7, 8] rfl rfl rfl (0) (0) (Nat.le_of_ble_eq_true rfl) (Nat.le_of_ble_eq_true rfl) ⟨(Nat.le_of_ble_eq_true rfl), (Nat.le_of_ble_eq_true rfl)⟩ dX10_sizeOf_37 ?_
      refine J_goto O (tgt := 46) (pc := 40) dX10_sizeOf_40 (by decide) ?_
      have e9 := Option.some.inj hf
      subst e9
      exact J_lret O (pc := 46) rfl dX10_sizeOf_46
theorem mb_X10_size_0 : Cond.constantLong RX10 150 (-1) ∈ wsX10_size := by decide +kernel
theorem hdV_X10_sizeOf : yX10_sizeOf.cls = RX10 ∧ yX10_sizeOf.cls ≠ "java/lang/invoke/MethodHandle" ∧ yX10_sizeOf.cls ≠ "java/lang/invoke/VarHandle" ∧ (parseMethodDescriptor yX10_sizeOf.desc).map (fun d => d.parameters.length) = some 2 := by decide +kernel
abbrev rmX10_size : Room := { frames := 3, cells := 0, slots := 0, locals := 74 }
set_option maxHeartbeats 4000000 in
set_option maxRecDepth 100000 in
theorem c_X10_size (l : Launch) (D : va_G) (cB cI cJ : ClassId) (m mt md mk ms mu mn mm mo mw : Nat) (m_tl : Int32) (m_dl : Int32) (m_c : Int32) (m_e : Int32) (m_ol : Int32) (m_fa : Int32) (m_f : Int32) (m_p : Int32) (m_is : Int32) (m_t : Nat → Int32) (m_d : Nat → Int32) (m_k : Nat → Int32) (m_s : Nat → Int32) (m_u : Nat → Int32) (m_n : Nat → Int64) (m_m : Nat → Int32) (m_o : Nat → Int32) (m_w : Nat → Int32) (a1 : Int32) (a2 : Int32) (fu : Nat) {z : Int64} (hf : p_X10_size fu m_c m_d m_k m_s a1 a2 = some z) : Cl (l, D, cB, cI, cJ) yX10_size wsX10_size rmX10_size [.ref m, .int a1, .int a2] [(m, .inr (6, [.ref mt, .int m_tl, .ref md, .int m_dl, .ref mk, .ref ms, .int m_c, .ref mu, .ref mn, .ref mm, .int m_e, .ref mo, .int m_ol, .int m_fa, .int m_f, .ref mw, .int m_p, .int m_is])), (mt, .inl (cI, 6000, .inl m_t)), (md, .inl (cI, 12000, .inl m_d)), (mk, .inl (cI, 61, .inl m_k)), (ms, .inl (cI, 61, .inl m_s)), (mu, .inl (cI, 41, .inl m_u)), (mn, .inl (cJ, 41, .inr (.inl m_n))), (mm, .inl (cI, 41, .inl m_m)), (mo, .inl (cI, 14000, .inl m_o)), (mw, .inl (cI, 61, .inl m_w))] [(m, .inr (6, [.ref mt, .int m_tl, .ref md, .int m_dl, .ref mk, .ref ms, .int m_c, .ref mu, .ref mn, .ref mm, .int m_e, .ref mo, .int m_ol, .int m_fa, .int m_f, .ref mw, .int m_p, .int m_is])), (mt, .inl (cI, 6000, .inl m_t)), (md, .inl (cI, 12000, .inl m_d)), (mk, .inl (cI, 61, .inl m_k)), (ms, .inl (cI, 61, .inl m_s)), (mu, .inl (cI, 41, .inl m_u)), (mn, .inl (cJ, 41, .inr (.inl m_n))), (mm, .inl (cI, 41, .inl m_m)), (mo, .inl (cI, 14000, .inl m_o)), (mw, .inl (cI, 61, .inl m_w))] z := by
  refine Cl_of (cc := cX10_size) (nL := 3) (own := RX10) (ret := (some .long)) (by decide) rfl rfl (Nat.le_of_ble_eq_true rfl) (fun X O hnm0 => ?_)
  rw [p_X10_size] at hf
  show J X 3 (JQl X [(m, .inr (6, [.ref mt, .int m_tl, .ref md, .int m_dl, .ref mk, .ref ms, .int m_c, .ref mu, .ref mn, .ref mm, .int m_e, .ref mo, .int m_ol, .int m_fa, .int m_f, .ref mw, .int m_p, .int m_is])), (mt, .inl (cI, 6000, .inl m_t)), (md, .inl (cI, 12000, .inl m_d)), (mk, .inl (cI, 61, .inl m_k)), (ms, .inl (cI, 61, .inl m_s)), (mu, .inl (cI, 41, .inl m_u)), (mn, .inl (cJ, 41, .inr (.inl m_n))), (mm, .inl (cI, 41, .inl m_m)), (mo, .inl (cI, 14000, .inl m_o)), (mw, .inl (cI, 61, .inl m_w))] z 0 0) [(m, .inr (6, [.ref mt, .int m_tl, .ref md, .int m_dl, .ref mk, .ref ms, .int m_c, .ref mu, .ref mn, .ref mm, .int m_e, .ref mo, .int m_ol, .int m_fa, .int m_f, .ref mw, .int m_p, .int m_is])), (mt, .inl (cI, 6000, .inl m_t)), (md, .inl (cI, 12000, .inl m_d)), (mk, .inl (cI, 61, .inl m_k)), (ms, .inl (cI, 61, .inl m_s)), (mu, .inl (cI, 41, .inl m_u)), (mn, .inl (cJ, 41, .inr (.inl m_n))), (mm, .inl (cI, 41, .inl m_m)), (mo, .inl (cI, 14000, .inl m_o)), (mw, .inl (cI, 61, .inl m_w))] 0 0 0 [(0, .ref m), (1, .int a1), (2, .int a2)] []
  refine J_aload_n O (i := 0) (k0 := 0) (pc := 0) 0 rfl rfl dX10_size_0 ?_
  refine J_iload_n O (i := 1) (k0 := 1) (pc := 1) 1 rfl rfl dX10_size_1 ?_
  obtain ⟨z2, h2, hf⟩ := jt_b hf
  refine J_callVi O (pc := 2) (c_X10_isChunk l D cB cI cJ m mt md mk ms mu mn mm mo mw m_tl m_dl m_c m_e m_ol m_fa m_f m_p m_is m_t m_d m_k m_s m_u m_n m_m m_o m_w a1 h2) rfl 0 rfl rfl gX10_size_X10_isChunk hdV_X10_isChunk ⟨(Nat.le_of_ble_eq_true rfl), (Nat.le_of_ble_eq_true rfl)⟩ rfl (st := []) rfl (Nat.le_of_ble_eq_true rfl) [0, 1, 2, 3, 4, 5, 6, 7, 8, 9] [] rfl rfl rfl rfl rfl (by decide) [(m, .inr (6, [.ref mt, .int m_tl, .ref md, .int m_dl, .ref mk, .ref ms, .int m_c, .ref mu, .ref mn, .ref mm, .int m_e, .ref mo, .int m_ol, .int m_fa, .int m_f, .ref mw, .int m_p, .int m_is])), (mt, .inl (cI, 6000, .inl m_t)), (md, .inl (cI, 12000, .inl m_d)), (mk, .inl (cI, 61, .inl m_k)), (ms, .inl (cI, 61, .inl m_s)), (mu, .inl (cI, 41, .inl m_u)), (mn, .inl (cJ, 41, .inr (.inl m_n))), (mm, .inl (cI, 41, .inl m_m)), (mo, .inl (cI, 14000, .inl m_o)), (mw, .inl (cI, 61, .inl m_w))] [0, 1, 2, 3, 4, 5, 6, 7, 8, 9] rfl rfl rfl (0) (0) (Nat.le_of_ble_eq_true rfl) (Nat.le_of_ble_eq_true rfl) ⟨(Nat.le_of_ble_eq_true rfl), (Nat.le_of_ble_eq_true rfl)⟩ dX10_size_2 ?_
  refine J_zeq O (tgt := 27) (pc := 5) dX10_size_5 (by decide) (fun c5 => ?_) (fun c5 => ?_)
  · have hf := jt_f c5 hf
    refine J_ldc2 O (pc := 27) mb_X10_size_0 dX10_size_27 ?_
    have e9 := Option.some.inj hf
    subst e9
    exact J_lret O (pc := 30) rfl dX10_size_30
  · have hf := jt_t c5 hf
    refine J_iload_n O (i := 2) (k0 := 2) (pc := 8) 2 rfl rfl dX10_size_8 ?_
    refine J_i2l O (pc := 9) dX10_size_9 ?_
    refine J_lconst O (v := 0) (pc := 10) (by decide) dX10_size_10 ?_
    refine J_lconst O (v := 1) (pc := 11) (by decide) dX10_size_11 ?_
    obtain ⟨z12, h12, hf⟩ := jt_b hf
    refine J_callSi O (pc := 12) (c_X10_in l D cB cI cJ (Int32.toInt64 a2) 0 1 h12) rfl gX10_size_X10_in hdS_X10_in ⟨(Nat.le_of_ble_eq_true rfl), (Nat.le_of_ble_eq_true rfl)⟩ rfl (st := []) rfl (Nat.le_of_ble_eq_true rfl) [] [0, 1, 2, 3, 4, 5, 6, 7, 8, 9] rfl rfl rfl rfl rfl (by decide) [(m, .inr (6, [.ref mt, .int m_tl, .ref md, .int m_dl, .ref mk, .ref ms, .int m_c, .ref mu, .ref mn, .ref mm, .int m_e, .ref mo, .int m_ol, .int m_fa, .int m_f, .ref mw, .int m_p, .int m_is])), (mt, .inl (cI, 6000, .inl m_t)), (md, .inl (cI, 12000, .inl m_d)), (mk, .inl (cI, 61, .inl m_k)), (ms, .inl (cI, 61, .inl m_s)), (mu, .inl (cI, 41, .inl m_u)), (mn, .inl (cJ, 41, .inr (.inl m_n))), (mm, .inl (cI, 41, .inl m_m)), (mo, .inl (cI, 14000, .inl m_o)), (mw, .inl (cI, 61, .inl m_w))] [0, 1, 2, 3, 4, 5, 6, 7, 8, 9] rfl rfl rfl (0) (0) (Nat.le_of_ble_eq_true rfl) (Nat.le_of_ble_eq_true rfl) ⟨(Nat.le_of_ble_eq_true rfl), (Nat.le_of_ble_eq_true rfl)⟩ dX10_size_12 ?_
    refine J_zeq O (tgt := 27) (pc := 15) dX10_size_15 (by decide) (fun c15 => ?_) (fun c15 => ?_)
    · have hf := jt_f c15 hf
      refine J_ldc2 O (pc := 27) mb_X10_size_0 dX10_size_27 ?_
      have e9 := Option.some.inj hf
      subst e9
      exact J_lret O (pc := 30) rfl dX10_size_30
    · have hf := jt_t c15 hf
      refine J_aload_n O (i := 0) (k0 := 0) (pc := 18) 0 rfl rfl dX10_size_18 ?_
      refine J_iload_n O (i := 1) (k0 := 1) (pc := 19) 1 rfl rfl dX10_size_19 ?_
      refine J_iload_n O (i := 2) (k0 := 2) (pc := 20) 2 rfl rfl dX10_size_20 ?_
      obtain ⟨z21, h21, hf⟩ := jt_b hf
      refine J_callVl O (pc := 21) (c_X10_sizeOf l D cB cI cJ m mt md mk ms mu mn mm mo mw m_tl m_dl m_c m_e m_ol m_fa m_f m_p m_is m_t m_d m_k m_s m_u m_n m_m m_o m_w a1 a2 fu h21) rfl 0 rfl rfl gX10_size_X10_sizeOf hdV_X10_sizeOf ⟨(Nat.le_of_ble_eq_true rfl), (Nat.le_of_ble_eq_true rfl)⟩ rfl (st := []) rfl (Nat.le_of_ble_eq_true rfl) [0, 1, 2, 3, 4, 5, 6, 7, 8, 9] [] rfl rfl rfl rfl rfl (by decide) [(m, .inr (6, [.ref mt, .int m_tl, .ref md, .int m_dl, .ref mk, .ref ms, .int m_c, .ref mu, .ref mn, .ref mm, .int m_e, .ref mo, .int m_ol, .int m_fa, .int m_f, .ref mw, .int m_p, .int m_is])), (mt, .inl (cI, 6000, .inl m_t)), (md, .inl (cI, 12000, .inl m_d)), (mk, .inl (cI, 61, .inl m_k)), (ms, .inl (cI, 61, .inl m_s)), (mu, .inl (cI, 41, .inl m_u)), (mn, .inl (cJ, 41, .inr (.inl m_n))), (mm, .inl (cI, 41, .inl m_m)), (mo, .inl (cI, 14000, .inl m_o)), (mw, .inl (cI, 61, .inl m_w))] [0, 1, 2, 3, 4, 5, 6, 7, 8, 9] rfl rfl rfl (0) (0) (Nat.le_of_ble_eq_true rfl) (Nat.le_of_ble_eq_true rfl) ⟨(Nat.le_of_ble_eq_true rfl), (Nat.le_of_ble_eq_true rfl)⟩ dX10_size_21 ?_
      refine J_goto O (tgt := 30) (pc := 24) dX10_size_24 (by decide) ?_
      have e9 := Option.some.inj hf
      subst e9
      exact J_lret O (pc := 30) rfl dX10_size_30
