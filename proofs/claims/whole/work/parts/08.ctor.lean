/-! contracts of constructors that make cells -/
def CE (g : JG) (y : MethodName) (ts : List Cond) (rm : Room) (As : List Value) (w : va_W) (Wp : va_W → Prop) : Prop := ∀ sz : Nat, Met g.1 y ts rm (CPre g As w sz) (va_Qv (fun w' : va_W => Wp w') (fun w' t => CEnd g w' (va_A w sz) t) (va_A w sz)) rm.cells rm.slots (va_A w sz)
def JQe (X : JC) (Wp : va_W → Prop) (mc ms : Nat) : State → Prop := match X with
  | (_, l, _, _, s, _, args, below, _, _, D, A, cB, cI, cJ) => MQ below (va_Qv (fun w' : va_W => Wp w') (fun w' t => CEnd (l, D, cB, cI, cJ) w' A t) A) args s mc ms A
section CEr
variable {X : JC} {g : JG} {cc : ByteArray} {nL : Nat} {own : String} {Ts ts : List Cond} {R0 rm : Room} {ret : Option FieldType} {Q : State → Prop} {ws w : va_W} {cells slots pc mc ms : Nat} {lv : List (Nat × Value)} {st : List Value} {y : MethodName} {As : List Value} {Wp : va_W → Prop}
theorem J_eret (O : Jo X g cc nL own Ts R0 none) (hw : Wp ws) (d : decode cc pc = .ok (.return_, 1)) : J X nL (JQe X Wp cells slots) ws cells slots pc lv [] := by
  obtain ⟨p, l, e, R, s, m, args, below, meth, c, D, A, cB, cI, cJ⟩ := X
  obtain ⟨hx, hb, hml, hown, hts, hA, hK, hlk, hrt, hR, hg⟩ := O; subst hg
  intro H locs ls hP hD hS hl
  exact W.vret hx hb hrt (fun t ht hW => ⟨⟨ws, rfl, hw, by rw [ht]; exact hP, va_K.moved hW.alike hK, hD⟩, hS.F ht⟩) hS.2.2 d hlk
theorem CE_of {ts' : List Cond} (hy : plainName y.cls = true) (ho : y.cls = own) (hw : ts = Cond.code y cc nL ret :: ts') (hn : (lg_sl As).length ≤ nL) (h : ∀ X : JC, Jo X g cc nL own ts rm ret → (y.name = "<init>" → Jnm X) → J X nL (JQe X Wp rm.cells rm.slots) w 0 0 0 (lv_args 0 As) []) : CE g y ts rm As w Wp := by
  obtain ⟨l, D, cB, cI, cJ⟩ := g
  intro sz
  refine Met.ofW (cc := cc) (maxL := nL) (ret := ret) hy hw ?_
  intro p e s m args below meth c s₁ B hml hv
  obtain ⟨rfl, hsz, hP, hK, hD0⟩ := hv
  subst hsz
  have hts := atoms_spec (ws := ts) B.pre
  have hown : s.vm.findClass y.cls = some m.cls := findClass_of_methodNamed B.named
  rw [ho] at hown
  have hD := hD0.self (sz := s.heap.size)
  have h1 := h (p, l, e, rm, s, m, As.toArray, below, meth, c, D, va_A w s.heap.size, cB, cI, cJ) ⟨B.exec, B.bytes, hml, hown, hts, fun q h => Or.inr h, hK, B.notSynchronized, B.returns, rfl, rfl⟩ (fun h9 => (name_of_methodNamed B.named B.method).1.trans h9)
  have hl := lv_entry As (n := nL) hn
  rw [lg_entry_eq]
  exact h1 s.heap [] _ hP hD va_S.rf hl
theorem J_callIe (O : Jo X g cc nL own Ts R0 ret) {bytes : ByteArray} {maxL idx : Nat} {ts' : List Cond} {b n : Nat} (hM : CE g y ts rm (.ref b :: As) w Wp) (hc : ts = Cond.code y bytes maxL none :: ts') (hG : GoodIn Ts ts) (hm1 : Cond.initialized y.cls ∈ Ts) (hm2 : Cond.methodLink own idx y ∈ Ts) (hm3 : Cond.instanceMethod y ∈ Ts) (hyn : y.name = "<init>") (hd : y.cls ≠ "java/lang/invoke/MethodHandle" ∧ y.cls ≠ "java/lang/invoke/VarHandle" ∧ (parseMethodDescriptor y.desc).map (fun d => d.parameters.length) = some n) (hRm : rm.frames + 1 ≤ R0.frames ∧ 8 + (maxL + 11) + rm.locals ≤ R0.locals) (hAn : As.length = n) {st0 : List Value} (hst : st0 = As.reverse ++ .ref b :: st) (hcat : (st.map fun v => v.category).sum ≤ 8) (isC isR : List Nat) (hC1 : isC.filterMap (fun i => ws[i]?) = w) (hC2 : isC.map (fun i => ws[i]?) = w.map some) (hCn : va_nd isC = true) (hR2 : isR.map (fun i => ws[i]?) = (isR.filterMap (fun i => ws[i]?)).map some) (hRn : va_nd isR = true) (hdis : ∀ i ∈ isR, i ∉ isC) (c' s' : Nat) (hc1 : cells + rm.cells ≤ c') (hs1 : slots + rm.slots ≤ s') (hcs : c' ≤ R0.cells ∧ s' ≤ R0.slots) (d : decode cc pc = .ok (.invokespecial idx, 3)) (k : ∀ w' : va_W, Wp w' → J X nL Q ((isR.filterMap (fun i => ws[i]?)) ++ w') c' s' (pc + 3) lv st) : J X nL Q ws cells slots pc lv st0 := by
  obtain ⟨p, l, e, R, s, m, args, below, meth, c, D, A, cB, cI, cJ⟩ := X
  obtain ⟨hx, hb, hml, hown, hts, hA, hK, hlk, hrt, hR, hg⟩ := O; subst hg; subst hR
  subst hst
  intro H locs ls hP hD hS hl
  have hPc : va_P D vwCl w H := hP.sub isC hC1
  have hDc : va_D A w := hD.sub isC hCn hC2
  have hFc := va_free (wc := w) hD hS hA isC hC2
  have bl : FrameBlind (CPre (l, D, cB, cI, cJ) (.ref b :: As) w H.size) := fun a U g mk q => by
    obtain ⟨q0, q1, qP, qK, qD⟩ := q
    exact ⟨q0, q1, qP, va_K.moved (u := U) (U := U.calling g mk a) (Vm.Alike.refl U.vm) qK, qD⟩
  have pr : ∀ U : State, U.heap = H → s.WarmedH U.vm → CPre (l, D, cB, cI, cJ) (.ref b :: As) w H.size (.ref b :: As).toArray U := fun U hU hW => ⟨rfl, by rw [hU], by rw [hU]; exact hPc, va_K.moved hW.alike hK, hDc.weaken (fun _ _ _ _ => trivial)⟩
  refine va_callv (va_runI (As := As) (rest := st) ⟨hx, hb, hml, hown, hts⟩ (hM H.size) (cwI n hts hG hc rfl rfl (hts _ hm1) (hts _ hm2) (hts _ hm3) hyn hd hRm) ⟨bl, pr⟩ rfl hAn hl.1 rfl (lv_room hcat) d ⟨Nat.le_trans hc1 hcs.1, Nat.le_trans hs1 hcs.2⟩) hS (fun q _ h => hFc q h) hFc (fun u t H1 locs1 ht hvm hw hB hz1 hk1 hS1 => ?_)
  obtain ⟨hP1, hK1, hD1⟩ := hB
  rw [ht] at hP1
  obtain ⟨hP2, hD2⟩ := va_join hP hD isC isR hC2 hR2 hRn hdis hk1 hFc hP1 hD1
  exact W.widen hc1 hs1 (k u hw H1 locs1 ls hP2 hD2 hS1 hl)
end CEr
theorem mb_X6_init_0 : Cond.methodLink RX6 1 objectInit ∈ wsX6_init := by decide +kernel
theorem mb_X6_init_1 : Cond.instanceMethod objectInit ∈ wsX6_init := by decide +kernel
theorem mb_X6_init_2 : Cond.code objectInit ⟨#[0xb1]⟩ 1 none ∈ wsX6_init := by decide +kernel
theorem mb_X6_init_3 : Cond.methodLink RX6 7 Lib.Math.max.name ∈ wsX6_init := by decide +kernel
theorem mb_X6_init_4 : Cond.static Lib.Math.max.name ∈ wsX6_init := by decide +kernel
theorem mb_X6_init_5 : Cond.initialized "java/lang/Math" ∈ wsX6_init := by decide +kernel
theorem mb_X6_init_6 : Cond.code Lib.Math.max.name Lib.Math.max.code 2 (some .int) ∈ wsX6_init := by decide +kernel
theorem mb_X6_init_7 : Cond.arrayClass .byte ∈ wsX6_init := by decide +kernel
theorem in_X6_init_X6 : ∀ w ∈ u_ws RX6 TX6 2, w ∈ wsX6_init := fun _ h => List.mem_cons_of_mem _ (List.mem_append_right _ h)
theorem mb_X6_init_9 : Cond.fieldLink RX6 13 (TX6 0).1 (TX6 0).2.1 (TX6 0).2.2.1 ∈ wsX6_init := by decide +kernel
theorem mb_X6_init_10 : Cond.fieldLink RX6 19 (TX6 1).1 (TX6 1).2.1 (TX6 1).2.2.1 ∈ wsX6_init := by decide +kernel
abbrev rmX6_init6000 : Room := { frames := 1, cells := 1, slots := 6000, locals := 21 }
set_option maxHeartbeats 4000000 in
set_option maxRecDepth 100000 in
theorem c_X6_init6000 (l : Launch) (D : va_G) (cB cI cJ : ClassId) (t : Nat) : CE (l, D, cB, cI, cJ) yX6_init wsX6_init rmX6_init6000 [.ref t, .int 6000] [(t, .inr (4, [.null, .int 0]))] (fun w9 => ∃ (n10 : Nat), w9 = [(t, .inr (4, [.ref n10, .int 0])), (n10, .inl (cB, 6000, .inl (b8 (fun _ => 0))))]) := by
  refine CE_of (cc := cX6_init) (nL := 2) (own := RX6) (ret := none) (by decide) rfl rfl (Nat.le_of_ble_eq_true rfl) (fun X O hnm0 => ?_)
  have hnm := hnm0 rfl
  show J X 2 (JQe X (fun w9 => ∃ (n10 : Nat), w9 = [(t, .inr (4, [.ref n10, .int 0])), (n10, .inl (cB, 6000, .inl (b8 (fun _ => 0))))]) 1 6000) [(t, .inr (4, [.null, .int 0]))] 0 0 0 [(0, .ref t), (1, .int 6000)] []
  refine J_aload_n O (i := 0) (k0 := 0) (pc := 0) 0 rfl rfl dX6_init_0 ?_
  refine J_objInit O (pc := 1) mb_X6_init_0 mb_X6_init_1 mb_X6_init_2 (Nat.le_of_ble_eq_true rfl) (Nat.le_of_ble_eq_true rfl) dX6_init_1 ?_
  refine J_aload_n O (i := 0) (k0 := 0) (pc := 4) 0 rfl rfl dX6_init_4 ?_
  refine J_iload_n O (i := 1) (k0 := 1) (pc := 5) 1 rfl rfl dX6_init_5 ?_
  refine J_iconst O (v := 0) (pc := 6) (by decide) dX6_init_6 ?_
  refine J_mmax O (pc := 7) mb_X6_init_3 mb_X6_init_4 mb_X6_init_5 mb_X6_init_6 (Nat.le_of_ble_eq_true rfl) (Nat.le_of_ble_eq_true rfl) (Nat.le_of_ble_eq_true rfl) (Nat.le_of_ble_eq_true rfl) dX6_init_7 ?_
  refine J_newB O (pc := 10) 6000 mb_X6_init_7 (by decide) (by decide) (by decide) (Nat.le_of_ble_eq_true rfl) (Nat.le_of_ble_eq_true rfl) dX6_init_10 (fun n10 => [(t, .inr (4, [.null, .int 0])), (n10, .inl (cB, 6000, .inl (b8 (fun _ => 0))))]) (fun _ => rfl) 1 6000 rfl rfl (fun n10 => ?_)
  refine J_putF O (pc := 12) in_X6_init_X6 tyX6 tyX6_ok nmX6 0 rfl rfl 0 (by decide) mb_X6_init_9 rfl hnm rfl rfl rfl (Nat.le_of_ble_eq_true rfl) [(t, .inr (4, [.ref n10, .int 0])), (n10, .inl (cB, 6000, .inl (b8 (fun _ => 0))))] rfl dX6_init_12 ?_
  refine J_aload_n O (i := 0) (k0 := 0) (pc := 15) 0 rfl rfl dX6_init_15 ?_
  refine J_iconst O (v := 0) (pc := 16) (by decide) dX6_init_16 ?_
  refine J_put O (pc := 17) in_X6_init_X6 tyX6 tyX6_ok nmX6 0 rfl rfl 1 (by decide) mb_X6_init_10 rfl rfl rfl (Nat.le_of_ble_eq_true rfl) [(t, .inr (4, [.ref n10, .int 0])), (n10, .inl (cB, 6000, .inl (b8 (fun _ => 0))))] rfl dX6_init_17 ?_
  exact J_eret O (pc := 20) ⟨n10, rfl⟩ dX6_init_20
abbrev rmX6_init13044 : Room := { frames := 1, cells := 1, slots := 13044, locals := 21 }
set_option maxHeartbeats 4000000 in
set_option maxRecDepth 100000 in
theorem c_X6_init13044 (l : Launch) (D : va_G) (cB cI cJ : ClassId) (t : Nat) : CE (l, D, cB, cI, cJ) yX6_init wsX6_init rmX6_init13044 [.ref t, .int 13044] [(t, .inr (4, [.null, .int 0]))] (fun w9 => ∃ (n10 : Nat), w9 = [(t, .inr (4, [.ref n10, .int 0])), (n10, .inl (cB, 13044, .inl (b8 (fun _ => 0))))]) := by
  refine CE_of (cc := cX6_init) (nL := 2) (own := RX6) (ret := none) (by decide) rfl rfl (Nat.le_of_ble_eq_true rfl) (fun X O hnm0 => ?_)
  have hnm := hnm0 rfl
  show J X 2 (JQe X (fun w9 => ∃ (n10 : Nat), w9 = [(t, .inr (4, [.ref n10, .int 0])), (n10, .inl (cB, 13044, .inl (b8 (fun _ => 0))))]) 1 13044) [(t, .inr (4, [.null, .int 0]))] 0 0 0 [(0, .ref t), (1, .int 13044)] []
  refine J_aload_n O (i := 0) (k0 := 0) (pc := 0) 0 rfl rfl dX6_init_0 ?_
  refine J_objInit O (pc := 1) mb_X6_init_0 mb_X6_init_1 mb_X6_init_2 (Nat.le_of_ble_eq_true rfl) (Nat.le_of_ble_eq_true rfl) dX6_init_1 ?_
  refine J_aload_n O (i := 0) (k0 := 0) (pc := 4) 0 rfl rfl dX6_init_4 ?_
  refine J_iload_n O (i := 1) (k0 := 1) (pc := 5) 1 rfl rfl dX6_init_5 ?_
  refine J_iconst O (v := 0) (pc := 6) (by decide) dX6_init_6 ?_
  refine J_mmax O (pc := 7) mb_X6_init_3 mb_X6_init_4 mb_X6_init_5 mb_X6_init_6 (Nat.le_of_ble_eq_true rfl) (Nat.le_of_ble_eq_true rfl) (Nat.le_of_ble_eq_true rfl) (Nat.le_of_ble_eq_true rfl) dX6_init_7 ?_
  refine J_newB O (pc := 10) 13044 mb_X6_init_7 (by decide) (by decide) (by decide) (Nat.le_of_ble_eq_true rfl) (Nat.le_of_ble_eq_true rfl) dX6_init_10 (fun n10 => [(t, .inr (4, [.null, .int 0])), (n10, .inl (cB, 13044, .inl (b8 (fun _ => 0))))]) (fun _ => rfl) 1 13044 rfl rfl (fun n10 => ?_)
  refine J_putF O (pc := 12) in_X6_init_X6 tyX6 tyX6_ok nmX6 0 rfl rfl 0 (by decide) mb_X6_init_9 rfl hnm rfl rfl rfl (Nat.le_of_ble_eq_true rfl) [(t, .inr (4, [.ref n10, .int 0])), (n10, .inl (cB, 13044, .inl (b8 (fun _ => 0))))] rfl dX6_init_12 ?_
  refine J_aload_n O (i := 0) (k0 := 0) (pc := 15) 0 rfl rfl dX6_init_15 ?_
  refine J_iconst O (v := 0) (pc := 16) (by decide) dX6_init_16 ?_
  refine J_put O (pc := 17) in_X6_init_X6 tyX6 tyX6_ok nmX6 0 rfl rfl 1 (by decide) mb_X6_init_10 rfl rfl rfl (Nat.le_of_ble_eq_true rfl) [(t, .inr (4, [.ref n10, .int 0])), (n10, .inl (cB, 13044, .inl (b8 (fun _ => 0))))] rfl dX6_init_17 ?_
  exact J_eret O (pc := 20) ⟨n10, rfl⟩ dX6_init_20
abbrev rmX6_init12000 : Room := { frames := 1, cells := 1, slots := 12000, locals := 21 }
set_option maxHeartbeats 4000000 in
set_option maxRecDepth 100000 in
theorem c_X6_init12000 (l : Launch) (D : va_G) (cB cI cJ : ClassId) (t : Nat) : CE (l, D, cB, cI, cJ) yX6_init wsX6_init rmX6_init12000 [.ref t, .int 12000] [(t, .inr (4, [.null, .int 0]))] (fun w9 => ∃ (n10 : Nat), w9 = [(t, .inr (4, [.ref n10, .int 0])), (n10, .inl (cB, 12000, .inl (b8 (fun _ => 0))))]) := by
  refine CE_of (cc := cX6_init) (nL := 2) (own := RX6) (ret := none) (by decide) rfl rfl (Nat.le_of_ble_eq_true rfl) (fun X O hnm0 => ?_)
  have hnm := hnm0 rfl
  show J X 2 (JQe X (fun w9 => ∃ (n10 : Nat), w9 = [(t, .inr (4, [.ref n10, .int 0])), (n10, .inl (cB, 12000, .inl (b8 (fun _ => 0))))]) 1 12000) [(t, .inr (4, [.null, .int 0]))] 0 0 0 [(0, .ref t), (1, .int 12000)] []
  refine J_aload_n O (i := 0) (k0 := 0) (pc := 0) 0 rfl rfl dX6_init_0 ?_
  refine J_objInit O (pc := 1) mb_X6_init_0 mb_X6_init_1 mb_X6_init_2 (Nat.le_of_ble_eq_true rfl) (Nat.le_of_ble_eq_true rfl) dX6_init_1 ?_
  refine J_aload_n O (i := 0) (k0 := 0) (pc := 4) 0 rfl rfl dX6_init_4 ?_
  refine J_iload_n O (i := 1) (k0 := 1) (pc := 5) 1 rfl rfl dX6_init_5 ?_
  refine J_iconst O (v := 0) (pc := 6) (by decide) dX6_init_6 ?_
  refine J_mmax O (pc := 7) mb_X6_init_3 mb_X6_init_4 mb_X6_init_5 mb_X6_init_6 (Nat.le_of_ble_eq_true rfl) (Nat.le_of_ble_eq_true rfl) (Nat.le_of_ble_eq_true rfl) (Nat.le_of_ble_eq_true rfl) dX6_init_7 ?_
  refine J_newB O (pc := 10) 12000 mb_X6_init_7 (by decide) (by decide) (by decide) (Nat.le_of_ble_eq_true rfl) (Nat.le_of_ble_eq_true rfl) dX6_init_10 (fun n10 => [(t, .inr (4, [.null, .int 0])), (n10, .inl (cB, 12000, .inl (b8 (fun _ => 0))))]) (fun _ => rfl) 1 12000 rfl rfl (fun n10 => ?_)
  refine J_putF O (pc := 12) in_X6_init_X6 tyX6 tyX6_ok nmX6 0 rfl rfl 0 (by decide) mb_X6_init_9 rfl hnm rfl rfl rfl (Nat.le_of_ble_eq_true rfl) [(t, .inr (4, [.ref n10, .int 0])), (n10, .inl (cB, 12000, .inl (b8 (fun _ => 0))))] rfl dX6_init_12 ?_
  refine J_aload_n O (i := 0) (k0 := 0) (pc := 15) 0 rfl rfl dX6_init_15 ?_
  refine J_iconst O (v := 0) (pc := 16) (by decide) dX6_init_16 ?_
  refine J_put O (pc := 17) in_X6_init_X6 tyX6 tyX6_ok nmX6 0 rfl rfl 1 (by decide) mb_X6_init_10 rfl rfl rfl (Nat.le_of_ble_eq_true rfl) [(t, .inr (4, [.ref n10, .int 0])), (n10, .inl (cB, 12000, .inl (b8 (fun _ => 0))))] rfl dX6_init_17 ?_
  exact J_eret O (pc := 20) ⟨n10, rfl⟩ dX6_init_20
theorem mb_X0_init_0 : Cond.methodLink RX0 3 objectInit ∈ wsX0_init := by decide +kernel
theorem mb_X0_init_1 : Cond.instanceMethod objectInit ∈ wsX0_init := by decide +kernel
theorem mb_X0_init_2 : Cond.code objectInit ⟨#[0xb1]⟩ 1 none ∈ wsX0_init := by decide +kernel
theorem in_X0_init_X6 : ∀ w ∈ u_ws RX6 TX6 2, w ∈ wsX0_init := fun _ h => List.mem_cons_of_mem _ (List.mem_append_left _ (List.mem_append_right _ h))
theorem mb_X0_init_4 : Cond.classLink RX0 9 RX6 ∈ wsX0_init := by decide +kernel
theorem mb_X0_init_5 : Cond.instantiable RX6 2 ∈ wsX0_init := by decide +kernel
theorem mb_X0_init_6 : Cond.initialized RX6 ∈ wsX0_init := by decide +kernel
theorem fs_X6 : ∀ j, j < 2 → defaultValue (tyX6 j) = vp_V [.null, .int 0] j := fun j hj => by rcases (show j = 0 ∨ j = 1 by omega) with rfl | rfl <;> rfl
theorem mb_X0_init_7 : Cond.initialized yX6_init.cls ∈ wsX0_init := by decide +kernel
theorem mb_X0_init_8 : Cond.methodLink RX0 11 yX6_init ∈ wsX0_init := by decide +kernel
theorem mb_X0_init_9 : Cond.instanceMethod yX6_init ∈ wsX0_init := by decide +kernel
theorem hdS_X6_init : yX6_init.cls ≠ "java/lang/invoke/MethodHandle" ∧ yX6_init.cls ≠ "java/lang/invoke/VarHandle" ∧ (parseMethodDescriptor yX6_init.desc).map (fun d => d.parameters.length) = some 1 := by decide +kernel
theorem in_X0_init_X0 : ∀ w ∈ u_ws RX0 TX0 8, w ∈ wsX0_init := fun _ h => List.mem_cons_of_mem _ (List.mem_append_right _ h)
theorem mb_X0_init_11 : Cond.fieldLink RX0 14 (TX0 0).1 (TX0 0).2.1 (TX0 0).2.2.1 ∈ wsX0_init := by decide +kernel
theorem mb_X0_init_12 : Cond.arrayClass .int ∈ wsX0_init := by decide +kernel
theorem mb_X0_init_13 : Cond.fieldLink RX0 20 (TX0 1).1 (TX0 1).2.1 (TX0 1).2.2.1 ∈ wsX0_init := by decide +kernel
theorem mb_X0_init_14 : Cond.fieldLink RX0 24 (TX0 2).1 (TX0 2).2.1 (TX0 2).2.2.1 ∈ wsX0_init := by decide +kernel
theorem mb_X0_init_15 : Cond.fieldLink RX0 27 (TX0 3).1 (TX0 3).2.1 (TX0 3).2.2.1 ∈ wsX0_init := by decide +kernel
theorem mb_X0_init_16 : Cond.fieldLink RX0 31 (TX0 4).1 (TX0 4).2.1 (TX0 4).2.2.1 ∈ wsX0_init := by decide +kernel
theorem mb_X0_init_17 : Cond.arrayClass .long ∈ wsX0_init := by decide +kernel
theorem mb_X0_init_18 : Cond.fieldLink RX0 34 (TX0 5).1 (TX0 5).2.1 (TX0 5).2.2.1 ∈ wsX0_init := by decide +kernel
theorem mb_X0_init_19 : Cond.fieldLink RX0 38 (TX0 6).1 (TX0 6).2.1 (TX0 6).2.2.1 ∈ wsX0_init := by decide +kernel
theorem mb_X0_init_20 : Cond.fieldLink RX0 41 (TX0 7).1 (TX0 7).2.1 (TX0 7).2.2.1 ∈ wsX0_init := by decide +kernel
abbrev rmX0_init : Room := { frames := 2, cells := 7, slots := 12243, locals := 42 }
set_option maxHeartbeats 4000000 in
set_option maxRecDepth 100000 in
theorem c_X0_init (l : Launch) (D : va_G) (cB cI cJ : ClassId) (h : Nat) : CE (l, D, cB, cI, cJ) yX0_init wsX0_init rmX0_init [.ref h] [(h, .inr (0, [.null, .null, .null, .int 0, .null, .null, .null, .int 0]))] (fun w9 => ∃ (q5 n10_12 n21 n29 n42 n50 n58 : Nat), w9 = [(h, .inr (0, [.ref q5, .ref n21, .ref n29, .int 0, .ref n42, .ref n50, .ref n58, .int 0])), (q5, .inr (4, [.ref n10_12, .int 0])), (n10_12, .inl (cB, 12000, .inl (b8 (fun _ => 0)))), (n21, .inl (cI, 60, .inl (fun _ => 0))), (n29, .inl (cI, 61, .inl (fun _ => 0))), (n42, .inl (cI, 40, .inl (fun _ => 0))), (n50, .inl (cJ, 40, .inr (.inl (fun _ => 0)))), (n58, .inl (cI, 40, .inl (fun _ => 0)))]) := by
  refine CE_of (cc := cX0_init) (nL := 1) (own := RX0) (ret := none) (by decide) rfl rfl (Nat.le_of_ble_eq_true rfl) (fun X O hnm0 => ?_)
  have hnm := hnm0 rfl
  show J X 1 (JQe X (fun w9 => ∃ (q5 n10_12 n21 n29 n42 n50 n58 : Nat), w9 = [(h, .inr (0, [.ref q5, .ref n21, .ref n29, .int 0, .ref n42, .ref n50, .ref n58, .int 0])), (q5, .inr (4, [.ref n10_12, .int 0])), (n10_12, .inl (cB, 12000, .inl (b8 (fun _ => 0)))), (n21, .inl (cI, 60, .inl (fun _ => 0))), (n29, .inl (cI, 61, .inl (fun _ => 0))), (n42, .inl (cI, 40, .inl (fun _ => 0))), (n50, .inl (cJ, 40, .inr (.inl (fun _ => 0)))), (n58, .inl (cI, 40, .inl (fun _ => 0)))]) 7 12243) [(h, .inr (0, [.null, .null, .null, .int 0, .null, .null, .null, .int 0]))] 0 0 0 [(0, .ref h)] []
  refine J_aload_n O (i := 0) (k0 := 0) (pc := 0) 0 rfl rfl dX0_init_0 ?_
  refine J_objInit O (pc := 1) mb_X0_init_0 mb_X0_init_1 mb_X0_init_2 (Nat.le_of_ble_eq_true rfl) (Nat.le_of_ble_eq_true rfl) dX0_init_1 ?_
  refine J_aload_n O (i := 0) (k0 := 0) (pc := 4) 0 rfl rfl dX0_init_4 ?_
  refine J_new O (pc := 5) in_X0_init_X6 tyX6 tyX6_ok mb_X0_init_4 mb_X0_init_5 mb_X0_init_6 rfl [.null, .int 0] fs_X6 (Nat.le_of_ble_eq_true rfl) (Nat.le_of_ble_eq_true rfl) (fun q5 => [(h, .inr (0, [.null, .null, .null, .int 0, .null, .null, .null, .int 0])), (q5, .inr (4, [.null, .int 0]))]) (fun _ => rfl) (1) (2) rfl rfl dX0_init_5 (fun q5 => ?_)
  refine J_dup O (pc := 8) rfl dX0_init_8 ?_
  refine J_sipush O (v := 12000) (pc := 9) (by decide) dX0_init_9 ?_
  refine J_callIe O (pc := 12) (c_X6_init12000 l D cB cI cJ q5) rfl gX0_init_X6_init mb_X0_init_7 mb_X0_init_8 mb_X0_init_9 rfl hdS_X6_init ⟨(Nat.le_of_ble_eq_true rfl), (Nat.le_of_ble_eq_true rfl)⟩ rfl (st := [.ref q5, .ref h]) rfl (Nat.le_of_ble_eq_true rfl) [1] [0] rfl rfl rfl rfl rfl (by decide) 2 12002 (Nat.le_of_ble_eq_true rfl) (Nat.le_of_ble_eq_true rfl) ⟨(Nat.le_of_ble_eq_true rfl), (Nat.le_of_ble_eq_true rfl)⟩ dX0_init_12 (fun w9 h9 => ?_)
  obtain ⟨n10_12, rfl⟩ := h9
  show J X 1 _ [(h, .inr (0, [.null, .null, .null, .int 0, .null, .null, .null, .int 0])), (q5, .inr (4, [.ref n10_12, .int 0])), (n10_12, .inl (cB, 12000, .inl (b8 (fun _ => 0))))] 2 12002 (12 + 3) [(0, .ref h)] [.ref q5, .ref h]
  refine J_putF O (pc := 15) in_X0_init_X0 tyX0 tyX0_ok nmX0 0 rfl rfl 0 (by decide) mb_X0_init_11 rfl hnm rfl rfl rfl (Nat.le_of_ble_eq_true rfl) [(h, .inr (0, [.ref q5, .null, .null, .int 0, .null, .null, .null, .int 0])), (q5, .inr (4, [.ref n10_12, .int 0])), (n10_12, .inl (cB, 12000, .inl (b8 (fun _ => 0))))] rfl dX0_init_15 ?_
  refine J_aload_n O (i := 0) (k0 := 0) (pc := 18) 0 rfl rfl dX0_init_18 ?_
  refine J_bipush O (v := 60) (pc := 19) (by decide) dX0_init_19 ?_
  refine J_newI O (pc := 21) 60 mb_X0_init_12 (by decide) (by decide) (by decide) (Nat.le_of_ble_eq_true rfl) (Nat.le_of_ble_eq_true rfl) dX0_init_21 (fun n21 => [(h, .inr (0, [.ref q5, .null, .null, .int 0, .null, .null, .null, .int 0])), (q5, .inr (4, [.ref n10_12, .int 0])), (n10_12, .inl (cB, 12000, .inl (b8 (fun _ => 0)))), (n21, .inl (cI, 60, .inl (fun _ => 0)))]) (fun _ => rfl) 3 12062 rfl rfl (fun n21 => ?_)
  refine J_putF O (pc := 23) in_X0_init_X0 tyX0 tyX0_ok nmX0 0 rfl rfl 1 (by decide) mb_X0_init_13 rfl hnm rfl rfl rfl (Nat.le_of_ble_eq_true rfl) [(h, .inr (0, [.ref q5, .ref n21, .null, .int 0, .null, .null, .null, .int 0])), (q5, .inr (4, [.ref n10_12, .int 0])), (n10_12, .inl (cB, 12000, .inl (b8 (fun _ => 0)))), (n21, .inl (cI, 60, .inl (fun _ => 0)))] rfl dX0_init_23 ?_
  refine J_aload_n O (i := 0) (k0 := 0) (pc := 26) 0 rfl rfl dX0_init_26 ?_
  refine J_bipush O (v := 61) (pc := 27) (by decide) dX0_init_27 ?_
  refine J_newI O (pc := 29) 61 mb_X0_init_12 (by decide) (by decide) (by decide) (Nat.le_of_ble_eq_true rfl) (Nat.le_of_ble_eq_true rfl) dX0_init_29 (fun n29 => [(h, .inr (0, [.ref q5, .ref n21, .null, .int 0, .null, .null, .null, .int 0])), (q5, .inr (4, [.ref n10_12, .int 0])), (n10_12, .inl (cB, 12000, .inl (b8 (fun _ => 0)))), (n21, .inl (cI, 60, .inl (fun _ => 0))), (n29, .inl (cI, 61, .inl (fun _ => 0)))]) (fun _ => rfl) 4 12123 rfl rfl (fun n29 => ?_)
  refine J_putF O (pc := 31) in_X0_init_X0 tyX0 tyX0_ok nmX0 0 rfl rfl 2 (by decide) mb_X0_init_14 rfl hnm rfl rfl rfl (Nat.le_of_ble_eq_true rfl) [(h, .inr (0, [.ref q5, .ref n21, .ref n29, .int 0, .null, .null, .null, .int 0])), (q5, .inr (4, [.ref n10_12, .int 0])), (n10_12, .inl (cB, 12000, .inl (b8 (fun _ => 0)))), (n21, .inl (cI, 60, .inl (fun _ => 0))), (n29, .inl (cI, 61, .inl (fun _ => 0)))] rfl dX0_init_31 ?_
  refine J_aload_n O (i := 0) (k0 := 0) (pc := 34) 0 rfl rfl dX0_init_34 ?_
  refine J_iconst O (v := 0) (pc := 35) (by decide) dX0_init_35 ?_
  refine J_put O (pc := 36) in_X0_init_X0 tyX0 tyX0_ok nmX0 0 rfl rfl 3 (by decide) mb_X0_init_15 rfl rfl rfl (Nat.le_of_ble_eq_true rfl) [(h, .inr (0, [.ref q5, .ref n21, .ref n29, .int 0, .null, .null, .null, .int 0])), (q5, .inr (4, [.ref n10_12, .int 0])), (n10_12, .inl (cB, 12000, .inl (b8 (fun _ => 0)))), (n21, .inl (cI, 60, .inl (fun _ => 0))), (n29, .inl (cI, 61, .inl (fun _ => 0)))] rfl dX0_init_36 ?_
  refine J_aload_n O (i := 0) (k0 := 0) (pc := 39) 0 rfl rfl dX0_init_39 ?_
  refine J_bipush O (v := 40) (pc := 40) (by decide) dX0_init_40 ?_
  refine J_newI O (pc := 42) 40 mb_X0_init_12 (by decide) (by decide) (by decide) (Nat.le_of_ble_eq_true rfl) (Nat.le_of_ble_eq_true rfl) dX0_init_42 (fun n42 => [(h, .inr (0, [.ref q5, .ref n21, .ref n29, .int 0, .null, .null, .null, .int 0])), (q5, .inr (4, [.ref n10_12, .int 0])), (n10_12, .inl (cB, 12000, .inl (b8 (fun _ => 0)))), (n21, .inl (cI, 60, .inl (fun _ => 0))), (n29, .inl (cI, 61, .inl (fun _ => 0))), (n42, .inl (cI, 40, .inl (fun _ => 0)))]) (fun _ => rfl) 5 12163 rfl rfl (fun n42 => ?_)
  refine J_putF O (pc := 44) in_X0_init_X0 tyX0 tyX0_ok nmX0 0 rfl rfl 4 (by decide) mb_X0_init_16 rfl hnm rfl rfl rfl (Nat.le_of_ble_eq_true rfl) [(h, .inr (0, [.ref q5, .ref n21, .ref n29, .int 0, .ref n42, .null, .null, .int 0])), (q5, .inr (4, [.ref n10_12, .int 0])), (n10_12, .inl (cB, 12000, .inl (b8 (fun _ => 0)))), (n21, .inl (cI, 60, .inl (fun _ => 0))), (n29, .inl (cI, 61, .inl (fun _ => 0))), (n42, .inl (cI, 40, .inl (fun _ => 0)))] rfl dX0_init_44 ?_
  refine J_aload_n O (i := 0) (k0 := 0) (pc := 47) 0 rfl rfl dX0_init_47 ?_
  refine J_bipush O (v := 40) (pc := 48) (by decide) dX0_init_48 ?_
  refine J_newJ O (pc := 50) 40 mb_X0_init_17 (by decide) (by decide) (by decide) (Nat.le_of_ble_eq_true rfl) (Nat.le_of_ble_eq_true rfl) dX0_init_50 (fun n50 => [(h, .inr (0, [.ref q5, .ref n21, .ref n29, .int 0, .ref n42, .null, .null, .int 0])), (q5, .inr (4, [.ref n10_12, .int 0])), (n10_12, .inl (cB, 12000, .inl (b8 (fun _ => 0)))), (n21, .inl (cI, 60, .inl (fun _ => 0))), (n29, .inl (cI, 61, .inl (fun _ => 0))), (n42, .inl (cI, 40, .inl (fun _ => 0))), (n50, .inl (cJ, 40, .inr (.inl (fun _ => 0))))]) (fun _ => rfl) 6 12203 rfl rfl (fun n50 => ?_)
  refine J_putF O (pc := 52) in_X0_init_X0 tyX0 tyX0_ok nmX0 0 rfl rfl 5 (by decide) mb_X0_init_18 rfl hnm rfl rfl rfl (Nat.le_of_ble_eq_true rfl) [(h, .inr (0, [.ref q5, .ref n21, .ref n29, .int 0, .ref n42, .ref n50, .null, .int 0])), (q5, .inr (4, [.ref n10_12, .int 0])), (n10_12, .inl (cB, 12000, .inl (b8 (fun _ => 0)))), (n21, .inl (cI, 60, .inl (fun _ => 0))), (n29, .inl (cI, 61, .inl (fun _ => 0))), (n42, .inl (cI, 40, .inl (fun _ => 0))), (n50, .inl (cJ, 40, .inr (.inl (fun _ => 0))))] rfl dX0_init_52 ?_
  refine J_aload_n O (i := 0) (k0 := 0) (pc := 55) 0 rfl rfl dX0_init_55 ?_
  refine J_bipush O (v := 40) (pc := 56) (by decide) dX0_init_56 ?_
  refine J_newI O (pc := 58) 40 mb_X0_init_12 (by decide) (by decide) (by decide) (Nat.le_of_ble_eq_true rfl) (Nat.le_of_ble_eq_true rfl) dX0_init_58 (fun n58 => [(h, .inr (0, [.ref q5, .ref n21, .ref n29, .int 0, .ref n42, .ref n50, .null, .int 0])), (q5, .inr (4, [.ref n10_12, .int 0])), (n10_12, .inl (cB, 12000, .inl (b8 (fun _ => 0)))), (n21, .inl (cI, 60, .inl (fun _ => 0))), (n29, .inl (cI, 61, .inl (fun _ => 0))), (n42, .inl (cI, 40, .inl (fun _ => 0))), (n50, .inl (cJ, 40, .inr (.inl (fun _ => 0)))), (n58, .inl (cI, 40, .inl (fun _ => 0)))]) (fun _ => rfl) 7 12243 rfl rfl (fun n58 => ?_)
  refine J_putF O (pc := 60) in_X0_init_X0 tyX0 tyX0_ok nmX0 0 rfl rfl 6 (by decide) mb_X0_init_19 rfl hnm rfl rfl rfl (Nat.le_of_ble_eq_true rfl) [(h, .inr (0, [.ref q5, .ref n21, .ref n29, .int 0, .ref n42, .ref n50, .ref n58, .int 0])), (q5, .inr (4, [.ref n10_12, .int 0])), (n10_12, .inl (cB, 12000, .inl (b8 (fun _ => 0)))), (n21, .inl (cI, 60, .inl (fun _ => 0))), (n29, .inl (cI, 61, .inl (fun _ => 0))), (n42, .inl (cI, 40, .inl (fun _ => 0))), (n50, .inl (cJ, 40, .inr (.inl (fun _ => 0)))), (n58, .inl (cI, 40, .inl (fun _ => 0)))] rfl dX0_init_60 ?_
  refine J_aload_n O (i := 0) (k0 := 0) (pc := 63) 0 rfl rfl dX0_init_63 ?_
  refine J_iconst O (v := 0) (pc := 64) (by decide) dX0_init_64 ?_
  refine J_put O (pc := 65) in_X0_init_X0 tyX0 tyX0_ok nmX0 0 rfl rfl 7 (by decide) mb_X0_init_20 rfl rfl rfl (Nat.le_of_ble_eq_true rfl) [(h, .inr (0, [.ref q5, .ref n21, .ref n29, .int 0, .ref n42, .ref n50, .ref n58, .int 0])), (q5, .inr (4, [.ref n10_12, .int 0])), (n10_12, .inl (cB, 12000, .inl (b8 (fun _ => 0)))), (n21, .inl (cI, 60, .inl (fun _ => 0))), (n29, .inl (cI, 61, .inl (fun _ => 0))), (n42, .inl (cI, 40, .inl (fun _ => 0))), (n50, .inl (cJ, 40, .inr (.inl (fun _ => 0)))), (n58, .inl (cI, 40, .inl (fun _ => 0)))] rfl dX0_init_65 ?_
  exact J_eret O (pc := 68) ⟨q5, n10_12, n21, n29, n42, n50, n58, rfl⟩ dX0_init_68
theorem mb_X1_init_0 : Cond.methodLink RX1 3 objectInit ∈ wsX1_init := by decide +kernel
theorem mb_X1_init_1 : Cond.instanceMethod objectInit ∈ wsX1_init := by decide +kernel
theorem mb_X1_init_2 : Cond.code objectInit ⟨#[0xb1]⟩ 1 none ∈ wsX1_init := by decide +kernel
theorem mb_X1_init_3 : Cond.arrayClass .int ∈ wsX1_init := by decide +kernel
theorem in_X1_init_X1 : ∀ w ∈ u_ws RX1 TX1 3, w ∈ wsX1_init := fun _ h => List.mem_cons_of_mem _ (List.mem_append_right _ h)
theorem mb_X1_init_5 : Cond.fieldLink RX1 9 (TX1 0).1 (TX1 0).2.1 (TX1 0).2.2.1 ∈ wsX1_init := by decide +kernel
theorem mb_X1_init_6 : Cond.fieldLink RX1 15 (TX1 1).1 (TX1 1).2.1 (TX1 1).2.2.1 ∈ wsX1_init := by decide +kernel
theorem mb_X1_init_7 : Cond.fieldLink RX1 19 (TX1 2).1 (TX1 2).2.1 (TX1 2).2.2.1 ∈ wsX1_init := by decide +kernel
abbrev rmX1_init : Room := { frames := 1, cells := 1, slots := 60, locals := 20 }
set_option maxHeartbeats 4000000 in
set_option maxRecDepth 100000 in
theorem c_X1_init (l : Launch) (D : va_G) (cB cI cJ : ClassId) (j : Nat) : CE (l, D, cB, cI, cJ) yX1_init wsX1_init rmX1_init [.ref j] [(j, .inr (1, [.null, .int 0, .int 0]))] (fun w9 => ∃ (n7 : Nat), w9 = [(j, .inr (1, [.ref n7, .int 0, .int (-2)])), (n7, .inl (cI, 60, .inl (fun _ => 0)))]) := by
  refine CE_of (cc := cX1_init) (nL := 1) (own := RX1) (ret := none) (by decide) rfl rfl (Nat.le_of_ble_eq_true rfl) (fun X O hnm0 => ?_)
  have hnm := hnm0 rfl
  show J X 1 (JQe X (fun w9 => ∃ (n7 : Nat), w9 = [(j, .inr (1, [.ref n7, .int 0, .int (-2)])), (n7, .inl (cI, 60, .inl (fun _ => 0)))]) 1 60) [(j, .inr (1, [.null, .int 0, .int 0]))] 0 0 0 [(0, .ref j)] []
  refine J_aload_n O (i := 0) (k0 := 0) (pc := 0) 0 rfl rfl dX1_init_0 ?_
  refine J_objInit O (pc := 1) mb_X1_init_0 mb_X1_init_1 mb_X1_init_2 (Nat.le_of_ble_eq_true rfl) (Nat.le_of_ble_eq_true rfl) dX1_init_1 ?_
  refine J_aload_n O (i := 0) (k0 := 0) (pc := 4) 0 rfl rfl dX1_init_4 ?_
  refine J_bipush O (v := 60) (pc := 5) (by decide) dX1_init_5 ?_
  refine J_newI O (pc := 7) 60 mb_X1_init_3 (by decide) (by decide) (by decide) (Nat.le_of_ble_eq_true rfl) (Nat.le_of_ble_eq_true rfl) dX1_init_7 (fun n7 => [(j, .inr (1, [.null, .int 0, .int 0])), (n7, .inl (cI, 60, .inl (fun _ => 0)))]) (fun _ => rfl) 1 60 rfl rfl (fun n7 => ?_)
  refine J_putF O (pc := 9) in_X1_init_X1 tyX1 tyX1_ok nmX1 0 rfl rfl 0 (by decide) mb_X1_init_5 rfl hnm rfl rfl rfl (Nat.le_of_ble_eq_true rfl) [(j, .inr (1, [.ref n7, .int 0, .int 0])), (n7, .inl (cI, 60, .inl (fun _ => 0)))] rfl dX1_init_9 ?_
  refine J_aload_n O (i := 0) (k0 := 0) (pc := 12) 0 rfl rfl dX1_init_12 ?_
  refine J_iconst O (v := 0) (pc := 13) (by decide) dX1_init_13 ?_
  refine J_put O (pc := 14) in_X1_init_X1 tyX1 tyX1_ok nmX1 0 rfl rfl 1 (by decide) mb_X1_init_6 rfl rfl rfl (Nat.le_of_ble_eq_true rfl) [(j, .inr (1, [.ref n7, .int 0, .int 0])), (n7, .inl (cI, 60, .inl (fun _ => 0)))] rfl dX1_init_14 ?_
  refine J_aload_n O (i := 0) (k0 := 0) (pc := 17) 0 rfl rfl dX1_init_17 ?_
  refine J_bipush O (v := (-2)) (pc := 18) (by decide) dX1_init_18 ?_
  refine J_put O (pc := 20) in_X1_init_X1 tyX1 tyX1_ok nmX1 0 rfl rfl 2 (by decide) mb_X1_init_7 rfl rfl rfl (Nat.le_of_ble_eq_true rfl) [(j, .inr (1, [.ref n7, .int 0, .int (-2)])), (n7, .inl (cI, 60, .inl (fun _ => 0)))] rfl dX1_init_20 ?_
  exact J_eret O (pc := 23) ⟨n7, rfl⟩ dX1_init_23
theorem mb_X9_init_0 : Cond.methodLink RX9 3 objectInit ∈ wsX9_init := by decide +kernel
theorem mb_X9_init_1 : Cond.instanceMethod objectInit ∈ wsX9_init := by decide +kernel
theorem mb_X9_init_2 : Cond.code objectInit ⟨#[0xb1]⟩ 1 none ∈ wsX9_init := by decide +kernel
theorem in_X9_init_X6 : ∀ w ∈ u_ws RX6 TX6 2, w ∈ wsX9_init := fun _ h => List.mem_cons_of_mem _ (List.mem_append_left _ (List.mem_append_left _ (List.mem_append_left _ (List.mem_append_right _ h))))
theorem mb_X9_init_4 : Cond.classLink RX9 9 RX6 ∈ wsX9_init := by decide +kernel
theorem mb_X9_init_5 : Cond.instantiable RX6 2 ∈ wsX9_init := by decide +kernel
theorem mb_X9_init_6 : Cond.initialized RX6 ∈ wsX9_init := by decide +kernel
theorem mb_X9_init_7 : Cond.initialized yX6_init.cls ∈ wsX9_init := by decide +kernel
theorem mb_X9_init_8 : Cond.methodLink RX9 11 yX6_init ∈ wsX9_init := by decide +kernel
theorem mb_X9_init_9 : Cond.instanceMethod yX6_init ∈ wsX9_init := by decide +kernel
theorem in_X9_init_X9 : ∀ w ∈ u_ws RX9 TX9 5, w ∈ wsX9_init := fun _ h => List.mem_cons_of_mem _ (List.mem_append_left _ (List.mem_append_left _ (List.mem_append_right _ h)))
theorem mb_X9_init_11 : Cond.fieldLink RX9 14 (TX9 0).1 (TX9 0).2.1 (TX9 0).2.2.1 ∈ wsX9_init := by decide +kernel
theorem mb_X9_init_12 : Cond.fieldLink RX9 18 (TX9 1).1 (TX9 1).2.1 (TX9 1).2.2.1 ∈ wsX9_init := by decide +kernel
theorem in_X9_init_X0 : ∀ w ∈ u_ws RX0 TX0 8, w ∈ wsX9_init := fun _ h => List.mem_cons_of_mem _ (List.mem_append_left _ (List.mem_append_right _ h))
theorem mb_X9_init_14 : Cond.classLink RX9 21 RX0 ∈ wsX9_init := by decide +kernel
theorem mb_X9_init_15 : Cond.instantiable RX0 8 ∈ wsX9_init := by decide +kernel
theorem mb_X9_init_16 : Cond.initialized RX0 ∈ wsX9_init := by decide +kernel
theorem fs_X0 : ∀ j, j < 8 → defaultValue (tyX0 j) = vp_V [.null, .null, .null, .int 0, .null, .null, .null, .int 0] j := fun j hj => by rcases (show j = 0 ∨ j = 1 ∨ j = 2 ∨ j = 3 ∨ j = 4 ∨ j = 5 ∨ j = 6 ∨ j = 7 by omega) with rfl | rfl | rfl | rfl | rfl | rfl | rfl | rfl <;> rfl
theorem mb_X9_init_17 : Cond.initialized yX0_init.cls ∈ wsX9_init := by decide +kernel
theorem mb_X9_init_18 : Cond.methodLink RX9 23 yX0_init ∈ wsX9_init := by decide +kernel
theorem mb_X9_init_19 : Cond.instanceMethod yX0_init ∈ wsX9_init := by decide +kernel
theorem hdS_X0_init : yX0_init.cls ≠ "java/lang/invoke/MethodHandle" ∧ yX0_init.cls ≠ "java/lang/invoke/VarHandle" ∧ (parseMethodDescriptor yX0_init.desc).map (fun d => d.parameters.length) = some 0 := by decide +kernel
theorem mb_X9_init_20 : Cond.fieldLink RX9 24 (TX9 2).1 (TX9 2).2.1 (TX9 2).2.2.1 ∈ wsX9_init := by decide +kernel
theorem in_X9_init_X1 : ∀ w ∈ u_ws RX1 TX1 3, w ∈ wsX9_init := fun _ h => List.mem_cons_of_mem _ (List.mem_append_right _ h)
theorem mb_X9_init_22 : Cond.classLink RX9 28 RX1 ∈ wsX9_init := by decide +kernel
theorem mb_X9_init_23 : Cond.instantiable RX1 3 ∈ wsX9_init := by decide +kernel
theorem mb_X9_init_24 : Cond.initialized RX1 ∈ wsX9_init := by decide +kernel
theorem fs_X1 : ∀ j, j < 3 → defaultValue (tyX1 j) = vp_V [.null, .int 0, .int 0] j := fun j hj => by rcases (show j = 0 ∨ j = 1 ∨ j = 2 by omega) with rfl | rfl | rfl <;> rfl
theorem mb_X9_init_25 : Cond.initialized yX1_init.cls ∈ wsX9_init := by decide +kernel
theorem mb_X9_init_26 : Cond.methodLink RX9 30 yX1_init ∈ wsX9_init := by decide +kernel
theorem mb_X9_init_27 : Cond.instanceMethod yX1_init ∈ wsX9_init := by decide +kernel
theorem hdS_X1_init : yX1_init.cls ≠ "java/lang/invoke/MethodHandle" ∧ yX1_init.cls ≠ "java/lang/invoke/VarHandle" ∧ (parseMethodDescriptor yX1_init.desc).map (fun d => d.parameters.length) = some 0 := by decide +kernel
theorem mb_X9_init_28 : Cond.fieldLink RX9 31 (TX9 3).1 (TX9 3).2.1 (TX9 3).2.2.1 ∈ wsX9_init := by decide +kernel
theorem mb_X9_init_29 : Cond.fieldLink RX9 35 (TX9 4).1 (TX9 4).2.1 (TX9 4).2.2.1 ∈ wsX9_init := by decide +kernel
abbrev rmX9_init : Room := { frames := 3, cells := 14, slots := 31362, locals := 62 }
set_option maxHeartbeats 4000000 in
set_option maxRecDepth 100000 in
theorem c_X9_init (l : Launch) (D : va_G) (cB cI cJ : ClassId) (x : Nat) : CE (l, D, cB, cI, cJ) yX9_init wsX9_init rmX9_init [.ref x] [(x, .inr (5, [.null, .null, .null, .null, .int 0]))] (fun w9 => ∃ (q5 n10_12 q19 n10_26 q33 q5_37 n10_12_37 n21_37 n29_37 n42_37 n50_37 n58_37 q44 n7_48 : Nat), w9 = [(x, .inr (5, [.ref q5, .ref q19, .ref q33, .ref q44, .int (-2)])), (q5, .inr (4, [.ref n10_12, .int 0])), (n10_12, .inl (cB, 6000, .inl (b8 (fun _ => 0)))), (q19, .inr (4, [.ref n10_26, .int 0])), (n10_26, .inl (cB, 13044, .inl (b8 (fun _ => 0)))), (q33, .inr (0, [.ref q5_37, .ref n21_37, .ref n29_37, .int 0, .ref n42_37, .ref n50_37, .ref n58_37, .int 0])), (q5_37, .inr (4, [.ref n10_12_37, .int 0])), (n10_12_37, .inl (cB, 12000, .inl (b8 (fun _ => 0)))), (n21_37, .inl (cI, 60, .inl (fun _ => 0))), (n29_37, .inl (cI, 61, .inl (fun _ => 0))), (n42_37, .inl (cI, 40, .inl (fun _ => 0))), (n50_37, .inl (cJ, 40, .inr (.inl (fun _ => 0)))), (n58_37, .inl (cI, 40, .inl (fun _ => 0))), (q44, .inr (1, [.ref n7_48, .int 0, .int (-2)])), (n7_48, .inl (cI, 60, .inl (fun _ => 0)))]) := by
  refine CE_of (cc := cX9_init) (nL := 1) (own := RX9) (ret := none) (by decide) rfl rfl (Nat.le_of_ble_eq_true rfl) (fun X O hnm0 => ?_)
  have hnm := hnm0 rfl
  show J X 1 (JQe X (fun w9 => ∃ (q5 n10_12 q19 n10_26 q33 q5_37 n10_12_37 n21_37 n29_37 n42_37 n50_37 n58_37 q44 n7_48 : Nat), w9 = [(x, .inr (5, [.ref q5, .ref q19, .ref q33, .ref q44, .int (-2)])), (q5, .inr (4, [.ref n10_12, .int 0])), (n10_12, .inl (cB, 6000, .inl (b8 (fun _ => 0)))), (q19, .inr (4, [.ref n10_26, .int 0])), (n10_26, .inl (cB, 13044, .inl (b8 (fun _ => 0)))), (q33, .inr (0, [.ref q5_37, .ref n21_37, .ref n29_37, .int 0, .ref n42_37, .ref n50_37, .ref n58_37, .int 0])), (q5_37, .inr (4, [.ref n10_12_37, .int 0])), (n10_12_37, .inl (cB, 12000, .inl (b8 (fun _ => 0)))), (n21_37, .inl (cI, 60, .inl (fun _ => 0))), (n29_37, .inl (cI, 61, .inl (fun _ => 0))), (n42_37, .inl (cI, 40, .inl (fun _ => 0))), (n50_37, .inl (cJ, 40, .inr (.inl (fun _ => 0)))), (n58_37, .inl (cI, 40, .inl (fun _ => 0))), (q44, .inr (1, [.ref n7_48, .int 0, .int (-2)])), (n7_48, .inl (cI, 60, .inl (fun _ => 0)))]) 14 31362) [(x, .inr (5, [.null, .null, .null, .null, .int 0]))] 0 0 0 [(0, .ref x)] []
  refine J_aload_n O (i := 0) (k0 := 0) (pc := 0) 0 rfl rfl dX9_init_0 ?_
  refine J_objInit O (pc := 1) mb_X9_init_0 mb_X9_init_1 mb_X9_init_2 (Nat.le_of_ble_eq_true rfl) (Nat.le_of_ble_eq_true rfl) dX9_init_1 ?_
  refine J_aload_n O (i := 0) (k0 := 0) (pc := 4) 0 rfl rfl dX9_init_4 ?_
  refine J_new O (pc := 5) in_X9_init_X6 tyX6 tyX6_ok mb_X9_init_4 mb_X9_init_5 mb_X9_init_6 rfl [.null, .int 0] fs_X6 (Nat.le_of_ble_eq_true rfl) (Nat.le_of_ble_eq_true rfl) (fun q5 => [(x, .inr (5, [.null, .null, .null, .null, .int 0])), (q5, .inr (4, [.null, .int 0]))]) (fun _ => rfl) (1) (2) rfl rfl dX9_init_5 (fun q5 => ?_)
  refine J_dup O (pc := 8) rfl dX9_init_8 ?_
  refine J_sipush O (v := 6000) (pc := 9) (by decide) dX9_init_9 ?_
  refine J_callIe O (pc := 12) (c_X6_init6000 l D cB cI cJ q5) rfl gX9_init_X6_init mb_X9_init_7 mb_X9_init_8 mb_X9_init_9 rfl hdS_X6_init ⟨(Nat.le_of_ble_eq_true rfl), (Nat.le_of_ble_eq_true rfl)⟩ rfl (st := [.ref q5, .ref x]) rfl (Nat.le_of_ble_eq_true rfl) [1] [0] rfl rfl rfl rfl rfl (by decide) 2 6002 (Nat.le_of_ble_eq_true rfl) (Nat.le_of_ble_eq_true rfl) ⟨(Nat.le_of_ble_eq_true rfl), (Nat.le_of_ble_eq_true rfl)⟩ dX9_init_12 (fun w9 h9 => ?_)
  obtain ⟨n10_12, rfl⟩ := h9
  show J X 1 _ [(x, .inr (5, [.null, .null, .null, .null, .int 0])), (q5, .inr (4, [.ref n10_12, .int 0])), (n10_12, .inl (cB, 6000, .inl (b8 (fun _ => 0))))] 2 6002 (12 + 3) [(0, .ref x)] [.ref q5, .ref x]
  refine J_putF O (pc := 15) in_X9_init_X9 tyX9 tyX9_ok nmX9 0 rfl rfl 0 (by decide) mb_X9_init_11 rfl hnm rfl rfl rfl (Nat.le_of_ble_eq_true rfl) [(x, .inr (5, [.ref q5, .null, .null, .null, .int 0])), (q5, .inr (4, [.ref n10_12, .int 0])), (n10_12, .inl (cB, 6000, .inl (b8 (fun _ => 0))))] rfl dX9_init_15 ?_
  refine J_aload_n O (i := 0) (k0 := 0) (pc := 18) 0 rfl rfl dX9_init_18 ?_
  refine J_new O (pc := 19) in_X9_init_X6 tyX6 tyX6_ok mb_X9_init_4 mb_X9_init_5 mb_X9_init_6 rfl [.null, .int 0] fs_X6 (Nat.le_of_ble_eq_true rfl) (Nat.le_of_ble_eq_true rfl) (fun q19 => [(x, .inr (5, [.ref q5, .null, .null, .null, .int 0])), (q5, .inr (4, [.ref n10_12, .int 0])), (n10_12, .inl (cB, 6000, .inl (b8 (fun _ => 0)))), (q19, .inr (4, [.null, .int 0]))]) (fun _ => rfl) (3) (6004) rfl rfl dX9_init_19 (fun q19 => ?_)
  refine J_dup O (pc := 22) rfl dX9_init_22 ?_
  refine J_sipush O (v := 13044) (pc := 23) (by decide) dX9_init_23 ?_
  refine J_callIe O (pc := 26) (c_X6_init13044 l D cB cI cJ q19) rfl gX9_init_X6_init mb_X9_init_7 mb_X9_init_8 mb_X9_init_9 rfl hdS_X6_init ⟨(Nat.le_of_ble_eq_true rfl), (Nat.le_of_ble_eq_true rfl)⟩ rfl (st := [.ref q19, .ref x]) rfl (Nat.le_of_ble_eq_true rfl) [3] [0, 1, 2] rfl rfl rfl rfl rfl (by decide) 4 19048 (Nat.le_of_ble_eq_true rfl) (Nat.le_of_ble_eq_true rfl) ⟨(Nat.le_of_ble_eq_true rfl), (Nat.le_of_ble_eq_true rfl)⟩ dX9_init_26 (fun w9 h9 => ?_)
  obtain ⟨n10_26, rfl⟩ := h9
  show J X 1 _ [(x, .inr (5, [.ref q5, .null, .null, .null, .int 0])), (q5, .inr (4, [.ref n10_12, .int 0])), (n10_12, .inl (cB, 6000, .inl (b8 (fun _ => 0)))), (q19, .inr (4, [.ref n10_26, .int 0])), (n10_26, .inl (cB, 13044, .inl (b8 (fun _ => 0))))] 4 19048 (26 + 3) [(0, .ref x)] [.ref q19, .ref x]
  refine J_putF O (pc := 29) in_X9_init_X9 tyX9 tyX9_ok nmX9 0 rfl rfl 1 (by decide) mb_X9_init_12 rfl hnm rfl rfl rfl (Nat.le_of_ble_eq_true rfl) [(x, .inr (5, [.ref q5, .ref q19, .null, .null, .int 0])), (q5, .inr (4, [.ref n10_12, .int 0])), (n10_12, .inl (cB, 6000, .inl (b8 (fun _ => 0)))), (q19, .inr (4, [.ref n10_26, .int 0])), (n10_26, .inl (cB, 13044, .inl (b8 (fun _ => 0))))] rfl dX9_init_29 ?_
  refine J_aload_n O (i := 0) (k0 := 0) (pc := 32) 0 rfl rfl dX9_init_32 ?_
  refine J_new O (pc := 33) in_X9_init_X0 tyX0 tyX0_ok mb_X9_init_14 mb_X9_init_15 mb_X9_init_16 rfl [.null, .null, .null, .int 0, .null, .null, .null, .int 0] fs_X0 (Nat.le_of_ble_eq_true rfl) (Nat.le_of_ble_eq_true rfl) (fun q33 => [(x, .inr (5, [.ref q5, .ref q19, .null, .null, .int 0])), (q5, .inr (4, [.ref n10_12, .int 0])), (n10_12, .inl (cB, 6000, .inl (b8 (fun _ => 0)))), (q19, .inr (4, [.ref n10_26, .int 0])), (n10_26, .inl (cB, 13044, .inl (b8 (fun _ => 0)))), (q33, .inr (0, [.null, .null, .null, .int 0, .null, .null, .null, .int 0]))]) (fun _ => rfl) (5) (19056) rfl rfl dX9_init_33 (fun q33 => ?_)
  refine J_dup O (pc := 36) rfl dX9_init_36 ?_
  refine J_callIe O (pc := 37) (c_X0_init l D cB cI cJ q33) rfl gX9_init_X0_init mb_X9_init_17 mb_X9_init_18 mb_X9_init_19 rfl hdS_X0_init ⟨(Nat.le_of_ble_eq_true rfl), (Nat.le_of_ble_eq_true rfl)⟩ rfl (st := [.ref q33, .ref x]) rfl (Nat.le_of_ble_eq_true rfl) [5] [0, 1, 2, 3, 4] rfl rfl rfl rfl rfl (by decide) 12 31299 (Nat.le_of_ble_eq_true rfl) (Nat.le_of_ble_eq_true rfl) ⟨(Nat.le_of_ble_eq_true rfl), (Nat.le_of_ble_eq_true rfl)⟩ dX9_init_37 (fun w9 h9 => ?_)
  obtain ⟨q5_37, n10_12_37, n21_37, n29_37, n42_37, n50_37, n58_37, rfl⟩ := h9
  show J X 1 _ [(x, .inr (5, [.ref q5, .ref q19, .null, .null, .int 0])), (q5, .inr (4, [.ref n10_12, .int 0])), (n10_12, .inl (cB, 6000, .inl (b8 (fun _ => 0)))), (q19, .inr (4, [.ref n10_26, .int 0])), (n10_26, .inl (cB, 13044, .inl (b8 (fun _ => 0)))), (q33, .inr (0, [.ref q5_37, .ref n21_37, .ref n29_37, .int 0, .ref n42_37, .ref n50_37, .ref n58_37, .int 0])), (q5_37, .inr (4, [.ref n10_12_37, .int 0])), (n10_12_37, .inl (cB, 12000, .inl (b8 (fun _ => 0)))), (n21_37, .inl (cI, 60, .inl (fun _ => 0))), (n29_37, .inl (cI, 61, .inl (fun _ => 0))), (n42_37, .inl (cI, 40, .inl (fun _ => 0))), (n50_37, .inl (cJ, 40, .inr (.inl (fun _ => 0)))), (n58_37, .inl (cI, 40, .inl (fun _ => 0)))] 12 31299 (37 + 3) [(0, .ref x)] [.ref q33, .ref x]
  refine J_putF O (pc := 40) in_X9_init_X9 tyX9 tyX9_ok nmX9 0 rfl rfl 2 (by decide) mb_X9_init_20 rfl hnm rfl rfl rfl (Nat.le_of_ble_eq_true rfl) [(x, .inr (5, [.ref q5, .ref q19, .ref q33, .null, .int 0])), (q5, .inr (4, [.ref n10_12, .int 0])), (n10_12, .inl (cB, 6000, .inl (b8 (fun _ => 0)))), (q19, .inr (4, [.ref n10_26, .int 0])), (n10_26, .inl (cB, 13044, .inl (b8 (fun _ => 0)))), (q33, .inr (0, [.ref q5_37, .ref n21_37, .ref n29_37, .int 0, .ref n42_37, .ref n50_37, .ref n58_37, .int 0])), (q5_37, .inr (4, [.ref n10_12_37, .int 0])), (n10_12_37, .inl (cB, 12000, .inl (b8 (fun _ => 0)))), (n21_37, .inl (cI, 60, .inl (fun _ => 0))), (n29_37, .inl (cI, 61, .inl (fun _ => 0))), (n42_37, .inl (cI, 40, .inl (fun _ => 0))), (n50_37, .inl (cJ, 40, .inr (.inl (fun _ => 0)))), (n58_37, .inl (cI, 40, .inl (fun _ => 0)))] rfl dX9_init_40 ?_
  refine J_aload_n O (i := 0) (k0 := 0) (pc := 43) 0 rfl rfl dX9_init_43 ?_
  refine J_new O (pc := 44) in_X9_init_X1 tyX1 tyX1_ok mb_X9_init_22 mb_X9_init_23 mb_X9_init_24 rfl [.null, .int 0, .int 0] fs_X1 (Nat.le_of_ble_eq_true rfl) (Nat.le_of_ble_eq_true rfl) (fun q44 => [(x, .inr (5, [.ref q5, .ref q19, .ref q33, .null, .int 0])), (q5, .inr (4, [.ref n10_12, .int 0])), (n10_12, .inl (cB, 6000, .inl (b8 (fun _ => 0)))), (q19, .inr (4, [.ref n10_26, .int 0])), (n10_26, .inl (cB, 13044, .inl (b8 (fun _ => 0)))), (q33, .inr (0, [.ref q5_37, .ref n21_37, .ref n29_37, .int 0, .ref n42_37, .ref n50_37, .ref n58_37, .int 0])), (q5_37, .inr (4, [.ref n10_12_37, .int 0])), (n10_12_37, .inl (cB, 12000, .inl (b8 (fun _ => 0)))), (n21_37, .inl (cI, 60, .inl (fun _ => 0))), (n29_37, .inl (cI, 61, .inl (fun _ => 0))), (n42_37, .inl (cI, 40, .inl (fun _ => 0))), (n50_37, .inl (cJ, 40, .inr (.inl (fun _ => 0)))), (n58_37, .inl (cI, 40, .inl (fun _ => 0))), (q44, .inr (1, [.null, .int 0, .int 0]))]) (fun _ => rfl) (13) (31302) rfl rfl dX9_init_44 (fun q44 => ?_)
  refine J_dup O (pc := 47) rfl dX9_init_47 ?_
  refine J_callIe O (pc := 48) (c_X1_init l D cB cI cJ q44) rfl gX9_init_X1_init mb_X9_init_25 mb_X9_init_26 mb_X9_init_27 rfl hdS_X1_init ⟨(Nat.le_of_ble_eq_true rfl), (Nat.le_of_ble_eq_true rfl)⟩ rfl (st := [.ref q44, .ref x]) rfl (Nat.le_of_ble_eq_true rfl) [13] [0, 1, 2, 3, 4, 5, 6, 7, 8, 9, 10, 11, 12] rfl rfl rfl rfl rfl (by decide) 14 31362 (Nat.le_of_ble_eq_true rfl) (Nat.le_of_ble_eq_true rfl) ⟨(Nat.le_of_ble_eq_true rfl), (Nat.le_of_ble_eq_true rfl)⟩ dX9_init_48 (fun w9 h9 => ?_)
  obtain ⟨n7_48, rfl⟩ := h9
  show J X 1 _ [(x, .inr (5, [.ref q5, .ref q19, .ref q33, .null, .int 0])), (q5, .inr (4, [.ref n10_12, .int 0])), (n10_12, .inl (cB, 6000, .inl (b8 (fun _ => 0)))), (q19, .inr (4, [.ref n10_26, .int 0])), (n10_26, .inl (cB, 13044, .inl (b8 (fun _ => 0)))), (q33, .inr (0, [.ref q5_37, .ref n21_37, .ref n29_37, .int 0, .ref n42_37, .ref n50_37, .ref n58_37, .int 0])), (q5_37, .inr (4, [.ref n10_12_37, .int 0])), (n10_12_37, .inl (cB, 12000, .inl (b8 (fun _ => 0)))), (n21_37, .inl (cI, 60, .inl (fun _ => 0))), (n29_37, .inl (cI, 61, .inl (fun _ => 0))), (n42_37, .inl (cI, 40, .inl (fun _ => 0))), (n50_37, .inl (cJ, 40, .inr (.inl (fun _ => 0)))), (n58_37, .inl (cI, 40, .inl (fun _ => 0))), (q44, .inr (1, [.ref n7_48, .int 0, .int (-2)])), (n7_48, .inl (cI, 60, .inl (fun _ => 0)))] 14 31362 (48 + 3) [(0, .ref x)] [.ref q44, .ref x]
  refine J_putF O (pc := 51) in_X9_init_X9 tyX9 tyX9_ok nmX9 0 rfl rfl 3 (by decide) mb_X9_init_28 rfl hnm rfl rfl rfl (Nat.le_of_ble_eq_true rfl) [(x, .inr (5, [.ref q5, .ref q19, .ref q33, .ref q44, .int 0])), (q5, .inr (4, [.ref n10_12, .int 0])), (n10_12, .inl (cB, 6000, .inl (b8 (fun _ => 0)))), (q19, .inr (4, [.ref n10_26, .int 0])), (n10_26, .inl (cB, 13044, .inl (b8 (fun _ => 0)))), (q33, .inr (0, [.ref q5_37, .ref n21_37, .ref n29_37, .int 0, .ref n42_37, .ref n50_37, .ref n58_37, .int 0])), (q5_37, .inr (4, [.ref n10_12_37, .int 0])), (n10_12_37, .inl (cB, 12000, .inl (b8 (fun _ => 0)))), (n21_37, .inl (cI, 60, .inl (fun _ => 0))), (n29_37, .inl (cI, 61, .inl (fun _ => 0))), (n42_37, .inl (cI, 40, .inl (fun _ => 0))), (n50_37, .inl (cJ, 40, .inr (.inl (fun _ => 0)))), (n58_37, .inl (cI, 40, .inl (fun _ => 0))), (q44, .inr (1, [.ref n7_48, .int 0, .int (-2)])), (n7_48, .inl (cI, 60, .inl (fun _ => 0)))] rfl dX9_init_51 ?_
  refine J_aload_n O (i := 0) (k0 := 0) (pc := 54) 0 rfl rfl dX9_init_54 ?_
  refine J_bipush O (v := (-2)) (pc := 55) (by decide) dX9_init_55 ?_
  refine J_put O (pc := 57) in_X9_init_X9 tyX9 tyX9_ok nmX9 0 rfl rfl 4 (by decide) mb_X9_init_29 rfl rfl rfl (Nat.le_of_ble_eq_true rfl) [(x, .inr (5, [.ref q5, .ref q19, .ref q33, .ref q44, .int (-2)])), (q5, .inr (4, [.ref n10_12, .int 0])), (n10_12, .inl (cB, 6000, .inl (b8 (fun _ => 0)))), (q19, .inr (4, [.ref n10_26, .int 0])), (n10_26, .inl (cB, 13044, .inl (b8 (fun _ => 0)))), (q33, .inr (0, [.ref q5_37, .ref n21_37, .ref n29_37, .int 0, .ref n42_37, .ref n50_37, .ref n58_37, .int 0])), (q5_37, .inr (4, [.ref n10_12_37, .int 0])), (n10_12_37, .inl (cB, 12000, .inl (b8 (fun _ => 0)))), (n21_37, .inl (cI, 60, .inl (fun _ => 0))), (n29_37, .inl (cI, 61, .inl (fun _ => 0))), (n42_37, .inl (cI, 40, .inl (fun _ => 0))), (n50_37, .inl (cJ, 40, .inr (.inl (fun _ => 0)))), (n58_37, .inl (cI, 40, .inl (fun _ => 0))), (q44, .inr (1, [.ref n7_48, .int 0, .int (-2)])), (n7_48, .inl (cI, 60, .inl (fun _ => 0)))] rfl dX9_init_57 ?_
  exact J_eret O (pc := 60) ⟨q5, n10_12, q19, n10_26, q33, q5_37, n10_12_37, n21_37, n29_37, n42_37, n50_37, n58_37, q44, n7_48, rfl⟩ dX9_init_60
theorem mb_X10_init_0 : Cond.methodLink RX10 1 objectInit ∈ wsX10_init := by decide +kernel
theorem mb_X10_init_1 : Cond.instanceMethod objectInit ∈ wsX10_init := by decide +kernel
theorem mb_X10_init_2 : Cond.code objectInit ⟨#[0xb1]⟩ 1 none ∈ wsX10_init := by decide +kernel
theorem mb_X10_init_3 : Cond.arrayClass .int ∈ wsX10_init := by decide +kernel
theorem in_X10_init_X10 : ∀ w ∈ u_ws RX10 TX10 18, w ∈ wsX10_init := fun _ h => List.mem_cons_of_mem _ (List.mem_append_right _ h)
theorem mb_X10_init_5 : Cond.fieldLink RX10 7 (TX10 0).1 (TX10 0).2.1 (TX10 0).2.2.1 ∈ wsX10_init := by decide +kernel
theorem mb_X10_init_6 : Cond.fieldLink RX10 13 (TX10 2).1 (TX10 2).2.1 (TX10 2).2.2.1 ∈ wsX10_init := by decide +kernel
theorem mb_X10_init_7 : Cond.fieldLink RX10 16 (TX10 4).1 (TX10 4).2.1 (TX10 4).2.2.1 ∈ wsX10_init := by decide +kernel
theorem mb_X10_init_8 : Cond.fieldLink RX10 19 (TX10 5).1 (TX10 5).2.1 (TX10 5).2.2.1 ∈ wsX10_init := by decide +kernel
theorem mb_X10_init_9 : Cond.fieldLink RX10 22 (TX10 7).1 (TX10 7).2.1 (TX10 7).2.2.1 ∈ wsX10_init := by decide +kernel
theorem mb_X10_init_10 : Cond.arrayClass .long ∈ wsX10_init := by decide +kernel
theorem mb_X10_init_11 : Cond.fieldLink RX10 25 (TX10 8).1 (TX10 8).2.1 (TX10 8).2.2.1 ∈ wsX10_init := by decide +kernel
theorem mb_X10_init_12 : Cond.fieldLink RX10 29 (TX10 9).1 (TX10 9).2.1 (TX10 9).2.2.1 ∈ wsX10_init := by decide +kernel
theorem mb_X10_init_13 : Cond.fieldLink RX10 32 (TX10 11).1 (TX10 11).2.1 (TX10 11).2.2.1 ∈ wsX10_init := by decide +kernel
theorem mb_X10_init_14 : Cond.fieldLink RX10 35 (TX10 13).1 (TX10 13).2.1 (TX10 13).2.2.1 ∈ wsX10_init := by decide +kernel
theorem mb_X10_init_15 : Cond.fieldLink RX10 39 (TX10 15).1 (TX10 15).2.1 (TX10 15).2.2.1 ∈ wsX10_init := by decide +kernel
abbrev rmX10_init : Room := { frames := 1, cells := 9, slots := 32306, locals := 20 }
set_option maxHeartbeats 4000000 in
set_option maxRecDepth 100000 in
theorem c_X10_init (l : Launch) (D : va_G) (cB cI cJ : ClassId) (m : Nat) : CE (l, D, cB, cI, cJ) yX10_init wsX10_init rmX10_init [.ref m] [(m, .inr (6, [.null, .int 0, .null, .int 0, .null, .null, .int 0, .null, .null, .null, .int 0, .null, .int 0, .int 0, .int 0, .null, .int 0, .int 0]))] (fun w9 => ∃ (n8 n17 n25 n33 n41 n49 n57 n66 n80 : Nat), w9 = [(m, .inr (6, [.ref n8, .int 0, .ref n17, .int 0, .ref n25, .ref n33, .int 0, .ref n41, .ref n49, .ref n57, .int 0, .ref n66, .int 0, .int (-2), .int 0, .ref n80, .int 0, .int 0])), (n8, .inl (cI, 6000, .inl (fun _ => 0))), (n17, .inl (cI, 12000, .inl (fun _ => 0))), (n25, .inl (cI, 61, .inl (fun _ => 0))), (n33, .inl (cI, 61, .inl (fun _ => 0))), (n41, .inl (cI, 41, .inl (fun _ => 0))), (n49, .inl (cJ, 41, .inr (.inl (fun _ => 0)))), (n57, .inl (cI, 41, .inl (fun _ => 0))), (n66, .inl (cI, 14000, .inl (fun _ => 0))), (n80, .inl (cI, 61, .inl (fun _ => 0)))]) := by
  refine CE_of (cc := cX10_init) (nL := 1) (own := RX10) (ret := none) (by decide) rfl rfl (Nat.le_of_ble_eq_true rfl) (fun X O hnm0 => ?_)
  have hnm := hnm0 rfl
  show J X 1 (JQe X (fun w9 => ∃ (n8 n17 n25 n33 n41 n49 n57 n66 n80 : Nat), w9 = [(m, .inr (6, [.ref n8, .int 0, .ref n17, .int 0, .ref n25, .ref n33, .int 0, .ref n41, .ref n49, .ref n57, .int 0, .ref n66, .int 0, .int (-2), .int 0, .ref n80, .int 0, .int 0])), (n8, .inl (cI, 6000, .inl (fun _ => 0))), (n17, .inl (cI, 12000, .inl (fun _ => 0))), (n25, .inl (cI, 61, .inl (fun _ => 0))), (n33, .inl (cI, 61, .inl (fun _ => 0))), (n41, .inl (cI, 41, .inl (fun _ => 0))), (n49, .inl (cJ, 41, .inr (.inl (fun _ => 0)))), (n57, .inl (cI, 41, .inl (fun _ => 0))), (n66, .inl (cI, 14000, .inl (fun _ => 0))), (n80, .inl (cI, 61, .inl (fun _ => 0)))]) 9 32306) [(m, .inr (6, [.null, .int 0, .null, .int 0, .null, .null, .int 0, .null, .null, .null, .int 0, .null, .int 0, .int 0, .int 0, .null, .int 0, .int 0]))] 0 0 0 [(0, .ref m)] []
  refine J_aload_n O (i := 0) (k0 := 0) (pc := 0) 0 rfl rfl dX10_init_0 ?_
  refine J_objInit O (pc := 1) mb_X10_init_0 mb_X10_init_1 mb_X10_init_2 (Nat.le_of_ble_eq_true rfl) (Nat.le_of_ble_eq_true rfl) dX10_init_1 ?_
  refine J_aload_n O (i := 0) (k0 := 0) (pc := 4) 0 rfl rfl dX10_init_4 ?_
  refine J_sipush O (v := 6000) (pc := 5) (by decide) dX10_init_5 ?_
  refine J_newI O (pc := 8) 6000 mb_X10_init_3 (by decide) (by decide) (by decide) (Nat.le_of_ble_eq_true rfl) (Nat.le_of_ble_eq_true rfl) dX10_init_8 (fun n8 => [(m, .inr (6, [.null, .int 0, .null, .int 0, .null, .null, .int 0, .null, .null, .null, .int 0, .null, .int 0, .int 0, .int 0, .null, .int 0, .int 0])), (n8, .inl (cI, 6000, .inl (fun _ => 0)))]) (fun _ => rfl) 1 6000 rfl rfl (fun n8 => ?_)
  refine J_putF O (pc := 10) in_X10_init_X10 tyX10 tyX10_ok nmX10 0 rfl rfl 0 (by decide) mb_X10_init_5 rfl hnm rfl rfl rfl (Nat.le_of_ble_eq_true rfl) [(m, .inr (6, [.ref n8, .int 0, .null, .int 0, .null, .null, .int 0, .null, .null, .null, .int 0, .null, .int 0, .int 0, .int 0, .null, .int 0, .int 0])), (n8, .inl (cI, 6000, .inl (fun _ => 0)))] rfl dX10_init_10 ?_
  refine J_aload_n O (i := 0) (k0 := 0) (pc := 13) 0 rfl rfl dX10_init_13 ?_
  refine J_sipush O (v := 12000) (pc := 14) (by decide) dX10_init_14 ?_
  refine J_newI O (pc := 17) 12000 mb_X10_init_3 (by decide) (by decide) (by decide) (Nat.le_of_ble_eq_true rfl) (Nat.le_of_ble_eq_true rfl) dX10_init_17 (fun n17 => [(m, .inr (6, [.ref n8, .int 0, .null, .int 0, .null, .null, .int 0, .null, .null, .null, .int 0, .null, .int 0, .int 0, .int 0, .null, .int 0, .int 0])), (n8, .inl (cI, 6000, .inl (fun _ => 0))), (n17, .inl (cI, 12000, .inl (fun _ => 0)))]) (fun _ => rfl) 2 18000 rfl rfl (fun n17 => ?_)
  refine J_putF O (pc := 19) in_X10_init_X10 tyX10 tyX10_ok nmX10 0 rfl rfl 2 (by decide) mb_X10_init_6 rfl hnm rfl rfl rfl (Nat.le_of_ble_eq_true rfl) [(m, .inr (6, [.ref n8, .int 0, .ref n17, .int 0, .null, .null, .int 0, .null, .null, .null, .int 0, .null, .int 0, .int 0, .int 0, .null, .int 0, .int 0])), (n8, .inl (cI, 6000, .inl (fun _ => 0))), (n17, .inl (cI, 12000, .inl (fun _ => 0)))] rfl dX10_init_19 ?_
  refine J_aload_n O (i := 0) (k0 := 0) (pc := 22) 0 rfl rfl dX10_init_22 ?_
  refine J_bipush O (v := 61) (pc := 23) (by decide) dX10_init_23 ?_
  refine J_newI O (pc := 25) 61 mb_X10_init_3 (by decide) (by decide) (by decide) (Nat.le_of_ble_eq_true rfl) (Nat.le_of_ble_eq_true rfl) dX10_init_25 (fun n25 => [(m, .inr (6, [.ref n8, .int 0, .ref n17, .int 0, .null, .null, .int 0, .null, .null, .null, .int 0, .null, .int 0, .int 0, .int 0, .null, .int 0, .int 0])), (n8, .inl (cI, 6000, .inl (fun _ => 0))), (n17, .inl (cI, 12000, .inl (fun _ => 0))), (n25, .inl (cI, 61, .inl (fun _ => 0)))]) (fun _ => rfl) 3 18061 rfl rfl (fun n25 => ?_)
  refine J_putF O (pc := 27) in_X10_init_X10 tyX10 tyX10_ok nmX10 0 rfl rfl 4 (by decide) mb_X10_init_7 rfl hnm rfl rfl rfl (Nat.le_of_ble_eq_true rfl) [(m, .inr (6, [.ref n8, .int 0, .ref n17, .int 0, .ref n25, .null, .int 0, .null, .null, .null, .int 0, .null, .int 0, .int 0, .int 0, .null, .int 0, .int 0])), (n8, .inl (cI, 6000, .inl (fun _ => 0))), (n17, .inl (cI, 12000, .inl (fun _ => 0))), (n25, .inl (cI, 61, .inl (fun _ => 0)))] rfl dX10_init_27 ?_
  refine J_aload_n O (i := 0) (k0 := 0) (pc := 30) 0 rfl rfl dX10_init_30 ?_
  refine J_bipush O (v := 61) (pc := 31) (by decide) dX10_init_31 ?_
  refine J_newI O (pc := 33) 61 mb_X10_init_3 (by decide) (by decide) (by decide) (Nat.le_of_ble_eq_true rfl) (Nat.le_of_ble_eq_true rfl) dX10_init_33 (fun n33 => [(m, .inr (6, [.ref n8, .int 0, .ref n17, .int 0, .ref n25, .null, .int 0, .null, .null, .null, .int 0, .null, .int 0, .int 0, .int 0, .null, .int 0, .int 0])), (n8, .inl (cI, 6000, .inl (fun _ => 0))), (n17, .inl (cI, 12000, .inl (fun _ => 0))), (n25, .inl (cI, 61, .inl (fun _ => 0))), (n33, .inl (cI, 61, .inl (fun _ => 0)))]) (fun _ => rfl) 4 18122 rfl rfl (fun n33 => ?_)
  refine J_putF O (pc := 35) in_X10_init_X10 tyX10 tyX10_ok nmX10 0 rfl rfl 5 (by decide) mb_X10_init_8 rfl hnm rfl rfl rfl (Nat.le_of_ble_eq_true rfl) [(m, .inr (6, [.ref n8, .int 0, .ref n17, .int 0, .ref n25, .ref n33, .int 0, .null, .null, .null, .int 0, .null, .int 0, .int 0, .int 0, .null, .int 0, .int 0])), (n8, .inl (cI, 6000, .inl (fun _ => 0))), (n17, .inl (cI, 12000, .inl (fun _ => 0))), (n25, .inl (cI, 61, .inl (fun _ => 0))), (n33, .inl (cI, 61, .inl (fun _ => 0)))] rfl dX10_init_35 ?_
  refine J_aload_n O (i := 0) (k0 := 0) (pc := 38) 0 rfl rfl dX10_init_38 ?_
  refine J_bipush O (v := 41) (pc := 39) (by decide) dX10_init_39 ?_
  refine J_newI O (pc := 41) 41 mb_X10_init_3 (by decide) (by decide) (by decide) (Nat.le_of_ble_eq_true rfl) (Nat.le_of_ble_eq_true rfl) dX10_init_41 (fun n41 => [(m, .inr (6, [.ref n8, .int 0, .ref n17, .int 0, .ref n25, .ref n33, .int 0, .null, .null, .null, .int 0, .null, .int 0, .int 0, .int 0, .null, .int 0, .int 0])), (n8, .inl (cI, 6000, .inl (fun _ => 0))), (n17, .inl (cI, 12000, .inl (fun _ => 0))), (n25, .inl (cI, 61, .inl (fun _ => 0))), (n33, .inl (cI, 61, .inl (fun _ => 0))), (n41, .inl (cI, 41, .inl (fun _ => 0)))]) (fun _ => rfl) 5 18163 rfl rfl (fun n41 => ?_)
  refine J_putF O (pc := 43) in_X10_init_X10 tyX10 tyX10_ok nmX10 0 rfl rfl 7 (by decide) mb_X10_init_9 rfl hnm rfl rfl rfl (Nat.le_of_ble_eq_true rfl) [(m, .inr (6, [.ref n8, .int 0, .ref n17, .int 0, .ref n25, .ref n33, .int 0, .ref n41, .null, .null, .int 0, .null, .int 0, .int 0, .int 0, .null, .int 0, .int 0])), (n8, .inl (cI, 6000, .inl (fun _ => 0))), (n17, .inl (cI, 12000, .inl (fun _ => 0))), (n25, .inl (cI, 61, .inl (fun _ => 0))), (n33, .inl (cI, 61, .inl (fun _ => 0))), (n41, .inl (cI, 41, .inl (fun _ => 0)))] rfl dX10_init_43 ?_
  refine J_aload_n O (i := 0) (k0 := 0) (pc := 46) 0 rfl rfl dX10_init_46 ?_
  refine J_bipush O (v := 41) (pc := 47) (by decide) dX10_init_47 ?_
  refine J_newJ O (pc := 49) 41 mb_X10_init_10 (by decide) (by decide) (by decide) (Nat.le_of_ble_eq_true rfl) (Nat.le_of_ble_eq_true rfl) dX10_init_49 (fun n49 => [(m, .inr (6, [.ref n8, .int 0, .ref n17, .int 0, .ref n25, .ref n33, .int 0, .ref n41, .null, .null, .int 0, .null, .int 0, .int 0, .int 0, .null, .int 0, .int 0])), (n8, .inl (cI, 6000, .inl (fun _ => 0))), (n17, .inl (cI, 12000, .inl (fun _ => 0))), (n25, .inl (cI, 61, .inl (fun _ => 0))), (n33, .inl (cI, 61, .inl (fun _ => 0))), (n41, .inl (cI, 41, .inl (fun _ => 0))), (n49, .inl (cJ, 41, .inr (.inl (fun _ => 0))))]) (fun _ => rfl) 6 18204 rfl rfl (fun n49 => ?_)
  refine J_putF O (pc := 51) in_X10_init_X10 tyX10 tyX10_ok nmX10 0 rfl rfl 8 (by decide) mb_X10_init_11 rfl hnm rfl rfl rfl (Nat.le_of_ble_eq_true rfl) [(m, .inr (6, [.ref n8, .int 0, .ref n17, .int 0, .ref n25, .ref n33, .int 0, .ref n41, .ref n49, .null, .int 0, .null, .int 0, .int 0, .int 0, .null, .int 0, .int 0])), (n8, .inl (cI, 6000, .inl (fun _ => 0))), (n17, .inl (cI, 12000, .inl (fun _ => 0))), (n25, .inl (cI, 61, .inl (fun _ => 0))), (n33, .inl (cI, 61, .inl (fun _ => 0))), (n41, .inl (cI, 41, .inl (fun _ => 0))), (n49, .inl (cJ, 41, .inr (.inl (fun _ => 0))))] rfl dX10_init_51 ?_
  refine J_aload_n O (i := 0) (k0 := 0) (pc := 54) 0 rfl rfl dX10_init_54 ?_
  refine J_bipush O (v := 41) (pc := 55) (by decide) dX10_init_55 ?_
  refine J_newI O (pc := 57) 41 mb_X10_init_3 (by decide) (by decide) (by decide) (Nat.le_of_ble_eq_true rfl) (Nat.le_of_ble_eq_true rfl) dX10_init_57 (fun n57 => [(m, .inr (6, [.ref n8, .int 0, .ref n17, .int 0, .ref n25, .ref n33, .int 0, .ref n41, .ref n49, .null, .int 0, .null, .int 0, .int 0, .int 0, .null, .int 0, .int 0])), (n8, .inl (cI, 6000, .inl (fun _ => 0))), (n17, .inl (cI, 12000, .inl (fun _ => 0))), (n25, .inl (cI, 61, .inl (fun _ => 0))), (n33, .inl (cI, 61, .inl (fun _ => 0))), (n41, .inl (cI, 41, .inl (fun _ => 0))), (n49, .inl (cJ, 41, .inr (.inl (fun _ => 0)))), (n57, .inl (cI, 41, .inl (fun _ => 0)))]) (fun _ => rfl) 7 18245 rfl rfl (fun n57 => ?_)
  refine J_putF O (pc := 59) in_X10_init_X10 tyX10 tyX10_ok nmX10 0 rfl rfl 9 (by decide) mb_X10_init_12 rfl hnm rfl rfl rfl (Nat.le_of_ble_eq_true rfl) [(m, .inr (6, [.ref n8, .int 0, .ref n17, .int 0, .ref n25, .ref n33, .int 0, .ref n41, .ref n49, .ref n57, .int 0, .null, .int 0, .int 0, .int 0, .null, .int 0, .int 0])), (n8, .inl (cI, 6000, .inl (fun _ => 0))), (n17, .inl (cI, 12000, .inl (fun _ => 0))), (n25, .inl (cI, 61, .inl (fun _ => 0))), (n33, .inl (cI, 61, .inl (fun _ => 0))), (n41, .inl (cI, 41, .inl (fun _ => 0))), (n49, .inl (cJ, 41, .inr (.inl (fun _ => 0)))), (n57, .inl (cI, 41, .inl (fun _ => 0)))] rfl dX10_init_59 ?_
  refine J_aload_n O (i := 0) (k0 := 0) (pc := 62) 0 rfl rfl dX10_init_62 ?_
  refine J_sipush O (v := 14000) (pc := 63) (by decide) dX10_init_63 ?_
  refine J_newI O (pc := 66) 14000 mb_X10_init_3 (by decide) (by decide) (by decide) (Nat.le_of_ble_eq_true rfl) (Nat.le_of_ble_eq_true rfl) dX10_init_66 (fun n66 => [(m, .inr (6, [.ref n8, .int 0, .ref n17, .int 0, .ref n25, .ref n33, .int 0, .ref n41, .ref n49, .ref n57, .int 0, .null, .int 0, .int 0, .int 0, .null, .int 0, .int 0])), (n8, .inl (cI, 6000, .inl (fun _ => 0))), (n17, .inl (cI, 12000, .inl (fun _ => 0))), (n25, .inl (cI, 61, .inl (fun _ => 0))), (n33, .inl (cI, 61, .inl (fun _ => 0))), (n41, .inl (cI, 41, .inl (fun _ => 0))), (n49, .inl (cJ, 41, .inr (.inl (fun _ => 0)))), (n57, .inl (cI, 41, .inl (fun _ => 0))), (n66, .inl (cI, 14000, .inl (fun _ => 0)))]) (fun _ => rfl) 8 32245 rfl rfl (fun n66 => ?_)
  refine J_putF O (pc := 68) in_X10_init_X10 tyX10 tyX10_ok nmX10 0 rfl rfl 11 (by decide) mb_X10_init_13 rfl hnm rfl rfl rfl (Nat.le_of_ble_eq_true rfl) [(m, .inr (6, [.ref n8, .int 0, .ref n17, .int 0, .ref n25, .ref n33, .int 0, .ref n41, .ref n49, .ref n57, .int 0, .ref n66, .int 0, .int 0, .int 0, .null, .int 0, .int 0])), (n8, .inl (cI, 6000, .inl (fun _ => 0))), (n17, .inl (cI, 12000, .inl (fun _ => 0))), (n25, .inl (cI, 61, .inl (fun _ => 0))), (n33, .inl (cI, 61, .inl (fun _ => 0))), (n41, .inl (cI, 41, .inl (fun _ => 0))), (n49, .inl (cJ, 41, .inr (.inl (fun _ => 0)))), (n57, .inl (cI, 41, .inl (fun _ => 0))), (n66, .inl (cI, 14000, .inl (fun _ => 0)))] rfl dX10_init_68 ?_
  refine J_aload_n O (i := 0) (k0 := 0) (pc := 71) 0 rfl rfl dX10_init_71 ?_
  refine J_bipush O (v := (-2)) (pc := 72) (by decide) dX10_init_72 ?_
  refine J_put O (pc := 74) in_X10_init_X10 tyX10 tyX10_ok nmX10 0 rfl rfl 13 (by decide) mb_X10_init_14 rfl rfl rfl (Nat.le_of_ble_eq_true rfl) [(m, .inr (6, [.ref n8, .int 0, .ref n17, .int 0, .ref n25, .ref n33, .int 0, .ref n41, .ref n49, .ref n57, .int 0, .ref n66, .int 0, .int (-2), .int 0, .null, .int 0, .int 0])), (n8, .inl (cI, 6000, .inl (fun _ => 0))), (n17, .inl (cI, 12000, .inl (fun _ => 0))), (n25, .inl (cI, 61, .inl (fun _ => 0))), (n33, .inl (cI, 61, .inl (fun _ => 0))), (n41, .inl (cI, 41, .inl (fun _ => 0))), (n49, .inl (cJ, 41, .inr (.inl (fun _ => 0)))), (n57, .inl (cI, 41, .inl (fun _ => 0))), (n66, .inl (cI, 14000, .inl (fun _ => 0)))] rfl dX10_init_74 ?_
  refine J_aload_n O (i := 0) (k0 := 0) (pc := 77) 0 rfl rfl dX10_init_77 ?_
  refine J_bipush O (v := 61) (pc := 78) (by decide) dX10_init_78 ?_
  refine J_newI O (pc := 80) 61 mb_X10_init_3 (by decide) (by decide) (by decide) (Nat.le_of_ble_eq_true rfl) (Nat.le_of_ble_eq_true rfl) dX10_init_80 (fun n80 => [(m, .inr (6, [.ref n8, .int 0, .ref n17, .int 0, .ref n25, .ref n33, .int 0, .ref n41, .ref n49, .ref n57, .int 0, .ref n66, .int 0, .int (-2), .int 0, .null, .int 0, .int 0])), (n8, .inl (cI, 6000, .inl (fun _ => 0))), (n17, .inl (cI, 12000, .inl (fun _ => 0))), (n25, .inl (cI, 61, .inl (fun _ => 0))), (n33, .inl (cI, 61, .inl (fun _ => 0))), (n41, .inl (cI, 41, .inl (fun _ => 0))), (n49, .inl (cJ, 41, .inr (.inl (fun _ => 0)))), (n57, .inl (cI, 41, .inl (fun _ => 0))), (n66, .inl (cI, 14000, .inl (fun _ => 0))), (n80, .inl (cI, 61, .inl (fun _ => 0)))]) (fun _ => rfl) 9 32306 rfl rfl (fun n80 => ?_)
  refine J_putF O (pc := 82) in_X10_init_X10 tyX10 tyX10_ok nmX10 0 rfl rfl 15 (by decide) mb_X10_init_15 rfl hnm rfl rfl rfl (Nat.le_of_ble_eq_true rfl) [(m, .inr (6, [.ref n8, .int 0, .ref n17, .int 0, .ref n25, .ref n33, .int 0, .ref n41, .ref n49, .ref n57, .int 0, .ref n66, .int 0, .int (-2), .int 0, .ref n80, .int 0, .int 0])), (n8, .inl (cI, 6000, .inl (fun _ => 0))), (n17, .inl (cI, 12000, .inl (fun _ => 0))), (n25, .inl (cI, 61, .inl (fun _ => 0))), (n33, .inl (cI, 61, .inl (fun _ => 0))), (n41, .inl (cI, 41, .inl (fun _ => 0))), (n49, .inl (cJ, 41, .inr (.inl (fun _ => 0)))), (n57, .inl (cI, 41, .inl (fun _ => 0))), (n66, .inl (cI, 14000, .inl (fun _ => 0))), (n80, .inl (cI, 61, .inl (fun _ => 0)))] rfl dX10_init_82 ?_
  exact J_eret O (pc := 85) ⟨n8, n17, n25, n33, n41, n49, n57, n66, n80, rfl⟩ dX10_init_85
