/-! contracts of methods over the bundled walk -/
abbrev CPre (g : JG) (As : List Value) (w : va_W) (sz : Nat) : Array Value → State → Prop := va_Pc As (fun U => U.heap.size = sz ∧ va_P g.2.1 vwCl w U.heap ∧ va_K g.2.1 vwCl (Kt g.2.2.1 g.2.2.2.1 g.2.2.2.2) U ∧ va_D (fun _ => True) w)
abbrev CEnd (g : JG) (w' : va_W) (A : Nat → Prop) (t : State) : Prop := va_P g.2.1 vwCl w' t.heap ∧ va_K g.2.1 vwCl (Kt g.2.2.1 g.2.2.2.1 g.2.2.2.2) t ∧ va_D A w'
def Cv (g : JG) (y : MethodName) (ts : List Cond) (rm : Room) (As : List Value) (w w' : va_W) : Prop := ∀ sz : Nat, Met g.1 y ts rm (CPre g As w sz) (va_Qv (fun _ : Unit => True) (fun _ t => CEnd g w' (va_A w sz) t) (va_A w sz)) rm.cells rm.slots (va_A w sz)
def Ci (g : JG) (y : MethodName) (ts : List Cond) (rm : Room) (As : List Value) (w w' : va_W) (r : Int32) : Prop := ∀ sz : Nat, Met g.1 y ts rm (CPre g As w sz) (va_Qi (fun x (_ : Unit) => x = r) (fun _ t => CEnd g w' (va_A w sz) t) (va_A w sz)) rm.cells rm.slots (va_A w sz)
def Cl (g : JG) (y : MethodName) (ts : List Cond) (rm : Room) (As : List Value) (w w' : va_W) (r : Int64) : Prop := ∀ sz : Nat, Met g.1 y ts rm (CPre g As w sz) (va_Ql (fun x (_ : Unit) => x = r) (fun _ t => CEnd g w' (va_A w sz) t) (va_A w sz)) rm.cells rm.slots (va_A w sz)
def Cr (g : JG) (y : MethodName) (ts : List Cond) (rm : Room) (As : List Value) (w : va_W) (w' : Nat → va_W) : Prop := ∀ sz : Nat, Met g.1 y ts rm (CPre g As w sz) (va_Qr (fun _ : Unit => True) (fun _ a t => CEnd g (w' a) (va_A w sz) t) (va_A w sz)) rm.cells rm.slots (va_A w sz)
def JQv (X : JC) (w' : va_W) (mc ms : Nat) : State → Prop := match X with
  | (_, l, _, _, s, _, args, below, _, _, D, A, cB, cI, cJ) => MQ below (va_Qv (fun _ : Unit => True) (fun _ t => CEnd (l, D, cB, cI, cJ) w' A t) A) args s mc ms A
def JQi (X : JC) (w' : va_W) (r : Int32) (mc ms : Nat) : State → Prop := match X with
  | (_, l, _, _, s, _, args, below, _, _, D, A, cB, cI, cJ) => MQ below (va_Qi (fun x (_ : Unit) => x = r) (fun _ t => CEnd (l, D, cB, cI, cJ) w' A t) A) args s mc ms A
def JQl (X : JC) (w' : va_W) (r : Int64) (mc ms : Nat) : State → Prop := match X with
  | (_, l, _, _, s, _, args, below, _, _, D, A, cB, cI, cJ) => MQ below (va_Ql (fun x (_ : Unit) => x = r) (fun _ t => CEnd (l, D, cB, cI, cJ) w' A t) A) args s mc ms A
def JQr (X : JC) (w' : Nat → va_W) (mc ms : Nat) : State → Prop := match X with
  | (_, l, _, _, s, _, args, below, _, _, D, A, cB, cI, cJ) => MQ below (va_Qr (fun _ : Unit => True) (fun _ a t => CEnd (l, D, cB, cI, cJ) (w' a) A t) A) args s mc ms A
section CR
variable {X : JC} {g : JG} {cc : ByteArray} {nL : Nat} {own : String} {Ts ts : List Cond} {R0 rm : Room} {ret : Option FieldType} {Q : State → Prop} {ws w w' : va_W} {cells slots pc mc ms : Nat} {lv : List (Nat × Value)} {st : List Value} {y : MethodName} {As : List Value}
theorem J_vret (O : Jo X g cc nL own Ts R0 none) (d : decode cc pc = .ok (.return_, 1)) : J X nL (JQv X ws cells slots) ws cells slots pc lv [] := by
  obtain ⟨p, l, e, R, s, m, args, below, meth, c, D, A, cB, cI, cJ⟩ := X
  obtain ⟨hx, hb, hml, hown, hts, hA, hK, hlk, hrt, hR, hg⟩ := O; subst hg
  intro H locs ls hP hD hS hl
  exact W.vret hx hb hrt (fun t ht hW => ⟨⟨(), rfl, trivial, by rw [ht]; exact hP, va_K.moved hW.alike hK, hD⟩, hS.F ht⟩) hS.2.2 d hlk
theorem J_iret (O : Jo X g cc nL own Ts R0 (some .int)) {v r : Int32} (hv : v = r) (d : decode cc pc = .ok (.ireturn, 1)) : J X nL (JQi X ws r cells slots) ws cells slots pc lv [.int v] := by
  obtain ⟨p, l, e, R, s, m, args, below, meth, c, D, A, cB, cI, cJ⟩ := X
  obtain ⟨hx, hb, hml, hown, hts, hA, hK, hlk, hrt, hR, hg⟩ := O; subst hg
  intro H locs ls hP hD hS hl
  exact W.iret hx hb hrt (fun t ht hW => ⟨⟨v, (), rfl, hv, by rw [ht]; exact hP, va_K.moved hW.alike hK, hD⟩, hS.F ht⟩) hS.2.2 d hlk
theorem bI_nar (b : Bool) : narrow .boolean (.int (bI b)) = .int (bI b) := by cases b <;> rfl
theorem J_zret (O : Jo X g cc nL own Ts R0 (some .boolean)) {v : Int32} {r : Bool} (hv : v = bI r) (d : decode cc pc = .ok (.ireturn, 1)) : J X nL (JQi X ws (bI r) cells slots) ws cells slots pc lv [.int v] := by
  obtain ⟨p, l, e, R, s, m, args, below, meth, c, D, A, cB, cI, cJ⟩ := X
  obtain ⟨hx, hb, hml, hown, hts, hA, hK, hlk, hrt, hR, hg⟩ := O; subst hg
  intro H locs ls hP hD hS hl
  subst hv
  exact W.zret hx hb hrt (bI_nar r) (fun t ht hW => ⟨⟨bI r, (), rfl, rfl, by rw [ht]; exact hP, va_K.moved hW.alike hK, hD⟩, hS.F ht⟩) hS.2.2 d hlk
theorem J_lret (O : Jo X g cc nL own Ts R0 (some .long)) {v r : Int64} (hv : v = r) (d : decode cc pc = .ok (.lreturn, 1)) : J X nL (JQl X ws r cells slots) ws cells slots pc lv [.long v] := by
  obtain ⟨p, l, e, R, s, m, args, below, meth, c, D, A, cB, cI, cJ⟩ := X
  obtain ⟨hx, hb, hml, hown, hts, hA, hK, hlk, hrt, hR, hg⟩ := O; subst hg
  intro H locs ls hP hD hS hl
  exact W.lret hx hb hrt (fun t ht hW => ⟨⟨v, (), rfl, hv, by rw [ht]; exact hP, va_K.moved hW.alike hK, hD⟩, hS.F ht⟩) hS.2.2 d hlk
theorem J_aret {nm : String} (O : Jo X g cc nL own Ts R0 (some (.object nm))) {a : Nat} (W' : Nat → va_W) (hw : ws = W' a) (d : decode cc pc = .ok (.areturn, 1)) : J X nL (JQr X W' cells slots) ws cells slots pc lv [.ref a] := by
  obtain ⟨p, l, e, R, s, m, args, below, meth, c, D, A, cB, cI, cJ⟩ := X
  obtain ⟨hx, hb, hml, hown, hts, hA, hK, hlk, hrt, hR, hg⟩ := O; subst hg
  subst hw
  intro H locs ls hP hD hS hl
  exact W.aret hx hb hrt (Or.inl ⟨nm, rfl⟩) (Or.inr ⟨a, rfl⟩) (fun t ht hW => ⟨⟨(), a, rfl, trivial, by rw [ht]; exact hP, va_K.moved hW.alike hK, hD⟩, hS.F ht⟩) hS.2.2 d hlk
theorem Cv_of {ts' : List Cond} (hy : plainName y.cls = true) (ho : y.cls = own) (hw : ts = Cond.code y cc nL ret :: ts') (hn : (lg_sl As).length ≤ nL) (h : ∀ X : JC, Jo X g cc nL own ts rm ret → (y.name = "<init>" → Jnm X) → J X nL (JQv X w' rm.cells rm.slots) w 0 0 0 (lv_args 0 As) []) : Cv g y ts rm As w w'  := by
  obtain ⟨l, D, cB, cI, cJ⟩ := g
  intro sz
  refine Met.ofW (cc := cc) (maxL := nL) (ret := ret) hy hw ?_
  intro p e s m args below meth c s₁ B hml hv
  obtain ⟨rfl, hsz, hP, hK, hD0⟩ := hv
  subst hsz
  have hts := atoms_spec (ws := ts) B.pre
  have hown : s.vm.findClass y.cls = some m.cls := findClass_of_methodNamed B.named
  rw [ho] at hown
  have hD := hD0.self (sz := s.heap.size)
  have h1 := h (p, l, e, rm, s, m, As.toArray, below, meth, c, D, va_A w s.heap.size, cB, cI, cJ) ⟨B.exec, B.bytes, hml, hown, hts, fun q h => Or.inr h, hK, B.notSynchronized, B.returns, rfl, rfl⟩ (fun h9 => (name_of_methodNamed B.named B.method).1.trans h9)
  have hl := lv_entry As (n := nL) hn
  rw [lg_entry_eq]
  exact h1 s.heap [] _ hP hD va_S.rf hl
theorem Ci_of {r : Int32} {ts' : List Cond} (hy : plainName y.cls = true) (ho : y.cls = own) (hw : ts = Cond.code y cc nL ret :: ts') (hn : (lg_sl As).length ≤ nL) (h : ∀ X : JC, Jo X g cc nL own ts rm ret → (y.name = "<init>" → Jnm X) → J X nL (JQi X w' r rm.cells rm.slots) w 0 0 0 (lv_args 0 As) []) : Ci g y ts rm As w w' r := by
  obtain ⟨l, D, cB, cI, cJ⟩ := g
  intro sz
  refine Met.ofW (cc := cc) (maxL := nL) (ret := ret) hy hw ?_
  intro p e s m args below meth c s₁ B hml hv
  obtain ⟨rfl, hsz, hP, hK, hD0⟩ := hv
  subst hsz
  have hts := atoms_spec (ws := ts) B.pre
  have hown : s.vm.findClass y.cls = some m.cls := findClass_of_methodNamed B.named
  rw [ho] at hown
  have hD := hD0.self (sz := s.heap.size)
  have h1 := h (p, l, e, rm, s, m, As.toArray, below, meth, c, D, va_A w s.heap.size, cB, cI, cJ) ⟨B.exec, B.bytes, hml, hown, hts, fun q h => Or.inr h, hK, B.notSynchronized, B.returns, rfl, rfl⟩ (fun h9 => (name_of_methodNamed B.named B.method).1.trans h9)
  have hl := lv_entry As (n := nL) hn
  rw [lg_entry_eq]
  exact h1 s.heap [] _ hP hD va_S.rf hl
theorem Cl_of {r : Int64} {ts' : List Cond} (hy : plainName y.cls = true) (ho : y.cls = own) (hw : ts = Cond.code y cc nL ret :: ts') (hn : (lg_sl As).length ≤ nL) (h : ∀ X : JC, Jo X g cc nL own ts rm ret → (y.name = "<init>" → Jnm X) → J X nL (JQl X w' r rm.cells rm.slots) w 0 0 0 (lv_args 0 As) []) : Cl g y ts rm As w w' r := by
  obtain ⟨l, D, cB, cI, cJ⟩ := g
  intro sz
  refine Met.ofW (cc := cc) (maxL := nL) (ret := ret) hy hw ?_
  intro p e s m args below meth c s₁ B hml hv
  obtain ⟨rfl, hsz, hP, hK, hD0⟩ := hv
  subst hsz
  have hts := atoms_spec (ws := ts) B.pre
  have hown : s.vm.findClass y.cls = some m.cls := findClass_of_methodNamed B.named
  rw [ho] at hown
  have hD := hD0.self (sz := s.heap.size)
  have h1 := h (p, l, e, rm, s, m, As.toArray, below, meth, c, D, va_A w s.heap.size, cB, cI, cJ) ⟨B.exec, B.bytes, hml, hown, hts, fun q h => Or.inr h, hK, B.notSynchronized, B.returns, rfl, rfl⟩ (fun h9 => (name_of_methodNamed B.named B.method).1.trans h9)
  have hl := lv_entry As (n := nL) hn
  rw [lg_entry_eq]
  exact h1 s.heap [] _ hP hD va_S.rf hl
theorem Cr_of {W' : Nat → va_W} {ts' : List Cond} (hy : plainName y.cls = true) (ho : y.cls = own) (hw : ts = Cond.code y cc nL ret :: ts') (hn : (lg_sl As).length ≤ nL) (h : ∀ X : JC, Jo X g cc nL own ts rm ret → (y.name = "<init>" → Jnm X) → J X nL (JQr X W' rm.cells rm.slots) w 0 0 0 (lv_args 0 As) []) : Cr g y ts rm As w W'  := by
  obtain ⟨l, D, cB, cI, cJ⟩ := g
  intro sz
  refine Met.ofW (cc := cc) (maxL := nL) (ret := ret) hy hw ?_
  intro p e s m args below meth c s₁ B hml hv
  obtain ⟨rfl, hsz, hP, hK, hD0⟩ := hv
  subst hsz
  have hts := atoms_spec (ws := ts) B.pre
  have hown : s.vm.findClass y.cls = some m.cls := findClass_of_methodNamed B.named
  rw [ho] at hown
  have hD := hD0.self (sz := s.heap.size)
  have h1 := h (p, l, e, rm, s, m, As.toArray, below, meth, c, D, va_A w s.heap.size, cB, cI, cJ) ⟨B.exec, B.bytes, hml, hown, hts, fun q h => Or.inr h, hK, B.notSynchronized, B.returns, rfl, rfl⟩ (fun h9 => (name_of_methodNamed B.named B.method).1.trans h9)
  have hl := lv_entry As (n := nL) hn
  rw [lg_entry_eq]
  exact h1 s.heap [] _ hP hD va_S.rf hl
theorem J_callVv (O : Jo X g cc nL own Ts R0 ret) {bytes : ByteArray} {maxL idx : Nat} {ret' : Option FieldType} {ts' : List Cond} {b ci : Nat} {C : String} {F : u_T} {N n : Nat} (hM : Cv g y ts rm (.ref b :: As) w w' ) (hc : ts = Cond.code y bytes maxL ret' :: ts') (q0 : Nat) {fs : List Value} (hr : w[q0]? = some (b, .inr (ci, fs))) (hci : vwCl[ci]? = some (C, F, N)) (hG : GoodIn Ts (wsV own idx C y ts)) (hd : y.cls = C ∧ y.cls ≠ "java/lang/invoke/MethodHandle" ∧ y.cls ≠ "java/lang/invoke/VarHandle" ∧ (parseMethodDescriptor y.desc).map (fun d => d.parameters.length) = some n) (hRm : rm.frames + 1 ≤ R0.frames ∧ 8 + (maxL + 11) + rm.locals ≤ R0.locals) (hAn : As.length = n) {st0 : List Value} (hst : st0 = As.reverse ++ .ref b :: st) (hcat : (st.map fun v => v.category).sum ≤ 8) (isC isR : List Nat) (hC1 : isC.filterMap (fun i => ws[i]?) = w) (hC2 : isC.map (fun i => ws[i]?) = w.map some) (hCn : va_nd isC = true) (hR2 : isR.map (fun i => ws[i]?) = (isR.filterMap (fun i => ws[i]?)).map some) (hRn : va_nd isR = true) (hdis : ∀ i ∈ isR, i ∉ isC) (wz : va_W) (is2 : List Nat) (hn2 : va_nd is2 = true) (h2 : is2.filterMap (fun i => ((isR.filterMap (fun i => ws[i]?)) ++ w')[i]?) = wz) (h3 : is2.map (fun i => ((isR.filterMap (fun i => ws[i]?)) ++ w')[i]?) = wz.map some) (c' s' : Nat) (hc1 : cells + rm.cells ≤ c') (hs1 : slots + rm.slots ≤ s') (hcs : c' ≤ R0.cells ∧ s' ≤ R0.slots) (d : decode cc pc = .ok (.invokevirtual idx, 3)) (k : J X nL Q wz c' s' (pc + 3) lv (st)) : J X nL Q ws cells slots pc lv st0 := by
  obtain ⟨p, l, e, R, s, m, args, below, meth, c, D, A, cB, cI, cJ⟩ := X
  obtain ⟨hx, hb, hml, hown, hts, hA, hK, hlk, hrt, hR, hg⟩ := O; subst hg; subst hR
  subst hst
  intro H locs ls hP hD hS hl
  have hPc : va_P D vwCl w H := hP.sub isC hC1
  have hDc : va_D A w := hD.sub isC hCn hC2
  have hFc := va_free (wc := w) hD hS hA isC hC2
  have bl : FrameBlind (CPre (l, D, cB, cI, cJ) (.ref b :: As) w H.size) := fun a U g mk q => by
    obtain ⟨q0, q1, qP, qK, qD⟩ := q
    exact ⟨q0, q1, qP, va_K.moved (u := U) (U := U.calling g mk a) (Vm.Alike.refl U.vm) qK, qD⟩
  have pr : ∀ U : State, U.heap = H → s.WarmedH U.vm → CPre (l, D, cB, cI, cJ) (.ref b :: As) w H.size (.ref b :: As).toArray U := fun U hU hW => ⟨rfl, by rw [hU], by rw [hU]; exact hPc, va_K.moved hW.alike hK, hDc.weaken (fun _ _ _ _ => trivial)⟩
  refine va_callv (va_runV (As := As) (rest := st) ⟨hx, hb, hml, hown, hts⟩ (hM H.size) (cwV n hts hG hc rfl rfl hd hRm) ⟨bl, va_recv hK hPc hci hr, pr⟩ rfl hAn hl.1 rfl (lv_room hcat) d ⟨Nat.le_trans hc1 hcs.1, Nat.le_trans hs1 hcs.2⟩) hS (fun q _ h => hFc q h) hFc (fun u t H1 locs1 ht hvm hw hB hz1 hk1 hS1 => ?_)
  obtain ⟨hP1, hK1, hD1⟩ := hB
  rw [ht] at hP1
  obtain ⟨hP2, hD2⟩ := va_join hP hD isC isR hC2 hR2 hRn hdis hk1 hFc hP1 hD1
  exact W.widen hc1 hs1 (k H1 locs1 ls (hP2.sub is2 (h2)) (hD2.sub is2 hn2 (h3)) hS1 hl)
theorem J_callSv (O : Jo X g cc nL own Ts R0 ret) {bytes : ByteArray} {maxL idx : Nat} {ret' : Option FieldType} {ts' : List Cond} {n : Nat} (hM : Cv g y ts rm As w w' ) (hc : ts = Cond.code y bytes maxL ret' :: ts') (hG : GoodIn Ts (va_wsS own idx y ts)) (hd : y.cls ≠ "java/lang/invoke/MethodHandle" ∧ y.cls ≠ "java/lang/invoke/VarHandle" ∧ (parseMethodDescriptor y.desc).map (fun d => d.parameters.length) = some n) (hRm : rm.frames + 1 ≤ R0.frames ∧ 8 + (maxL + 11) + rm.locals ≤ R0.locals) (hAn : As.length = n) {st0 : List Value} (hst : st0 = As.reverse ++ st) (hcat : (st.map fun v => v.category).sum ≤ 8) (isC isR : List Nat) (hC1 : isC.filterMap (fun i => ws[i]?) = w) (hC2 : isC.map (fun i => ws[i]?) = w.map some) (hCn : va_nd isC = true) (hR2 : isR.map (fun i => ws[i]?) = (isR.filterMap (fun i => ws[i]?)).map some) (hRn : va_nd isR = true) (hdis : ∀ i ∈ isR, i ∉ isC) (wz : va_W) (is2 : List Nat) (hn2 : va_nd is2 = true) (h2 : is2.filterMap (fun i => ((isR.filterMap (fun i => ws[i]?)) ++ w')[i]?) = wz) (h3 : is2.map (fun i => ((isR.filterMap (fun i => ws[i]?)) ++ w')[i]?) = wz.map some) (c' s' : Nat) (hc1 : cells + rm.cells ≤ c') (hs1 : slots + rm.slots ≤ s') (hcs : c' ≤ R0.cells ∧ s' ≤ R0.slots) (d : decode cc pc = .ok (.invokestatic idx, 3)) (k : J X nL Q wz c' s' (pc + 3) lv (st)) : J X nL Q ws cells slots pc lv st0 := by
  obtain ⟨p, l, e, R, s, m, args, below, meth, c, D, A, cB, cI, cJ⟩ := X
  obtain ⟨hx, hb, hml, hown, hts, hA, hK, hlk, hrt, hR, hg⟩ := O; subst hg; subst hR
  subst hst
  intro H locs ls hP hD hS hl
  have hPc : va_P D vwCl w H := hP.sub isC hC1
  have hDc : va_D A w := hD.sub isC hCn hC2
  have hFc := va_free (wc := w) hD hS hA isC hC2
  have bl : FrameBlind (CPre (l, D, cB, cI, cJ) As w H.size) := fun a U g mk q => by
    obtain ⟨q0, q1, qP, qK, qD⟩ := q
    exact ⟨q0, q1, qP, va_K.moved (u := U) (U := U.calling g mk a) (Vm.Alike.refl U.vm) qK, qD⟩
  have pr : ∀ U : State, U.heap = H → s.WarmedH U.vm → CPre (l, D, cB, cI, cJ) As w H.size As.toArray U := fun U hU hW => ⟨rfl, by rw [hU], by rw [hU]; exact hPc, va_K.moved hW.alike hK, hDc.weaken (fun _ _ _ _ => trivial)⟩
  refine va_callv (va_runS (As := As) (rest := st) ⟨hx, hb, hml, hown, hts⟩ (hM H.size) (va_cwS n hts hG hc rfl rfl hd hRm) ⟨bl, pr⟩ rfl hAn hl.1 rfl (lv_room hcat) d ⟨Nat.le_trans hc1 hcs.1, Nat.le_trans hs1 hcs.2⟩) hS (fun q _ h => hFc q h) hFc (fun u t H1 locs1 ht hvm hw hB hz1 hk1 hS1 => ?_)
  obtain ⟨hP1, hK1, hD1⟩ := hB
  rw [ht] at hP1
  obtain ⟨hP2, hD2⟩ := va_join hP hD isC isR hC2 hR2 hRn hdis hk1 hFc hP1 hD1
  exact W.widen hc1 hs1 (k H1 locs1 ls (hP2.sub is2 (h2)) (hD2.sub is2 hn2 (h3)) hS1 hl)
theorem J_callIv (O : Jo X g cc nL own Ts R0 ret) {bytes : ByteArray} {maxL idx : Nat} {ret' : Option FieldType} {ts' : List Cond} {b n : Nat} (hM : Cv g y ts rm (.ref b :: As) w w' ) (hc : ts = Cond.code y bytes maxL none :: ts') (hG : GoodIn Ts ts) (hm1 : Cond.initialized y.cls ∈ Ts) (hm2 : Cond.methodLink own idx y ∈ Ts) (hm3 : Cond.instanceMethod y ∈ Ts) (hyn : y.name = "<init>") (hd : y.cls ≠ "java/lang/invoke/MethodHandle" ∧ y.cls ≠ "java/lang/invoke/VarHandle" ∧ (parseMethodDescriptor y.desc).map (fun d => d.parameters.length) = some n) (hRm : rm.frames + 1 ≤ R0.frames ∧ 8 + (maxL + 11) + rm.locals ≤ R0.locals) (hAn : As.length = n) {st0 : List Value} (hst : st0 = As.reverse ++ .ref b :: st) (hcat : (st.map fun v => v.category).sum ≤ 8) (isC isR : List Nat) (hC1 : isC.filterMap (fun i => ws[i]?) = w) (hC2 : isC.map (fun i => ws[i]?) = w.map some) (hCn : va_nd isC = true) (hR2 : isR.map (fun i => ws[i]?) = (isR.filterMap (fun i => ws[i]?)).map some) (hRn : va_nd isR = true) (hdis : ∀ i ∈ isR, i ∉ isC) (wz : va_W) (is2 : List Nat) (hn2 : va_nd is2 = true) (h2 : is2.filterMap (fun i => ((isR.filterMap (fun i => ws[i]?)) ++ w')[i]?) = wz) (h3 : is2.map (fun i => ((isR.filterMap (fun i => ws[i]?)) ++ w')[i]?) = wz.map some) (c' s' : Nat) (hc1 : cells + rm.cells ≤ c') (hs1 : slots + rm.slots ≤ s') (hcs : c' ≤ R0.cells ∧ s' ≤ R0.slots) (d : decode cc pc = .ok (.invokespecial idx, 3)) (k : J X nL Q wz c' s' (pc + 3) lv (st)) : J X nL Q ws cells slots pc lv st0 := by
  obtain ⟨p, l, e, R, s, m, args, below, meth, c, D, A, cB, cI, cJ⟩ := X
  obtain ⟨hx, hb, hml, hown, hts, hA, hK, hlk, hrt, hR, hg⟩ := O; subst hg; subst hR
  subst hst
  intro H locs ls hP hD hS hl
  have hPc : va_P D vwCl w H := hP.sub isC hC1
  have hDc : va_D A w := hD.sub isC hCn hC2
  have hFc := va_free (wc := w) hD hS hA isC hC2
  have bl : FrameBlind (CPre (l, D, cB, cI, cJ) (.ref b :: As) w H.size) := fun a U g mk q => by
    obtain ⟨q0, q1, qP, qK, qD⟩ := q
    exact ⟨q0, q1, qP, va_K.moved (u := U) (U := U.calling g mk a) (Vm.Alike.refl U.vm) qK, qD⟩
  have pr : ∀ U : State, U.heap = H → s.WarmedH U.vm → CPre (l, D, cB, cI, cJ) (.ref b :: As) w H.size (.ref b :: As).toArray U := fun U hU hW => ⟨rfl, by rw [hU], by rw [hU]; exact hPc, va_K.moved hW.alike hK, hDc.weaken (fun _ _ _ _ => trivial)⟩
  refine va_callv (va_runI (As := As) (rest := st) ⟨hx, hb, hml, hown, hts⟩ (hM H.size) (cwI n hts hG hc rfl rfl (hts _ hm1) (hts _ hm2) (hts _ hm3) hyn hd hRm) ⟨bl, pr⟩ rfl hAn hl.1 rfl (lv_room hcat) d ⟨Nat.le_trans hc1 hcs.1, Nat.le_trans hs1 hcs.2⟩) hS (fun q _ h => hFc q h) hFc (fun u t H1 locs1 ht hvm hw hB hz1 hk1 hS1 => ?_)
  obtain ⟨hP1, hK1, hD1⟩ := hB
  rw [ht] at hP1
  obtain ⟨hP2, hD2⟩ := va_join hP hD isC isR hC2 hR2 hRn hdis hk1 hFc hP1 hD1
  exact W.widen hc1 hs1 (k H1 locs1 ls (hP2.sub is2 (h2)) (hD2.sub is2 hn2 (h3)) hS1 hl)
theorem J_callVi (O : Jo X g cc nL own Ts R0 ret) {bytes : ByteArray} {maxL idx : Nat} {ret' : Option FieldType} {ts' : List Cond} {r : Int32} {b ci : Nat} {C : String} {F : u_T} {N n : Nat} (hM : Ci g y ts rm (.ref b :: As) w w' r) (hc : ts = Cond.code y bytes maxL ret' :: ts') (q0 : Nat) {fs : List Value} (hr : w[q0]? = some (b, .inr (ci, fs))) (hci : vwCl[ci]? = some (C, F, N)) (hG : GoodIn Ts (wsV own idx C y ts)) (hd : y.cls = C ∧ y.cls ≠ "java/lang/invoke/MethodHandle" ∧ y.cls ≠ "java/lang/invoke/VarHandle" ∧ (parseMethodDescriptor y.desc).map (fun d => d.parameters.length) = some n) (hRm : rm.frames + 1 ≤ R0.frames ∧ 8 + (maxL + 11) + rm.locals ≤ R0.locals) (hAn : As.length = n) {st0 : List Value} (hst : st0 = As.reverse ++ .ref b :: st) (hcat : (st.map fun v => v.category).sum ≤ 8) (isC isR : List Nat) (hC1 : isC.filterMap (fun i => ws[i]?) = w) (hC2 : isC.map (fun i => ws[i]?) = w.map some) (hCn : va_nd isC = true) (hR2 : isR.map (fun i => ws[i]?) = (isR.filterMap (fun i => ws[i]?)).map some) (hRn : va_nd isR = true) (hdis : ∀ i ∈ isR, i ∉ isC) (wz : va_W) (is2 : List Nat) (hn2 : va_nd is2 = true) (h2 : is2.filterMap (fun i => ((isR.filterMap (fun i => ws[i]?)) ++ w')[i]?) = wz) (h3 : is2.map (fun i => ((isR.filterMap (fun i => ws[i]?)) ++ w')[i]?) = wz.map some) (c' s' : Nat) (hc1 : cells + rm.cells ≤ c') (hs1 : slots + rm.slots ≤ s') (hcs : c' ≤ R0.cells ∧ s' ≤ R0.slots) (d : decode cc pc = .ok (.invokevirtual idx, 3)) (k : J X nL Q wz c' s' (pc + 3) lv (.int r :: st)) : J X nL Q ws cells slots pc lv st0 := by
  obtain ⟨p, l, e, R, s, m, args, below, meth, c, D, A, cB, cI, cJ⟩ := X
  obtain ⟨hx, hb, hml, hown, hts, hA, hK, hlk, hrt, hR, hg⟩ := O; subst hg; subst hR
  subst hst
  intro H locs ls hP hD hS hl
  have hPc : va_P D vwCl w H := hP.sub isC hC1
  have hDc : va_D A w := hD.sub isC hCn hC2
  have hFc := va_free (wc := w) hD hS hA isC hC2
  have bl : FrameBlind (CPre (l, D, cB, cI, cJ) (.ref b :: As) w H.size) := fun a U g mk q => by
    obtain ⟨q0, q1, qP, qK, qD⟩ := q
    exact ⟨q0, q1, qP, va_K.moved (u := U) (U := U.calling g mk a) (Vm.Alike.refl U.vm) qK, qD⟩
  have pr : ∀ U : State, U.heap = H → s.WarmedH U.vm → CPre (l, D, cB, cI, cJ) (.ref b :: As) w H.size (.ref b :: As).toArray U := fun U hU hW => ⟨rfl, by rw [hU], by rw [hU]; exact hPc, va_K.moved hW.alike hK, hDc.weaken (fun _ _ _ _ => trivial)⟩
  refine va_calli (va_runV (As := As) (rest := st) ⟨hx, hb, hml, hown, hts⟩ (hM H.size) (cwV n hts hG hc rfl rfl hd hRm) ⟨bl, va_recv hK hPc hci hr, pr⟩ rfl hAn hl.1 rfl (lv_room hcat) d ⟨Nat.le_trans hc1 hcs.1, Nat.le_trans hs1 hcs.2⟩) hS (fun q _ h => hFc q h) hFc (fun r1 u t H1 locs1 ht hvm hw hB hz1 hk1 hS1 => ?_)
  obtain ⟨hP1, hK1, hD1⟩ := hB
  subst hw
  rw [ht] at hP1
  obtain ⟨hP2, hD2⟩ := va_join hP hD isC isR hC2 hR2 hRn hdis hk1 hFc hP1 hD1
  exact W.widen hc1 hs1 (k H1 locs1 ls (hP2.sub is2 (h2)) (hD2.sub is2 hn2 (h3)) hS1 hl)
theorem J_callSi (O : Jo X g cc nL own Ts R0 ret) {bytes : ByteArray} {maxL idx : Nat} {ret' : Option FieldType} {ts' : List Cond} {r : Int32} {n : Nat} (hM : Ci g y ts rm As w w' r) (hc : ts = Cond.code y bytes maxL ret' :: ts') (hG : GoodIn Ts (va_wsS own idx y ts)) (hd : y.cls ≠ "java/lang/invoke/MethodHandle" ∧ y.cls ≠ "java/lang/invoke/VarHandle" ∧ (parseMethodDescriptor y.desc).map (fun d => d.parameters.length) = some n) (hRm : rm.frames + 1 ≤ R0.frames ∧ 8 + (maxL + 11) + rm.locals ≤ R0.locals) (hAn : As.length = n) {st0 : List Value} (hst : st0 = As.reverse ++ st) (hcat : (st.map fun v => v.category).sum ≤ 8) (isC isR : List Nat) (hC1 : isC.filterMap (fun i => ws[i]?) = w) (hC2 : isC.map (fun i => ws[i]?) = w.map some) (hCn : va_nd isC = true) (hR2 : isR.map (fun i => ws[i]?) = (isR.filterMap (fun i => ws[i]?)).map some) (hRn : va_nd isR = true) (hdis : ∀ i ∈ isR, i ∉ isC) (wz : va_W) (is2 : List Nat) (hn2 : va_nd is2 = true) (h2 : is2.filterMap (fun i => ((isR.filterMap (fun i => ws[i]?)) ++ w')[i]?) = wz) (h3 : is2.map (fun i => ((isR.filterMap (fun i => ws[i]?)) ++ w')[i]?) = wz.map some) (c' s' : Nat) (hc1 : cells + rm.cells ≤ c') (hs1 : slots + rm.slots ≤ s') (hcs : c' ≤ R0.cells ∧ s' ≤ R0.slots) (d : decode cc pc = .ok (.invokestatic idx, 3)) (k : J X nL Q wz c' s' (pc + 3) lv (.int r :: st)) : J X nL Q ws cells slots pc lv st0 := by
  obtain ⟨p, l, e, R, s, m, args, below, meth, c, D, A, cB, cI, cJ⟩ := X
  obtain ⟨hx, hb, hml, hown, hts, hA, hK, hlk, hrt, hR, hg⟩ := O; subst hg; subst hR
  subst hst
  intro H locs ls hP hD hS hl
  have hPc : va_P D vwCl w H := hP.sub isC hC1
  have hDc : va_D A w := hD.sub isC hCn hC2
  have hFc := va_free (wc := w) hD hS hA isC hC2
  have bl : FrameBlind (CPre (l, D, cB, cI, cJ) As w H.size) := fun a U g mk q => by
    obtain ⟨q0, q1, qP, qK, qD⟩ := q
    exact ⟨q0, q1, qP, va_K.moved (u := U) (U := U.calling g mk a) (Vm.Alike.refl U.vm) qK, qD⟩
  have pr : ∀ U : State, U.heap = H → s.WarmedH U.vm → CPre (l, D, cB, cI, cJ) As w H.size As.toArray U := fun U hU hW => ⟨rfl, by rw [hU], by rw [hU]; exact hPc, va_K.moved hW.alike hK, hDc.weaken (fun _ _ _ _ => trivial)⟩
  refine va_calli (va_runS (As := As) (rest := st) ⟨hx, hb, hml, hown, hts⟩ (hM H.size) (va_cwS n hts hG hc rfl rfl hd hRm) ⟨bl, pr⟩ rfl hAn hl.1 rfl (lv_room hcat) d ⟨Nat.le_trans hc1 hcs.1, Nat.le_trans hs1 hcs.2⟩) hS (fun q _ h => hFc q h) hFc (fun r1 u t H1 locs1 ht hvm hw hB hz1 hk1 hS1 => ?_)
  obtain ⟨hP1, hK1, hD1⟩ := hB
  subst hw
  rw [ht] at hP1
  obtain ⟨hP2, hD2⟩ := va_join hP hD isC isR hC2 hR2 hRn hdis hk1 hFc hP1 hD1
  exact W.widen hc1 hs1 (k H1 locs1 ls (hP2.sub is2 (h2)) (hD2.sub is2 hn2 (h3)) hS1 hl)
theorem J_callVl (O : Jo X g cc nL own Ts R0 ret) {bytes : ByteArray} {maxL idx : Nat} {ret' : Option FieldType} {ts' : List Cond} {r : Int64} {b ci : Nat} {C : String} {F : u_T} {N n : Nat} (hM : Cl g y ts rm (.ref b :: As) w w' r) (hc : ts = Cond.code y bytes maxL ret' :: ts') (q0 : Nat) {fs : List Value} (hr : w[q0]? = some (b, .inr (ci, fs))) (hci : vwCl[ci]? = some (C, F, N)) (hG : GoodIn Ts (wsV own idx C y ts)) (hd : y.cls = C ∧ y.cls ≠ "java/lang/invoke/MethodHandle" ∧ y.cls ≠ "java/lang/invoke/VarHandle" ∧ (parseMethodDescriptor y.desc).map (fun d => d.parameters.length) = some n) (hRm : rm.frames + 1 ≤ R0.frames ∧ 8 + (maxL + 11) + rm.locals ≤ R0.locals) (hAn : As.length = n) {st0 : List Value} (hst : st0 = As.reverse ++ .ref b :: st) (hcat : (st.map fun v => v.category).sum ≤ 8) (isC isR : List Nat) (hC1 : isC.filterMap (fun i => ws[i]?) = w) (hC2 : isC.map (fun i => ws[i]?) = w.map some) (hCn : va_nd isC = true) (hR2 : isR.map (fun i => ws[i]?) = (isR.filterMap (fun i => ws[i]?)).map some) (hRn : va_nd isR = true) (hdis : ∀ i ∈ isR, i ∉ isC) (wz : va_W) (is2 : List Nat) (hn2 : va_nd is2 = true) (h2 : is2.filterMap (fun i => ((isR.filterMap (fun i => ws[i]?)) ++ w')[i]?) = wz) (h3 : is2.map (fun i => ((isR.filterMap (fun i => ws[i]?)) ++ w')[i]?) = wz.map some) (c' s' : Nat) (hc1 : cells + rm.cells ≤ c') (hs1 : slots + rm.slots ≤ s') (hcs : c' ≤ R0.cells ∧ s' ≤ R0.slots) (d : decode cc pc = .ok (.invokevirtual idx, 3)) (k : J X nL Q wz c' s' (pc + 3) lv (.long r :: st)) : J X nL Q ws cells slots pc lv st0 := by
  obtain ⟨p, l, e, R, s, m, args, below, meth, c, D, A, cB, cI, cJ⟩ := X
  obtain ⟨hx, hb, hml, hown, hts, hA, hK, hlk, hrt, hR, hg⟩ := O; subst hg; subst hR
  subst hst
  intro H locs ls hP hD hS hl
  have hPc : va_P D vwCl w H := hP.sub isC hC1
  have hDc : va_D A w := hD.sub isC hCn hC2
  have hFc := va_free (wc := w) hD hS hA isC hC2
  have bl : FrameBlind (CPre (l, D, cB, cI, cJ) (.ref b :: As) w H.size) := fun a U g mk q => by
    obtain ⟨q0, q1, qP, qK, qD⟩ := q
    exact ⟨q0, q1, qP, va_K.moved (u := U) (U := U.calling g mk a) (Vm.Alike.refl U.vm) qK, qD⟩
  have pr : ∀ U : State, U.heap = H → s.WarmedH U.vm → CPre (l, D, cB, cI, cJ) (.ref b :: As) w H.size (.ref b :: As).toArray U := fun U hU hW => ⟨rfl, by rw [hU], by rw [hU]; exact hPc, va_K.moved hW.alike hK, hDc.weaken (fun _ _ _ _ => trivial)⟩
  refine va_calll (va_runV (As := As) (rest := st) ⟨hx, hb, hml, hown, hts⟩ (hM H.size) (cwV n hts hG hc rfl rfl hd hRm) ⟨bl, va_recv hK hPc hci hr, pr⟩ rfl hAn hl.1 rfl (lv_room hcat) d ⟨Nat.le_trans hc1 hcs.1, Nat.le_trans hs1 hcs.2⟩) hS (fun q _ h => hFc q h) hFc (fun r1 u t H1 locs1 ht hvm hw hB hz1 hk1 hS1 => ?_)
  obtain ⟨hP1, hK1, hD1⟩ := hB
  subst hw
  rw [ht] at hP1
  obtain ⟨hP2, hD2⟩ := va_join hP hD isC isR hC2 hR2 hRn hdis hk1 hFc hP1 hD1
  exact W.widen hc1 hs1 (k H1 locs1 ls (hP2.sub is2 (h2)) (hD2.sub is2 hn2 (h3)) hS1 hl)
theorem J_callSl (O : Jo X g cc nL own Ts R0 ret) {bytes : ByteArray} {maxL idx : Nat} {ret' : Option FieldType} {ts' : List Cond} {r : Int64} {n : Nat} (hM : Cl g y ts rm As w w' r) (hc : ts = Cond.code y bytes maxL ret' :: ts') (hG : GoodIn Ts (va_wsS own idx y ts)) (hd : y.cls ≠ "java/lang/invoke/MethodHandle" ∧ y.cls ≠ "java/lang/invoke/VarHandle" ∧ (parseMethodDescriptor y.desc).map (fun d => d.parameters.length) = some n) (hRm : rm.frames + 1 ≤ R0.frames ∧ 8 + (maxL + 11) + rm.locals ≤ R0.locals) (hAn : As.length = n) {st0 : List Value} (hst : st0 = As.reverse ++ st) (hcat : (st.map fun v => v.category).sum ≤ 8) (isC isR : List Nat) (hC1 : isC.filterMap (fun i => ws[i]?) = w) (hC2 : isC.map (fun i => ws[i]?) = w.map some) (hCn : va_nd isC = true) (hR2 : isR.map (fun i => ws[i]?) = (isR.filterMap (fun i => ws[i]?)).map some) (hRn : va_nd isR = true) (hdis : ∀ i ∈ isR, i ∉ isC) (wz : va_W) (is2 : List Nat) (hn2 : va_nd is2 = true) (h2 : is2.filterMap (fun i => ((isR.filterMap (fun i => ws[i]?)) ++ w')[i]?) = wz) (h3 : is2.map (fun i => ((isR.filterMap (fun i => ws[i]?)) ++ w')[i]?) = wz.map some) (c' s' : Nat) (hc1 : cells + rm.cells ≤ c') (hs1 : slots + rm.slots ≤ s') (hcs : c' ≤ R0.cells ∧ s' ≤ R0.slots) (d : decode cc pc = .ok (.invokestatic idx, 3)) (k : J X nL Q wz c' s' (pc + 3) lv (.long r :: st)) : J X nL Q ws cells slots pc lv st0 := by
  obtain ⟨p, l, e, R, s, m, args, below, meth, c, D, A, cB, cI, cJ⟩ := X
  obtain ⟨hx, hb, hml, hown, hts, hA, hK, hlk, hrt, hR, hg⟩ := O; subst hg; subst hR
  subst hst
  intro H locs ls hP hD hS hl
  have hPc : va_P D vwCl w H := hP.sub isC hC1
  have hDc : va_D A w := hD.sub isC hCn hC2
  have hFc := va_free (wc := w) hD hS hA isC hC2
  have bl : FrameBlind (CPre (l, D, cB, cI, cJ) As w H.size) := fun a U g mk q => by
    obtain ⟨q0, q1, qP, qK, qD⟩ := q
    exact ⟨q0, q1, qP, va_K.moved (u := U) (U := U.calling g mk a) (Vm.Alike.refl U.vm) qK, qD⟩
  have pr : ∀ U : State, U.heap = H → s.WarmedH U.vm → CPre (l, D, cB, cI, cJ) As w H.size As.toArray U := fun U hU hW => ⟨rfl, by rw [hU], by rw [hU]; exact hPc, va_K.moved hW.alike hK, hDc.weaken (fun _ _ _ _ => trivial)⟩
  refine va_calll (va_runS (As := As) (rest := st) ⟨hx, hb, hml, hown, hts⟩ (hM H.size) (va_cwS n hts hG hc rfl rfl hd hRm) ⟨bl, pr⟩ rfl hAn hl.1 rfl (lv_room hcat) d ⟨Nat.le_trans hc1 hcs.1, Nat.le_trans hs1 hcs.2⟩) hS (fun q _ h => hFc q h) hFc (fun r1 u t H1 locs1 ht hvm hw hB hz1 hk1 hS1 => ?_)
  obtain ⟨hP1, hK1, hD1⟩ := hB
  subst hw
  rw [ht] at hP1
  obtain ⟨hP2, hD2⟩ := va_join hP hD isC isR hC2 hR2 hRn hdis hk1 hFc hP1 hD1
  exact W.widen hc1 hs1 (k H1 locs1 ls (hP2.sub is2 (h2)) (hD2.sub is2 hn2 (h3)) hS1 hl)
theorem J_callVr (O : Jo X g cc nL own Ts R0 ret) {bytes : ByteArray} {maxL idx : Nat} {ret' : Option FieldType} {ts' : List Cond} {W' : Nat → va_W} {b ci : Nat} {C : String} {F : u_T} {N n : Nat} (hM : Cr g y ts rm (.ref b :: As) w W' ) (hc : ts = Cond.code y bytes maxL ret' :: ts') (q0 : Nat) {fs : List Value} (hr : w[q0]? = some (b, .inr (ci, fs))) (hci : vwCl[ci]? = some (C, F, N)) (hG : GoodIn Ts (wsV own idx C y ts)) (hd : y.cls = C ∧ y.cls ≠ "java/lang/invoke/MethodHandle" ∧ y.cls ≠ "java/lang/invoke/VarHandle" ∧ (parseMethodDescriptor y.desc).map (fun d => d.parameters.length) = some n) (hRm : rm.frames + 1 ≤ R0.frames ∧ 8 + (maxL + 11) + rm.locals ≤ R0.locals) (hAn : As.length = n) {st0 : List Value} (hst : st0 = As.reverse ++ .ref b :: st) (hcat : (st.map fun v => v.category).sum ≤ 8) (isC isR : List Nat) (hC1 : isC.filterMap (fun i => ws[i]?) = w) (hC2 : isC.map (fun i => ws[i]?) = w.map some) (hCn : va_nd isC = true) (hR2 : isR.map (fun i => ws[i]?) = (isR.filterMap (fun i => ws[i]?)).map some) (hRn : va_nd isR = true) (hdis : ∀ i ∈ isR, i ∉ isC) (wz : Nat → va_W) (is2 : List Nat) (hn2 : va_nd is2 = true) (h2 : ∀ a : Nat, is2.filterMap (fun i => ((isR.filterMap (fun i => ws[i]?)) ++ W' a)[i]?) = wz a) (h3 : ∀ a : Nat, is2.map (fun i => ((isR.filterMap (fun i => ws[i]?)) ++ W' a)[i]?) = (wz a).map some) (c' s' : Nat) (hc1 : cells + rm.cells ≤ c') (hs1 : slots + rm.slots ≤ s') (hcs : c' ≤ R0.cells ∧ s' ≤ R0.slots) (d : decode cc pc = .ok (.invokevirtual idx, 3)) (k : ∀ a : Nat, J X nL Q (wz a) c' s' (pc + 3) lv (.ref a :: st)) : J X nL Q ws cells slots pc lv st0 := by
  obtain ⟨p, l, e, R, s, m, args, below, meth, c, D, A, cB, cI, cJ⟩ := X
  obtain ⟨hx, hb, hml, hown, hts, hA, hK, hlk, hrt, hR, hg⟩ := O; subst hg; subst hR
  subst hst
  intro H locs ls hP hD hS hl
  have hPc : va_P D vwCl w H := hP.sub isC hC1
  have hDc : va_D A w := hD.sub isC hCn hC2
  have hFc := va_free (wc := w) hD hS hA isC hC2
  have bl : FrameBlind (CPre (l, D, cB, cI, cJ) (.ref b :: As) w H.size) := fun a U g mk q => by
    obtain ⟨q0, q1, qP, qK, qD⟩ := q
    exact ⟨q0, q1, qP, va_K.moved (u := U) (U := U.calling g mk a) (Vm.Alike.refl U.vm) qK, qD⟩
  have pr : ∀ U : State, U.heap = H → s.WarmedH U.vm → CPre (l, D, cB, cI, cJ) (.ref b :: As) w H.size (.ref b :: As).toArray U := fun U hU hW => ⟨rfl, by rw [hU], by rw [hU]; exact hPc, va_K.moved hW.alike hK, hDc.weaken (fun _ _ _ _ => trivial)⟩
  refine va_callr (va_runV (As := As) (rest := st) ⟨hx, hb, hml, hown, hts⟩ (hM H.size) (cwV n hts hG hc rfl rfl hd hRm) ⟨bl, va_recv hK hPc hci hr, pr⟩ rfl hAn hl.1 rfl (lv_room hcat) d ⟨Nat.le_trans hc1 hcs.1, Nat.le_trans hs1 hcs.2⟩) hS (fun q _ h => hFc q h) hFc (fun u a t H1 locs1 ht hvm hw hB hz1 hk1 hS1 => ?_)
  obtain ⟨hP1, hK1, hD1⟩ := hB
  rw [ht] at hP1
  obtain ⟨hP2, hD2⟩ := va_join hP hD isC isR hC2 hR2 hRn hdis hk1 hFc hP1 hD1
  exact W.widen hc1 hs1 (k a H1 locs1 ls (hP2.sub is2 (h2 a)) (hD2.sub is2 hn2 (h3 a)) hS1 hl)
theorem J_callSr (O : Jo X g cc nL own Ts R0 ret) {bytes : ByteArray} {maxL idx : Nat} {ret' : Option FieldType} {ts' : List Cond} {W' : Nat → va_W} {n : Nat} (hM : Cr g y ts rm As w W' ) (hc : ts = Cond.code y bytes maxL ret' :: ts') (hG : GoodIn Ts (va_wsS own idx y ts)) (hd : y.cls ≠ "java/lang/invoke/MethodHandle" ∧ y.cls ≠ "java/lang/invoke/VarHandle" ∧ (parseMethodDescriptor y.desc).map (fun d => d.parameters.length) = some n) (hRm : rm.frames + 1 ≤ R0.frames ∧ 8 + (maxL + 11) + rm.locals ≤ R0.locals) (hAn : As.length = n) {st0 : List Value} (hst : st0 = As.reverse ++ st) (hcat : (st.map fun v => v.category).sum ≤ 8) (isC isR : List Nat) (hC1 : isC.filterMap (fun i => ws[i]?) = w) (hC2 : isC.map (fun i => ws[i]?) = w.map some) (hCn : va_nd isC = true) (hR2 : isR.map (fun i => ws[i]?) = (isR.filterMap (fun i => ws[i]?)).map some) (hRn : va_nd isR = true) (hdis : ∀ i ∈ isR, i ∉ isC) (wz : Nat → va_W) (is2 : List Nat) (hn2 : va_nd is2 = true) (h2 : ∀ a : Nat, is2.filterMap (fun i => ((isR.filterMap (fun i => ws[i]?)) ++ W' a)[i]?) = wz a) (h3 : ∀ a : Nat, is2.map (fun i => ((isR.filterMap (fun i => ws[i]?)) ++ W' a)[i]?) = (wz a).map some) (c' s' : Nat) (hc1 : cells + rm.cells ≤ c') (hs1 : slots + rm.slots ≤ s') (hcs : c' ≤ R0.cells ∧ s' ≤ R0.slots) (d : decode cc pc = .ok (.invokestatic idx, 3)) (k : ∀ a : Nat, J X nL Q (wz a) c' s' (pc + 3) lv (.ref a :: st)) : J X nL Q ws cells slots pc lv st0 := by
  obtain ⟨p, l, e, R, s, m, args, below, meth, c, D, A, cB, cI, cJ⟩ := X
  obtain ⟨hx, hb, hml, hown, hts, hA, hK, hlk, hrt, hR, hg⟩ := O; subst hg; subst hR
  subst hst
  intro H locs ls hP hD hS hl
  have hPc : va_P D vwCl w H := hP.sub isC hC1
  have hDc : va_D A w := hD.sub isC hCn hC2
  have hFc := va_free (wc := w) hD hS hA isC hC2
  have bl : FrameBlind (CPre (l, D, cB, cI, cJ) As w H.size) := fun a U g mk q => by
    obtain ⟨q0, q1, qP, qK, qD⟩ := q
    exact ⟨q0, q1, qP, va_K.moved (u := U) (U := U.calling g mk a) (Vm.Alike.refl U.vm) qK, qD⟩
  have pr : ∀ U : State, U.heap = H → s.WarmedH U.vm → CPre (l, D, cB, cI, cJ) As w H.size As.toArray U := fun U hU hW => ⟨rfl, by rw [hU], by rw [hU]; exact hPc, va_K.moved hW.alike hK, hDc.weaken (fun _ _ _ _ => trivial)⟩
  refine va_callr (va_runS (As := As) (rest := st) ⟨hx, hb, hml, hown, hts⟩ (hM H.size) (va_cwS n hts hG hc rfl rfl hd hRm) ⟨bl, pr⟩ rfl hAn hl.1 rfl (lv_room hcat) d ⟨Nat.le_trans hc1 hcs.1, Nat.le_trans hs1 hcs.2⟩) hS (fun q _ h => hFc q h) hFc (fun u a t H1 locs1 ht hvm hw hB hz1 hk1 hS1 => ?_)
  obtain ⟨hP1, hK1, hD1⟩ := hB
  rw [ht] at hP1
  obtain ⟨hP2, hD2⟩ := va_join hP hD isC isR hC2 hR2 hRn hdis hk1 hFc hP1 hD1
  exact W.widen hc1 hs1 (k a H1 locs1 ls (hP2.sub is2 (h2 a)) (hD2.sub is2 hn2 (h3 a)) hS1 hl)
end CR
