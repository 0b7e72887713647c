/-! THE CLAIM OUT OF ONE WALK OF THE LAW'S BODY. Your part is whole_start (and what it stands on); all else here is the same for every law, but numbers. -/
def R_law : String := "BlorbRowsLaw"
def lw_P (b : Addr) (xs : List Int32) (args : Array Value) (s : State) : Prop := args = #[.ref b] ∧ s.IntsAt b xs ∧ xs.length ≤ 3072 ∧ (Jvm.Cond.and given_1 narrow_1).before args s = true
def lw_Q (_ : Array Value) (s : State) (o : Outcome) (t : State) : Prop := o = .returned (some (.int 1)) ∧ Framed s o t [] 600000 7302250
def lw_Z (below : List Frame) (a : Array Value) (s : State) : State → Prop := fun t => ∃ o, t.status = .running ∧ Ended t below o ∧ lw_Q a s o t
/-- the law's own end, with 1 on the stack, nothing written that was there before, its room as the claim has it -/
theorem lw_ret {p : Program} {l : Launch} {e : Env} {s : State} {m : MethodId} {below : List Frame} {meth : Method} {c : Code} {b : Nat} (hx : p.tables.exec = Jvm.exec) (hb : c.code = code) (hr : meth.sig.returnType = ret) (hlocks : meth.locks = false) {pc : Nat} {H : Heap} {ls : Array Slot} (hdg : decode code pc = .ok (.ireturn, 1)) : W p l e room_1 s m #[Value.ref b] below meth c H [] 600000 7302250 (lw_Z below #[Value.ref b] s) (F0 m pc ls [.int 1]) := by
  intro T hT X
  obtain ⟨fs, hret, hrun, hended, hW, hframe⟩ := X.leave (v := some (.int 1)) (hlocks := hlocks) (fun h => by rw [hr] at h; cases h)
  have hmeth' : T.vm.method? m = some meth := X.method'
  refine ⟨T.setFrames fs, ?_, .returned (some (.int 1)), hrun, hended, rfl, ⟨_, rfl⟩, hW, hframe⟩
  jvm_step X.here [X.here.top, hx, hb, hdg, hmeth', hr, ret, narrow_b1]
  (try refine ⟨rfl, ?_⟩); (try refine ⟨rfl, ?_⟩)
  first | (intro acts; rw [hret _ acts rfl rfl rfl]) | rw [hret _ _ rfl rfl rfl]
  exact Steps.refl _
/-- what holds at the law's entry: the machine, the code, the tables' words (any of lw_tbl by 'hts w (by decide +kernel)'), the script of L ints xs at the cell b, what the Statement gives of the start (any of its parts by flat_of_before) -/
def lw_At (p : Program) (s : State) (m : MethodId) (meth : Method) (c : Code) (b L : Nat) (xs : Nat → Int32) : Prop :=
  p.tables.exec = Jvm.exec ∧ c.code = code ∧ meth.sig.returnType = ret ∧ c.maxLocals = 4 ∧ s.vm.findClass R_law = some m.cls ∧ (∀ w ∈ lw_tbl, w.before #[Value.ref b] s = true) ∧ va_X b L xs s s.heap ∧ b < s.heap.size ∧ meth.locks = false ∧ (Jvm.Cond.and given_1 narrow_1).before #[Value.ref b] s = true

/-! the law's own rows over the bundled walk -/
def Lo (X : JC) (b LL : Nat) (xs : Nat → Int32) : Prop := match X with
  | (_, _, _, _, s, _, args, _, _, _, _, A, _, _, _) => args = #[Value.ref b] ∧ va_X b LL xs s s.heap ∧ b < s.heap.size ∧ ¬ A b ∧ (∀ q, A q → s.heap.size ≤ q)
def LQ (X : JC) : State → Prop := match X with
  | (_, _, _, _, s, _, args, below, _, _, _, _, _, _, _) => lw_Z below args s
section LR
variable {X : JC} {g : JG} {cc : ByteArray} {nL : Nat} {own : String} {Ts : List Cond} {R0 : Room} {rt : Option FieldType} {Q : State → Prop} {ws : va_W} {cells slots pc : Nat} {lv : List (Nat × Value)} {st : List Value} {b LL : Nat} {xs : Nat → Int32}
theorem J_sld (O : Jo X g cc nL own Ts R0 rt) (B : Lo X b LL xs) {i : Int32} (hi : ix i LL = true) (dd : decode cc pc = .ok (.iaload, 1)) (kk : J X nL Q ws cells slots (pc + 1) lv (.int (xs i.toNatClampNeg) :: st)) : J X nL Q ws cells slots pc lv (.int i :: .ref b :: st) := by
  obtain ⟨p, l, e, R, s, m, args, below, meth, c, D, A, cB, cI, cJ⟩ := X
  obtain ⟨hx, hb, hml, hown, hts, hA, hK, hlk, hrt, hR, hg⟩ := O; subst hg
  obtain ⟨_, hX, hbl, hbA, _⟩ := B
  intro H locs ls hP hD hS hl
  exact va_sld hx hb hX hbl hbA hS (ix_in hi) dd (kk H locs ls hP hD hS hl)
theorem J_slen (O : Jo X g cc nL own Ts R0 rt) (B : Lo X b LL xs) (dd : decode cc pc = .ok (.arraylength, 1)) (kk : J X nL Q ws cells slots (pc + 1) lv (.int (nI LL) :: st)) : J X nL Q ws cells slots pc lv (.ref b :: st) := by
  obtain ⟨p, l, e, R, s, m, args, below, meth, c, D, A, cB, cI, cJ⟩ := X
  obtain ⟨hx, hb, hml, hown, hts, hA, hK, hlk, hrt, hR, hg⟩ := O; subst hg
  obtain ⟨_, hX, hbl, hbA, _⟩ := B
  intro H locs ls hP hD hS hl
  exact va_slen hx hb hX hbl hbA hS dd (kk H locs ls hP hD hS hl)
theorem J_lend (O : Jo X g code 4 RL lw_tbl room_1 ret) (B : Lo X b LL xs) (h1 : cells ≤ 600000) (h2 : slots ≤ 7302250) (dd : decode code pc = .ok (.ireturn, 1)) : J X 4 (LQ X) ws cells slots pc lv [.int 1] := by
  obtain ⟨p, l, e, R, s, m, args, below, meth, c, D, A, cB, cI, cJ⟩ := X
  obtain ⟨hx, hb, hml, hown, hts, hA, hK, hlk, hrt, hR, hg⟩ := O; subst hg
  obtain ⟨hargs, hX, hbl, hbA, hAq⟩ := B
  subst hR
  subst hargs
  intro H locs ls hP hD hS hl
  refine va_forget (fun q hq => hAq _ (hS.2.2 q hq)) ?_
  refine W.widen h1 h2 ?_
  exact lw_ret hx hb hrt hlk dd
theorem J_arg (O : Jo X g cc nL own Ts R0 rt) (B : Lo X b LL xs) {ii k aX aM : Nat} {n : Int} (hk : ii + k < LL) (hL : LL ≤ 3072) (hn : Int32.ofInt n = nI k) (d0 : decode cc pc = .ok (.aload_n 0, 1)) (d1 : decode cc (pc + 1) = .ok (.iload_n 3, 1)) (d2 : decode cc (pc + 2) = .ok (.iconst n, 1)) (d3 : decode cc (pc + 3) = .ok (.iadd, 1)) (d4 : decode cc (pc + 4) = .ok (.iaload, 1)) (kk : J X nL Q ws cells slots (pc + 5) [(3, .int (nI ii)), (2, .ref aM), (1, .ref aX), (0, .ref b)] (.int (xs (ii + k)) :: st)) : J X nL Q ws cells slots pc [(3, .int (nI ii)), (2, .ref aM), (1, .ref aX), (0, .ref b)] st := by
  refine J_aload_n O (i := 0) (k0 := 0) (pc := pc) 3 rfl rfl d0 ?_
  refine J_iload_n O (i := 3) (k0 := 3) (pc := pc + 1) 0 rfl rfl d1 ?_
  refine J_iconst O (v := nI k) (pc := pc + 2) hn d2 ?_
  refine J_iadd O (pc := pc + 3) d3 ?_
  refine J_sld O B (pc := pc + 4) (ix_t (ii + k) (nI_add ii k) hk (by omega)) d4 ?_
  rw [cl_nI (ii + k) (nI_add ii k) (by omega)]
  exact kk
def lng (xs : Nat → Int32) (ii k : Nat) : Int64 := (((xs (ii + k)).toInt64 <<< ((32 : Int32).toInt64 &&& 63)) ||| ((xs (ii + (k + 1))).toInt64 &&& 4294967295))
theorem J_lng (O : Jo X g cc nL RL lw_tbl R0 rt) (B : Lo X b LL xs) {ii k aX aM : Nat} {n n' : Int} (hk : ii + k + 1 < LL) (hL : LL ≤ 3072) (hn : Int32.ofInt n = nI k) (hn' : Int32.ofInt n' = nI (k + 1)) (d0 : decode cc pc = .ok (.aload_n 0, 1)) (d1 : decode cc (pc + 1) = .ok (.iload_n 3, 1)) (d2 : decode cc (pc + 2) = .ok (.iconst n, 1)) (d3 : decode cc (pc + 3) = .ok (.iadd, 1)) (d4 : decode cc (pc + 4) = .ok (.iaload, 1)) (d5 : decode cc (pc + 5) = .ok (.i2l, 1)) (d6 : decode cc (pc + 6) = .ok (.bipush 32, 2)) (d8 : decode cc (pc + 8) = .ok (.lshl, 1)) (e0 : decode cc (pc + 9) = .ok (.aload_n 0, 1)) (e1 : decode cc (pc + 10) = .ok (.iload_n 3, 1)) (e2 : decode cc (pc + 11) = .ok (.iconst n', 1)) (e3 : decode cc (pc + 12) = .ok (.iadd, 1)) (e4 : decode cc (pc + 13) = .ok (.iaload, 1)) (e5 : decode cc (pc + 14) = .ok (.i2l, 1)) (e6 : decode cc (pc + 15) = .ok (.ldc2_w 13, 3)) (e9 : decode cc (pc + 18) = .ok (.land, 1)) (e10 : decode cc (pc + 19) = .ok (.lor, 1)) (kk : J X nL Q ws cells slots (pc + 20) [(3, .int (nI ii)), (2, .ref aM), (1, .ref aX), (0, .ref b)] (.long (lng xs ii k) :: st)) : J X nL Q ws cells slots pc [(3, .int (nI ii)), (2, .ref aM), (1, .ref aX), (0, .ref b)] st := by
  refine J_arg O B (pc := pc) (k := k) (by omega) hL hn d0 d1 d2 d3 d4 ?_
  refine J_i2l O (pc := pc + 5) d5 ?_
  refine J_bipush O (v := 32) (pc := pc + 6) (by decide) d6 ?_
  refine J_lshl O (pc := pc + 8) d8 ?_
  refine J_arg O B (pc := pc + 9) (k := k + 1) (by omega) hL hn' e0 e1 e2 e3 e4 ?_
  refine J_i2l O (pc := pc + 14) e5 ?_
  refine J_ldc2 O (pc := pc + 15) tl_k13 e6 ?_
  refine J_land O (pc := pc + 18) e9 ?_
  refine J_lor O (pc := pc + 19) e10 ?_
  exact kk
end LR
