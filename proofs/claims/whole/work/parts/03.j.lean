/-! bundled walk: J, contracts C -/
abbrev JC : Type := Program × Launch × Env × Room × State × MethodId × Array Value × List Frame × Method × Code × va_G × (Nat → Prop) × ClassId × ClassId × ClassId
abbrev JG : Type := Launch × va_G × ClassId × ClassId × ClassId
def Kt (cB cI cJ : ClassId) : List (ClassId × FieldType) := [(cB, .byte), (cI, .int), (cJ, .long)]
def bI (b : Bool) : Int32 := match b with | true => 1 | false => 0
def b8 (f : Nat → Int8) : Nat → Int32 := fun j => (f j).toInt32
def up8 (f : Nat → Int8) (k : Nat) (x : Int8) : Nat → Int8 := fun j => if j = k then x else f j
def ix (i : Int32) (n : Nat) : Bool := decide (¬ (i < 0 ∨ n ≤ i.toNatClampNeg))
theorem ix_in {i : Int32} {n : Nat} (h : ix i n = true) : vp_in i n := (of_decide_eq_true (p := ¬ (i < 0 ∨ n ≤ i.toNatClampNeg)) h : ¬ (i < 0 ∨ n ≤ i.toNatClampNeg))
theorem jt_t {α : Type} {c : Prop} {i : Decidable c} {a b : Option α} {o : α} (h : c) (hf : (@ite _ c i a b) = some o) : a = some o := by rw [if_pos h] at hf; exact hf
theorem jt_f {α : Type} {c : Prop} {i : Decidable c} {a b : Option α} {o : α} (h : ¬ c) (hf : (@ite _ c i a b) = some o) : b = some o := by rw [if_neg h] at hf; exact hf
theorem jt_g {α : Type} {c : Prop} {i : Decidable c} {a : Option α} {o : α} (hf : (@ite _ c i a none) = some o) : c ∧ a = some o := by
  by_cases h : c
  · rw [if_pos h] at hf; exact ⟨h, hf⟩
  · rw [if_neg h] at hf; cases hf
theorem jt_b {α β : Type} {a : Option α} {f : α → Option β} {z : β} (h : a.bind f = some z) : ∃ y, a = some y ∧ f y = some z := by
  cases a with
  | none => cases h
  | some y => exact ⟨y, rfl, h⟩
theorem jt_n {α : Type} {z : α} {C : Prop} (h : (none : Option α) = some z) : C := by cases h
def J (X : JC) (nL : Nat) (Q : State → Prop) (ws : va_W) (cells slots pc : Nat) (lv : List (Nat × Value)) (st : List Value) : Prop := match X with
  | (p, l, e, R, s, m, args, below, meth, c, D, A, _, _, _) => ∀ (H : Heap) (locs : List Loc) (ls : Array Slot), va_P D vwCl ws H → va_D A ws → va_S A s.heap H locs → lv_has ls nL lv → W p l e R s m args below meth c H locs cells slots Q (F0 m pc ls st)
def Jo (X : JC) (g : JG) (cc : ByteArray) (nL : Nat) (own : String) (Ts : List Cond) (R0 : Room) (ret : Option FieldType) : Prop := match X with
  | (p, l, e, R, s, m, args, below, meth, c, D, A, cB, cI, cJ) => p.tables.exec = Jvm.exec ∧ c.code = cc ∧ c.maxLocals = nL ∧ s.vm.findClass own = some m.cls ∧ (∀ w ∈ Ts, w.before args s = true) ∧ (∀ q, s.heap.size ≤ q → A q) ∧ va_K D vwCl (Kt cB cI cJ) s ∧ meth.locks = false ∧ meth.sig.returnType = ret ∧ R = R0 ∧ (l, D, cB, cI, cJ) = g
def Jnm (X : JC) : Prop := match X with
  | (_, _, _, _, _, _, _, _, meth, _, _, _, _, _, _) => meth.name = "<init>"
theorem lc_eq (x y : Int64) : lg_cmp x y = 0 ↔ x = y := by
  unfold lg_cmp
  by_cases h : y < x
  · simp [h]; intro q; subst q; exact absurd h (Int64.lt_irrefl)
  · by_cases h2 : x = y
    · simp [h2]
    · simp [h, h2]
theorem lc_ne (x y : Int64) : ¬ lg_cmp x y = 0 ↔ ¬ x = y := not_congr (lc_eq x y)
theorem lc_gt (x y : Int64) : 0 < lg_cmp x y ↔ y < x := by
  unfold lg_cmp
  by_cases h : y < x
  · simp [h]
  · by_cases h2 : x = y
    · simp [h2]
    · simp [h, h2]
theorem lc_le (x y : Int64) : lg_cmp x y ≤ 0 ↔ x ≤ y := by
  rw [← Int64.not_lt, ← lc_gt x y, Int32.not_lt]
theorem lc_lt (x y : Int64) : lg_cmp x y < 0 ↔ x < y := by
  have h1 := lc_le x y
  have h2 := lc_eq x y
  constructor
  · intro h
    have h3 := h1.mp (Int32.le_of_lt h)
    have h4 : ¬ x = y := fun q => by rw [h2.mpr q] at h; exact absurd h (by decide)
    exact Int64.lt_of_le_of_ne h3 h4
  · intro h
    have h3 := h1.mpr (Int64.le_of_lt h)
    have h4 : ¬ lg_cmp x y = 0 := fun q => by rw [h2.mp q] at h; exact absurd h (Int64.lt_irrefl)
    exact Int32.lt_of_le_of_ne h3 h4
theorem lc_ge (x y : Int64) : 0 ≤ lg_cmp x y ↔ y ≤ x := by
  rw [← Int64.not_lt, ← lc_lt x y, Int32.not_lt]
section JR
variable {X : JC} {g : JG} {cc : ByteArray} {nL : Nat} {own : String} {Ts : List Cond} {R0 : Room} {ret : Option FieldType} {Q : State → Prop} {ws : va_W} {cells slots pc : Nat} {lv : List (Nat × Value)} {st : List Value}
theorem J_iconst (O : Jo X g cc nL own Ts R0 ret) {n : Int} {v : Int32} (hv : Int32.ofInt n = v) (d : decode cc pc = .ok (.iconst n, 1)) (k : J X nL Q ws cells slots (pc + 1) lv (.int v :: st)) : J X nL Q ws cells slots pc lv (st) := by
  obtain ⟨p, l, e, R, s, m, args, below, meth, c, D, A, cB, cI, cJ⟩ := X
  obtain ⟨hx, hb, hml, hown, hts, hA, hK, hlk, hrt, hR, hg⟩ := O; subst hg
  intro H locs ls hP hD hS hl
  exact lv_iconst hx hb d hv (k H locs ls hP hD hS hl)
theorem J_bipush (O : Jo X g cc nL own Ts R0 ret) {n : Int} {v : Int32} (hv : (Int8.ofInt n).toInt32 = v) (d : decode cc pc = .ok (.bipush n, 2)) (k : J X nL Q ws cells slots (pc + 2) lv (.int v :: st)) : J X nL Q ws cells slots pc lv (st) := by
  obtain ⟨p, l, e, R, s, m, args, below, meth, c, D, A, cB, cI, cJ⟩ := X
  obtain ⟨hx, hb, hml, hown, hts, hA, hK, hlk, hrt, hR, hg⟩ := O; subst hg
  intro H locs ls hP hD hS hl
  exact lv_bipush hx hb d hv (k H locs ls hP hD hS hl)
theorem J_sipush (O : Jo X g cc nL own Ts R0 ret) {n : Int} {v : Int32} (hv : (Int16.ofInt n).toInt32 = v) (d : decode cc pc = .ok (.sipush n, 3)) (k : J X nL Q ws cells slots (pc + 3) lv (.int v :: st)) : J X nL Q ws cells slots pc lv (st) := by
  obtain ⟨p, l, e, R, s, m, args, below, meth, c, D, A, cB, cI, cJ⟩ := X
  obtain ⟨hx, hb, hml, hown, hts, hA, hK, hlk, hrt, hR, hg⟩ := O; subst hg
  intro H locs ls hP hD hS hl
  exact lv_sipush hx hb d hv (k H locs ls hP hD hS hl)
theorem J_lconst (O : Jo X g cc nL own Ts R0 ret) {n : Fin 2} {v : Int64} (hv : Int64.ofNat n = v) (d : decode cc pc = .ok (.lconst n, 1)) (k : J X nL Q ws cells slots (pc + 1) lv (.long v :: st)) : J X nL Q ws cells slots pc lv (st) := by
  obtain ⟨p, l, e, R, s, m, args, below, meth, c, D, A, cB, cI, cJ⟩ := X
  obtain ⟨hx, hb, hml, hown, hts, hA, hK, hlk, hrt, hR, hg⟩ := O; subst hg
  intro H locs ls hP hD hS hl
  exact lv_lconst hx hb d hv (k H locs ls hP hD hS hl)
theorem J_ldc (O : Jo X g cc nL own Ts R0 ret) {i : Nat} {v : Int32} (hm : Cond.constant own i v ∈ Ts) (d : decode cc pc = .ok (.ldc i, 2)) (k : J X nL Q ws cells slots (pc + 2) lv (.int v :: st)) : J X nL Q ws cells slots pc lv (st) := by
  obtain ⟨p, l, e, R, s, m, args, below, meth, c, D, A, cB, cI, cJ⟩ := X
  obtain ⟨hx, hb, hml, hown, hts, hA, hK, hlk, hrt, hR, hg⟩ := O; subst hg
  intro H locs ls hP hD hS hl
  exact lv_ldc hx hb hown (hts _ hm) d (k H locs ls hP hD hS hl)
theorem J_ldc2 (O : Jo X g cc nL own Ts R0 ret) {i : Nat} {v : Int64} (hm : Cond.constantLong own i v ∈ Ts) (d : decode cc pc = .ok (.ldc2_w i, 3)) (k : J X nL Q ws cells slots (pc + 3) lv (.long v :: st)) : J X nL Q ws cells slots pc lv (st) := by
  obtain ⟨p, l, e, R, s, m, args, below, meth, c, D, A, cB, cI, cJ⟩ := X
  obtain ⟨hx, hb, hml, hown, hts, hA, hK, hlk, hrt, hR, hg⟩ := O; subst hg
  intro H locs ls hP hD hS hl
  exact lv_ldc2 hx hb hown (hts _ hm) d (k H locs ls hP hD hS hl)
theorem J_iload_n (O : Jo X g cc nL own Ts R0 ret) {k0 : Fin 4} {i : Nat} {x : Int32} (q : Nat) (hq : lv[q]? = some (i, .int x)) (hi : (k0 : Nat) = i) (d : decode cc pc = .ok (.iload_n k0, 1)) (k : J X nL Q ws cells slots (pc + 1) lv (.int x :: st)) : J X nL Q ws cells slots pc lv (st) := by
  obtain ⟨p, l, e, R, s, m, args, below, meth, c, D, A, cB, cI, cJ⟩ := X
  obtain ⟨hx, hb, hml, hown, hts, hA, hK, hlk, hrt, hR, hg⟩ := O; subst hg
  intro H locs ls hP hD hS hl
  exact lv_iload_n hx hb d hi (lv_at hl q hq) (k H locs ls hP hD hS hl)
theorem J_iload (O : Jo X g cc nL own Ts R0 ret) {i : Nat} {x : Int32} (q : Nat) (hq : lv[q]? = some (i, .int x)) (d : decode cc pc = .ok (.iload i, 2)) (k : J X nL Q ws cells slots (pc + 2) lv (.int x :: st)) : J X nL Q ws cells slots pc lv (st) := by
  obtain ⟨p, l, e, R, s, m, args, below, meth, c, D, A, cB, cI, cJ⟩ := X
  obtain ⟨hx, hb, hml, hown, hts, hA, hK, hlk, hrt, hR, hg⟩ := O; subst hg
  intro H locs ls hP hD hS hl
  exact lv_iload hx hb d (lv_at hl q hq) (k H locs ls hP hD hS hl)
theorem J_lload_n (O : Jo X g cc nL own Ts R0 ret) {k0 : Fin 4} {i : Nat} {x : Int64} (q : Nat) (hq : lv[q]? = some (i, .long x)) (hi : (k0 : Nat) = i) (d : decode cc pc = .ok (.lload_n k0, 1)) (k : J X nL Q ws cells slots (pc + 1) lv (.long x :: st)) : J X nL Q ws cells slots pc lv (st) := by
  obtain ⟨p, l, e, R, s, m, args, below, meth, c, D, A, cB, cI, cJ⟩ := X
  obtain ⟨hx, hb, hml, hown, hts, hA, hK, hlk, hrt, hR, hg⟩ := O; subst hg
  intro H locs ls hP hD hS hl
  exact lv_lload_n hx hb d hi (lv_at hl q hq) (k H locs ls hP hD hS hl)
theorem J_lload (O : Jo X g cc nL own Ts R0 ret) {i : Nat} {x : Int64} (q : Nat) (hq : lv[q]? = some (i, .long x)) (d : decode cc pc = .ok (.lload i, 2)) (k : J X nL Q ws cells slots (pc + 2) lv (.long x :: st)) : J X nL Q ws cells slots pc lv (st) := by
  obtain ⟨p, l, e, R, s, m, args, below, meth, c, D, A, cB, cI, cJ⟩ := X
  obtain ⟨hx, hb, hml, hown, hts, hA, hK, hlk, hrt, hR, hg⟩ := O; subst hg
  intro H locs ls hP hD hS hl
  exact lv_lload hx hb d (lv_at hl q hq) (k H locs ls hP hD hS hl)
theorem J_aload_n (O : Jo X g cc nL own Ts R0 ret) {k0 : Fin 4} {i : Nat} {x : Nat} (q : Nat) (hq : lv[q]? = some (i, .ref x)) (hi : (k0 : Nat) = i) (d : decode cc pc = .ok (.aload_n k0, 1)) (k : J X nL Q ws cells slots (pc + 1) lv (.ref x :: st)) : J X nL Q ws cells slots pc lv (st) := by
  obtain ⟨p, l, e, R, s, m, args, below, meth, c, D, A, cB, cI, cJ⟩ := X
  obtain ⟨hx, hb, hml, hown, hts, hA, hK, hlk, hrt, hR, hg⟩ := O; subst hg
  intro H locs ls hP hD hS hl
  exact lv_aload_n hx hb d hi (lv_at hl q hq) (k H locs ls hP hD hS hl)
theorem J_aload (O : Jo X g cc nL own Ts R0 ret) {i : Nat} {x : Nat} (q : Nat) (hq : lv[q]? = some (i, .ref x)) (d : decode cc pc = .ok (.aload i, 2)) (k : J X nL Q ws cells slots (pc + 2) lv (.ref x :: st)) : J X nL Q ws cells slots pc lv (st) := by
  obtain ⟨p, l, e, R, s, m, args, below, meth, c, D, A, cB, cI, cJ⟩ := X
  obtain ⟨hx, hb, hml, hown, hts, hA, hK, hlk, hrt, hR, hg⟩ := O; subst hg
  intro H locs ls hP hD hS hl
  exact lv_aload hx hb d (lv_at hl q hq) (k H locs ls hP hD hS hl)
theorem J_istore_n (O : Jo X g cc nL own Ts R0 ret) {i : Nat} {x : Int32} {k0 : Fin 4} (hi : (k0 : Nat) = i) (lv' : List (Nat × Value)) (hn : i < nL) (hv : (i, Value.int x) :: lv.filter (fun q => !(q.1 == i) && !(q.1 + 1 == i && q.2.category == 2)) = lv') (d : decode cc pc = .ok (.istore_n k0, 1)) (k : J X nL Q ws cells slots (pc + 1) lv' st) : J X nL Q ws cells slots pc lv (Value.int x :: st) := by
  obtain ⟨p, l, e, R, s, m, args, below, meth, c, D, A, cB, cI, cJ⟩ := X
  obtain ⟨hx, hb, hml, hown, hts, hA, hK, hlk, hrt, hR, hg⟩ := O; subst hg
  intro H locs ls hP hD hS hl
  exact lv_istore_n hx hb d hi hl hn hv (fun ls' hl' => k H locs ls' hP hD hS hl')
theorem J_istore (O : Jo X g cc nL own Ts R0 ret) {i : Nat} {x : Int32} (lv' : List (Nat × Value)) (hn : i < nL) (hv : (i, Value.int x) :: lv.filter (fun q => !(q.1 == i) && !(q.1 + 1 == i && q.2.category == 2)) = lv') (d : decode cc pc = .ok (.istore i, 2)) (k : J X nL Q ws cells slots (pc + 2) lv' st) : J X nL Q ws cells slots pc lv (Value.int x :: st) := by
  obtain ⟨p, l, e, R, s, m, args, below, meth, c, D, A, cB, cI, cJ⟩ := X
  obtain ⟨hx, hb, hml, hown, hts, hA, hK, hlk, hrt, hR, hg⟩ := O; subst hg
  intro H locs ls hP hD hS hl
  exact lv_istore hx hb d hl hn hv (fun ls' hl' => k H locs ls' hP hD hS hl')
theorem J_astore_n (O : Jo X g cc nL own Ts R0 ret) {i : Nat} {x : Nat} {k0 : Fin 4} (hi : (k0 : Nat) = i) (lv' : List (Nat × Value)) (hn : i < nL) (hv : (i, Value.ref x) :: lv.filter (fun q => !(q.1 == i) && !(q.1 + 1 == i && q.2.category == 2)) = lv') (d : decode cc pc = .ok (.astore_n k0, 1)) (k : J X nL Q ws cells slots (pc + 1) lv' st) : J X nL Q ws cells slots pc lv (Value.ref x :: st) := by
  obtain ⟨p, l, e, R, s, m, args, below, meth, c, D, A, cB, cI, cJ⟩ := X
  obtain ⟨hx, hb, hml, hown, hts, hA, hK, hlk, hrt, hR, hg⟩ := O; subst hg
  intro H locs ls hP hD hS hl
  exact lv_astore_n hx hb d hi hl hn hv (fun ls' hl' => k H locs ls' hP hD hS hl')
theorem J_astore (O : Jo X g cc nL own Ts R0 ret) {i : Nat} {x : Nat} (lv' : List (Nat × Value)) (hn : i < nL) (hv : (i, Value.ref x) :: lv.filter (fun q => !(q.1 == i) && !(q.1 + 1 == i && q.2.category == 2)) = lv') (d : decode cc pc = .ok (.astore i, 2)) (k : J X nL Q ws cells slots (pc + 2) lv' st) : J X nL Q ws cells slots pc lv (Value.ref x :: st) := by
  obtain ⟨p, l, e, R, s, m, args, below, meth, c, D, A, cB, cI, cJ⟩ := X
  obtain ⟨hx, hb, hml, hown, hts, hA, hK, hlk, hrt, hR, hg⟩ := O; subst hg
  intro H locs ls hP hD hS hl
  exact lv_astore hx hb d hl hn hv (fun ls' hl' => k H locs ls' hP hD hS hl')
theorem J_lstore_n (O : Jo X g cc nL own Ts R0 ret) {i : Nat} {x : Int64} {k0 : Fin 4} (hi : (k0 : Nat) = i) (lv' : List (Nat × Value)) (hn : i + 1 < nL) (hv : (i, Value.long x) :: lv.filter (fun q => !(q.1 == i) && (!(q.1 == i + 1) && !(q.1 + 1 == i && q.2.category == 2))) = lv') (d : decode cc pc = .ok (.lstore_n k0, 1)) (k : J X nL Q ws cells slots (pc + 1) lv' st) : J X nL Q ws cells slots pc lv (Value.long x :: st) := by
  obtain ⟨p, l, e, R, s, m, args, below, meth, c, D, A, cB, cI, cJ⟩ := X
  obtain ⟨hx, hb, hml, hown, hts, hA, hK, hlk, hrt, hR, hg⟩ := O; subst hg
  intro H locs ls hP hD hS hl
  exact lv_lstore_n hx hb d hi hl hn hv (fun ls' hl' => k H locs ls' hP hD hS hl')
theorem J_lstore (O : Jo X g cc nL own Ts R0 ret) {i : Nat} {x : Int64} (lv' : List (Nat × Value)) (hn : i + 1 < nL) (hv : (i, Value.long x) :: lv.filter (fun q => !(q.1 == i) && (!(q.1 == i + 1) && !(q.1 + 1 == i && q.2.category == 2))) = lv') (d : decode cc pc = .ok (.lstore i, 2)) (k : J X nL Q ws cells slots (pc + 2) lv' st) : J X nL Q ws cells slots pc lv (Value.long x :: st) := by
  obtain ⟨p, l, e, R, s, m, args, below, meth, c, D, A, cB, cI, cJ⟩ := X
  obtain ⟨hx, hb, hml, hown, hts, hA, hK, hlk, hrt, hR, hg⟩ := O; subst hg
  intro H locs ls hP hD hS hl
  exact lv_lstore hx hb d hl hn hv (fun ls' hl' => k H locs ls' hP hD hS hl')
theorem J_iinc (O : Jo X g cc nL own Ts R0 ret) {i : Nat} {n : Int} {x v : Int32} (q : Nat) (hq : lv[q]? = some (i, .int x)) (lv' : List (Nat × Value)) (hn : i < nL) (hv : x + Int32.ofInt n = v) (hv' : (i, Value.int v) :: lv.filter (fun q => !(q.1 == i) && !(q.1 + 1 == i && q.2.category == 2)) = lv') (d : decode cc pc = .ok (.iinc i n, 3)) (k : J X nL Q ws cells slots (pc + 3) lv' st) : J X nL Q ws cells slots pc lv st := by
  obtain ⟨p, l, e, R, s, m, args, below, meth, c, D, A, cB, cI, cJ⟩ := X
  obtain ⟨hx, hb, hml, hown, hts, hA, hK, hlk, hrt, hR, hg⟩ := O; subst hg
  intro H locs ls hP hD hS hl
  exact lv_iinc hx hb d hl hq hv hn hv' (fun ls' hl' => k H locs ls' hP hD hS hl')
theorem J_iadd (O : Jo X g cc nL own Ts R0 ret) {x y : Int32} (d : decode cc pc = .ok (.iadd, 1)) (k : J X nL Q ws cells slots (pc + 1) lv (.int (x + y) :: st)) : J X nL Q ws cells slots pc lv (.int y :: .int x :: st) := by
  obtain ⟨p, l, e, R, s, m, args, below, meth, c, D, A, cB, cI, cJ⟩ := X
  obtain ⟨hx, hb, hml, hown, hts, hA, hK, hlk, hrt, hR, hg⟩ := O; subst hg
  intro H locs ls hP hD hS hl
  exact lv_iadd hx hb d (k H locs ls hP hD hS hl)
theorem J_isub (O : Jo X g cc nL own Ts R0 ret) {x y : Int32} (d : decode cc pc = .ok (.isub, 1)) (k : J X nL Q ws cells slots (pc + 1) lv (.int (x - y) :: st)) : J X nL Q ws cells slots pc lv (.int y :: .int x :: st) := by
  obtain ⟨p, l, e, R, s, m, args, below, meth, c, D, A, cB, cI, cJ⟩ := X
  obtain ⟨hx, hb, hml, hown, hts, hA, hK, hlk, hrt, hR, hg⟩ := O; subst hg
  intro H locs ls hP hD hS hl
  exact lv_isub hx hb d (k H locs ls hP hD hS hl)
theorem J_imul (O : Jo X g cc nL own Ts R0 ret) {x y : Int32} (d : decode cc pc = .ok (.imul, 1)) (k : J X nL Q ws cells slots (pc + 1) lv (.int (x * y) :: st)) : J X nL Q ws cells slots pc lv (.int y :: .int x :: st) := by
  obtain ⟨p, l, e, R, s, m, args, below, meth, c, D, A, cB, cI, cJ⟩ := X
  obtain ⟨hx, hb, hml, hown, hts, hA, hK, hlk, hrt, hR, hg⟩ := O; subst hg
  intro H locs ls hP hD hS hl
  exact lv_imul hx hb d (k H locs ls hP hD hS hl)
theorem J_iand (O : Jo X g cc nL own Ts R0 ret) {x y : Int32} (d : decode cc pc = .ok (.iand, 1)) (k : J X nL Q ws cells slots (pc + 1) lv (.int (x &&& y) :: st)) : J X nL Q ws cells slots pc lv (.int y :: .int x :: st) := by
  obtain ⟨p, l, e, R, s, m, args, below, meth, c, D, A, cB, cI, cJ⟩ := X
  obtain ⟨hx, hb, hml, hown, hts, hA, hK, hlk, hrt, hR, hg⟩ := O; subst hg
  intro H locs ls hP hD hS hl
  exact lv_iand hx hb d (k H locs ls hP hD hS hl)
theorem J_ior (O : Jo X g cc nL own Ts R0 ret) {x y : Int32} (d : decode cc pc = .ok (.ior, 1)) (k : J X nL Q ws cells slots (pc + 1) lv (.int (x ||| y) :: st)) : J X nL Q ws cells slots pc lv (.int y :: .int x :: st) := by
  obtain ⟨p, l, e, R, s, m, args, below, meth, c, D, A, cB, cI, cJ⟩ := X
  obtain ⟨hx, hb, hml, hown, hts, hA, hK, hlk, hrt, hR, hg⟩ := O; subst hg
  intro H locs ls hP hD hS hl
  exact lv_ior hx hb d (k H locs ls hP hD hS hl)
theorem J_ishl (O : Jo X g cc nL own Ts R0 ret) {x y : Int32} (d : decode cc pc = .ok (.ishl, 1)) (k : J X nL Q ws cells slots (pc + 1) lv (.int (x <<< (y &&& 31)) :: st)) : J X nL Q ws cells slots pc lv (.int y :: .int x :: st) := by
  obtain ⟨p, l, e, R, s, m, args, below, meth, c, D, A, cB, cI, cJ⟩ := X
  obtain ⟨hx, hb, hml, hown, hts, hA, hK, hlk, hrt, hR, hg⟩ := O; subst hg
  intro H locs ls hP hD hS hl
  exact lv_ishl hx hb d (k H locs ls hP hD hS hl)
theorem J_ishr (O : Jo X g cc nL own Ts R0 ret) {x y : Int32} (d : decode cc pc = .ok (.ishr, 1)) (k : J X nL Q ws cells slots (pc + 1) lv (.int (x >>> (y &&& 31)) :: st)) : J X nL Q ws cells slots pc lv (.int y :: .int x :: st) := by
  obtain ⟨p, l, e, R, s, m, args, below, meth, c, D, A, cB, cI, cJ⟩ := X
  obtain ⟨hx, hb, hml, hown, hts, hA, hK, hlk, hrt, hR, hg⟩ := O; subst hg
  intro H locs ls hP hD hS hl
  exact lv_ishr hx hb d (k H locs ls hP hD hS hl)
theorem J_ladd (O : Jo X g cc nL own Ts R0 ret) {x y : Int64} (d : decode cc pc = .ok (.ladd, 1)) (k : J X nL Q ws cells slots (pc + 1) lv (.long (x + y) :: st)) : J X nL Q ws cells slots pc lv (.long y :: .long x :: st) := by
  obtain ⟨p, l, e, R, s, m, args, below, meth, c, D, A, cB, cI, cJ⟩ := X
  obtain ⟨hx, hb, hml, hown, hts, hA, hK, hlk, hrt, hR, hg⟩ := O; subst hg
  intro H locs ls hP hD hS hl
  exact lv_ladd hx hb d (k H locs ls hP hD hS hl)
theorem J_lsub (O : Jo X g cc nL own Ts R0 ret) {x y : Int64} (d : decode cc pc = .ok (.lsub, 1)) (k : J X nL Q ws cells slots (pc + 1) lv (.long (x - y) :: st)) : J X nL Q ws cells slots pc lv (.long y :: .long x :: st) := by
  obtain ⟨p, l, e, R, s, m, args, below, meth, c, D, A, cB, cI, cJ⟩ := X
  obtain ⟨hx, hb, hml, hown, hts, hA, hK, hlk, hrt, hR, hg⟩ := O; subst hg
  intro H locs ls hP hD hS hl
  exact lv_lsub hx hb d (k H locs ls hP hD hS hl)
theorem J_lmul (O : Jo X g cc nL own Ts R0 ret) {x y : Int64} (d : decode cc pc = .ok (.lmul, 1)) (k : J X nL Q ws cells slots (pc + 1) lv (.long (x * y) :: st)) : J X nL Q ws cells slots pc lv (.long y :: .long x :: st) := by
  obtain ⟨p, l, e, R, s, m, args, below, meth, c, D, A, cB, cI, cJ⟩ := X
  obtain ⟨hx, hb, hml, hown, hts, hA, hK, hlk, hrt, hR, hg⟩ := O; subst hg
  intro H locs ls hP hD hS hl
  exact lv_lmul hx hb d (k H locs ls hP hD hS hl)
theorem J_land (O : Jo X g cc nL own Ts R0 ret) {x y : Int64} (d : decode cc pc = .ok (.land, 1)) (k : J X nL Q ws cells slots (pc + 1) lv (.long (x &&& y) :: st)) : J X nL Q ws cells slots pc lv (.long y :: .long x :: st) := by
  obtain ⟨p, l, e, R, s, m, args, below, meth, c, D, A, cB, cI, cJ⟩ := X
  obtain ⟨hx, hb, hml, hown, hts, hA, hK, hlk, hrt, hR, hg⟩ := O; subst hg
  intro H locs ls hP hD hS hl
  exact lv_land hx hb d (k H locs ls hP hD hS hl)
theorem J_lor (O : Jo X g cc nL own Ts R0 ret) {x y : Int64} (d : decode cc pc = .ok (.lor, 1)) (k : J X nL Q ws cells slots (pc + 1) lv (.long (x ||| y) :: st)) : J X nL Q ws cells slots pc lv (.long y :: .long x :: st) := by
  obtain ⟨p, l, e, R, s, m, args, below, meth, c, D, A, cB, cI, cJ⟩ := X
  obtain ⟨hx, hb, hml, hown, hts, hA, hK, hlk, hrt, hR, hg⟩ := O; subst hg
  intro H locs ls hP hD hS hl
  exact lv_lor hx hb d (k H locs ls hP hD hS hl)
theorem J_idiv (O : Jo X g cc nL own Ts R0 ret) {x y : Int32} (hne : ¬ y = 0) (d : decode cc pc = .ok (.idiv, 1)) (k : J X nL Q ws cells slots (pc + 1) lv (.int (x / y) :: st)) : J X nL Q ws cells slots pc lv (.int y :: .int x :: st) := by
  obtain ⟨p, l, e, R, s, m, args, below, meth, c, D, A, cB, cI, cJ⟩ := X
  obtain ⟨hx, hb, hml, hown, hts, hA, hK, hlk, hrt, hR, hg⟩ := O; subst hg
  intro H locs ls hP hD hS hl
  exact lv_idiv hx hb d hne (k H locs ls hP hD hS hl)
theorem J_irem (O : Jo X g cc nL own Ts R0 ret) {x y : Int32} (hne : ¬ y = 0) (d : decode cc pc = .ok (.irem, 1)) (k : J X nL Q ws cells slots (pc + 1) lv (.int (x - x / y * y) :: st)) : J X nL Q ws cells slots pc lv (.int y :: .int x :: st) := by
  obtain ⟨p, l, e, R, s, m, args, below, meth, c, D, A, cB, cI, cJ⟩ := X
  obtain ⟨hx, hb, hml, hown, hts, hA, hK, hlk, hrt, hR, hg⟩ := O; subst hg
  intro H locs ls hP hD hS hl
  exact lv_irem hx hb d hne (k H locs ls hP hD hS hl)
theorem J_ldiv (O : Jo X g cc nL own Ts R0 ret) {x y : Int64} (hne : ¬ y = 0) (d : decode cc pc = .ok (.ldiv, 1)) (k : J X nL Q ws cells slots (pc + 1) lv (.long (x / y) :: st)) : J X nL Q ws cells slots pc lv (.long y :: .long x :: st) := by
  obtain ⟨p, l, e, R, s, m, args, below, meth, c, D, A, cB, cI, cJ⟩ := X
  obtain ⟨hx, hb, hml, hown, hts, hA, hK, hlk, hrt, hR, hg⟩ := O; subst hg
  intro H locs ls hP hD hS hl
  exact lv_ldiv hx hb d hne (k H locs ls hP hD hS hl)
theorem J_lrem (O : Jo X g cc nL own Ts R0 ret) {x y : Int64} (hne : ¬ y = 0) (d : decode cc pc = .ok (.lrem, 1)) (k : J X nL Q ws cells slots (pc + 1) lv (.long (x - x / y * y) :: st)) : J X nL Q ws cells slots pc lv (.long y :: .long x :: st) := by
  obtain ⟨p, l, e, R, s, m, args, below, meth, c, D, A, cB, cI, cJ⟩ := X
  obtain ⟨hx, hb, hml, hown, hts, hA, hK, hlk, hrt, hR, hg⟩ := O; subst hg
  intro H locs ls hP hD hS hl
  exact lv_lrem hx hb d hne (k H locs ls hP hD hS hl)
theorem J_iushr (O : Jo X g cc nL own Ts R0 ret) {x y : Int32} (d : decode cc pc = .ok (.iushr, 1)) (k : J X nL Q ws cells slots (pc + 1) lv (.int ((x.toUInt32 >>> (y.toUInt32 &&& Int32.toUInt32 31)).toInt32) :: st)) : J X nL Q ws cells slots pc lv (.int y :: .int x :: st) := by
  obtain ⟨p, l, e, R, s, m, args, below, meth, c, D, A, cB, cI, cJ⟩ := X
  obtain ⟨hx, hb, hml, hown, hts, hA, hK, hlk, hrt, hR, hg⟩ := O; subst hg
  intro H locs ls hP hD hS hl
  exact lv_iushr hx hb d rfl (k H locs ls hP hD hS hl)
theorem J_lushr (O : Jo X g cc nL own Ts R0 ret) {x : Int64} {y : Int32} (d : decode cc pc = .ok (.lushr, 1)) (k : J X nL Q ws cells slots (pc + 1) lv (.long ((x.toUInt64 >>> (y.toInt64.toUInt64 &&& Int64.toUInt64 63)).toInt64) :: st)) : J X nL Q ws cells slots pc lv (.int y :: .long x :: st) := by
  obtain ⟨p, l, e, R, s, m, args, below, meth, c, D, A, cB, cI, cJ⟩ := X
  obtain ⟨hx, hb, hml, hown, hts, hA, hK, hlk, hrt, hR, hg⟩ := O; subst hg
  intro H locs ls hP hD hS hl
  exact lv_lushr hx hb d rfl (k H locs ls hP hD hS hl)
theorem J_lshl (O : Jo X g cc nL own Ts R0 ret) {x : Int64} {y : Int32} (d : decode cc pc = .ok (.lshl, 1)) (k : J X nL Q ws cells slots (pc + 1) lv (.long (x <<< (y.toInt64 &&& 63)) :: st)) : J X nL Q ws cells slots pc lv (.int y :: .long x :: st) := by
  obtain ⟨p, l, e, R, s, m, args, below, meth, c, D, A, cB, cI, cJ⟩ := X
  obtain ⟨hx, hb, hml, hown, hts, hA, hK, hlk, hrt, hR, hg⟩ := O; subst hg
  intro H locs ls hP hD hS hl
  exact lv_lshl hx hb d rfl (k H locs ls hP hD hS hl)
theorem J_lshr (O : Jo X g cc nL own Ts R0 ret) {x : Int64} {y : Int32} (d : decode cc pc = .ok (.lshr, 1)) (k : J X nL Q ws cells slots (pc + 1) lv (.long (x >>> (y.toInt64 &&& 63)) :: st)) : J X nL Q ws cells slots pc lv (.int y :: .long x :: st) := by
  obtain ⟨p, l, e, R, s, m, args, below, meth, c, D, A, cB, cI, cJ⟩ := X
  obtain ⟨hx, hb, hml, hown, hts, hA, hK, hlk, hrt, hR, hg⟩ := O; subst hg
  intro H locs ls hP hD hS hl
  exact lv_lshr hx hb d rfl (k H locs ls hP hD hS hl)
theorem J_i2l (O : Jo X g cc nL own Ts R0 ret) {x : Int32} (d : decode cc pc = .ok (.i2l, 1)) (k : J X nL Q ws cells slots (pc + 1) lv (.long x.toInt64 :: st)) : J X nL Q ws cells slots pc lv (.int x :: st) := by
  obtain ⟨p, l, e, R, s, m, args, below, meth, c, D, A, cB, cI, cJ⟩ := X
  obtain ⟨hx, hb, hml, hown, hts, hA, hK, hlk, hrt, hR, hg⟩ := O; subst hg
  intro H locs ls hP hD hS hl
  exact lv_i2l hx hb d rfl (k H locs ls hP hD hS hl)
theorem J_l2i (O : Jo X g cc nL own Ts R0 ret) {x : Int64} (d : decode cc pc = .ok (.l2i, 1)) (k : J X nL Q ws cells slots (pc + 1) lv (.int x.toInt32 :: st)) : J X nL Q ws cells slots pc lv (.long x :: st) := by
  obtain ⟨p, l, e, R, s, m, args, below, meth, c, D, A, cB, cI, cJ⟩ := X
  obtain ⟨hx, hb, hml, hown, hts, hA, hK, hlk, hrt, hR, hg⟩ := O; subst hg
  intro H locs ls hP hD hS hl
  exact lv_l2i hx hb d rfl (k H locs ls hP hD hS hl)
theorem J_i2b (O : Jo X g cc nL own Ts R0 ret) {x : Int32} (d : decode cc pc = .ok (.i2b, 1)) (k : J X nL Q ws cells slots (pc + 1) lv (.int x.toInt8.toInt32 :: st)) : J X nL Q ws cells slots pc lv (.int x :: st) := by
  obtain ⟨p, l, e, R, s, m, args, below, meth, c, D, A, cB, cI, cJ⟩ := X
  obtain ⟨hx, hb, hml, hown, hts, hA, hK, hlk, hrt, hR, hg⟩ := O; subst hg
  intro H locs ls hP hD hS hl
  exact lv_i2b hx hb d rfl (k H locs ls hP hD hS hl)
theorem J_lcmp (O : Jo X g cc nL own Ts R0 ret) {x y : Int64} (d : decode cc pc = .ok (.lcmp, 1)) (k : J X nL Q ws cells slots (pc + 1) lv (.int (lg_cmp x y) :: st)) : J X nL Q ws cells slots pc lv (.long y :: .long x :: st) := by
  obtain ⟨p, l, e, R, s, m, args, below, meth, c, D, A, cB, cI, cJ⟩ := X
  obtain ⟨hx, hb, hml, hown, hts, hA, hK, hlk, hrt, hR, hg⟩ := O; subst hg
  intro H locs ls hP hD hS hl
  exact W.lcmp hx hb d (k H locs ls hP hD hS hl)
theorem J_dup (O : Jo X g cc nL own Ts R0 ret) {v : Value} (hv : v.category = 1) (d : decode cc pc = .ok (.dup, 1)) (k : J X nL Q ws cells slots (pc + 1) lv (v :: v :: st)) : J X nL Q ws cells slots pc lv (v :: st) := by
  obtain ⟨p, l, e, R, s, m, args, below, meth, c, D, A, cB, cI, cJ⟩ := X
  obtain ⟨hx, hb, hml, hown, hts, hA, hK, hlk, hrt, hR, hg⟩ := O; subst hg
  intro H locs ls hP hD hS hl
  exact lv_dup hx hb d hv (k H locs ls hP hD hS hl)
theorem J_dup2 (O : Jo X g cc nL own Ts R0 ret) {v w : Value} (hv : v.category = 1) (hw : w.category = 1) (d : decode cc pc = .ok (.dup2, 1)) (k : J X nL Q ws cells slots (pc + 1) lv (v :: w :: v :: w :: st)) : J X nL Q ws cells slots pc lv (v :: w :: st) := by
  obtain ⟨p, l, e, R, s, m, args, below, meth, c, D, A, cB, cI, cJ⟩ := X
  obtain ⟨hx, hb, hml, hown, hts, hA, hK, hlk, hrt, hR, hg⟩ := O; subst hg
  intro H locs ls hP hD hS hl
  exact lv_dup2_11 hx hb d hv hw (k H locs ls hP hD hS hl)
theorem J_pop (O : Jo X g cc nL own Ts R0 ret) {v : Value} (hv : v.category = 1) (d : decode cc pc = .ok (.pop, 1)) (k : J X nL Q ws cells slots (pc + 1) lv (st)) : J X nL Q ws cells slots pc lv (v :: st) := by
  obtain ⟨p, l, e, R, s, m, args, below, meth, c, D, A, cB, cI, cJ⟩ := X
  obtain ⟨hx, hb, hml, hown, hts, hA, hK, hlk, hrt, hR, hg⟩ := O; subst hg
  intro H locs ls hP hD hS hl
  exact lv_pop hx hb d hv (k H locs ls hP hD hS hl)
theorem J_if_eq (O : Jo X g cc nL own Ts R0 ret) {x : Int32} {off : Int} {tgt : Nat} (d : decode cc pc = .ok (.ifCond .eq off, 3)) (ht : (pc : Int) + off = (tgt : Int)) (kt : x = 0 → J X nL Q ws cells slots tgt lv st) (kf : ¬ x = 0 → J X nL Q ws cells slots (pc + 3) lv st) : J X nL Q ws cells slots pc lv (.int x :: st) := by
  obtain ⟨p, l, e, R, s, m, args, below, meth, c, D, A, cB, cI, cJ⟩ := X
  obtain ⟨hx, hb, hml, hown, hts, hA, hK, hlk, hrt, hR, hg⟩ := O; subst hg
  intro H locs ls hP hD hS hl
  exact lv_if_eq hx hb d ht (fun h => kt h H locs ls hP hD hS hl) (fun h => kf h H locs ls hP hD hS hl)
theorem J_icmp_eq (O : Jo X g cc nL own Ts R0 ret) {x y : Int32} {off : Int} {tgt : Nat} (d : decode cc pc = .ok (.if_icmp .eq off, 3)) (ht : (pc : Int) + off = (tgt : Int)) (kt : x = y → J X nL Q ws cells slots tgt lv st) (kf : ¬ x = y → J X nL Q ws cells slots (pc + 3) lv st) : J X nL Q ws cells slots pc lv (.int y :: .int x :: st) := by
  obtain ⟨p, l, e, R, s, m, args, below, meth, c, D, A, cB, cI, cJ⟩ := X
  obtain ⟨hx, hb, hml, hown, hts, hA, hK, hlk, hrt, hR, hg⟩ := O; subst hg
  intro H locs ls hP hD hS hl
  exact lv_icmp_eq hx hb d ht (fun h => kt h H locs ls hP hD hS hl) (fun h => kf h H locs ls hP hD hS hl)
theorem J_if_ne (O : Jo X g cc nL own Ts R0 ret) {x : Int32} {off : Int} {tgt : Nat} (d : decode cc pc = .ok (.ifCond .ne off, 3)) (ht : (pc : Int) + off = (tgt : Int)) (kt : ¬ x = 0 → J X nL Q ws cells slots tgt lv st) (kf : x = 0 → J X nL Q ws cells slots (pc + 3) lv st) : J X nL Q ws cells slots pc lv (.int x :: st) := by
  obtain ⟨p, l, e, R, s, m, args, below, meth, c, D, A, cB, cI, cJ⟩ := X
  obtain ⟨hx, hb, hml, hown, hts, hA, hK, hlk, hrt, hR, hg⟩ := O; subst hg
  intro H locs ls hP hD hS hl
  exact lv_if_ne hx hb d ht (fun h => kt h H locs ls hP hD hS hl) (fun h => kf h H locs ls hP hD hS hl)
theorem J_icmp_ne (O : Jo X g cc nL own Ts R0 ret) {x y : Int32} {off : Int} {tgt : Nat} (d : decode cc pc = .ok (.if_icmp .ne off, 3)) (ht : (pc : Int) + off = (tgt : Int)) (kt : ¬ x = y → J X nL Q ws cells slots tgt lv st) (kf : x = y → J X nL Q ws cells slots (pc + 3) lv st) : J X nL Q ws cells slots pc lv (.int y :: .int x :: st) := by
  obtain ⟨p, l, e, R, s, m, args, below, meth, c, D, A, cB, cI, cJ⟩ := X
  obtain ⟨hx, hb, hml, hown, hts, hA, hK, hlk, hrt, hR, hg⟩ := O; subst hg
  intro H locs ls hP hD hS hl
  exact lv_icmp_ne hx hb d ht (fun h => kt h H locs ls hP hD hS hl) (fun h => kf h H locs ls hP hD hS hl)
theorem J_if_lt (O : Jo X g cc nL own Ts R0 ret) {x : Int32} {off : Int} {tgt : Nat} (d : decode cc pc = .ok (.ifCond .lt off, 3)) (ht : (pc : Int) + off = (tgt : Int)) (kt : x < 0 → J X nL Q ws cells slots tgt lv st) (kf : ¬ x < 0 → J X nL Q ws cells slots (pc + 3) lv st) : J X nL Q ws cells slots pc lv (.int x :: st) := by
  obtain ⟨p, l, e, R, s, m, args, below, meth, c, D, A, cB, cI, cJ⟩ := X
  obtain ⟨hx, hb, hml, hown, hts, hA, hK, hlk, hrt, hR, hg⟩ := O; subst hg
  intro H locs ls hP hD hS hl
  exact lv_if_lt hx hb d ht (fun h => kt h H locs ls hP hD hS hl) (fun h => kf h H locs ls hP hD hS hl)
theorem J_icmp_lt (O : Jo X g cc nL own Ts R0 ret) {x y : Int32} {off : Int} {tgt : Nat} (d : decode cc pc = .ok (.if_icmp .lt off, 3)) (ht : (pc : Int) + off = (tgt : Int)) (kt : x < y → J X nL Q ws cells slots tgt lv st) (kf : ¬ x < y → J X nL Q ws cells slots (pc + 3) lv st) : J X nL Q ws cells slots pc lv (.int y :: .int x :: st) := by
  obtain ⟨p, l, e, R, s, m, args, below, meth, c, D, A, cB, cI, cJ⟩ := X
  obtain ⟨hx, hb, hml, hown, hts, hA, hK, hlk, hrt, hR, hg⟩ := O; subst hg
  intro H locs ls hP hD hS hl
  exact lv_icmp_lt hx hb d ht (fun h => kt h H locs ls hP hD hS hl) (fun h => kf h H locs ls hP hD hS hl)
theorem J_if_ge (O : Jo X g cc nL own Ts R0 ret) {x : Int32} {off : Int} {tgt : Nat} (d : decode cc pc = .ok (.ifCond .ge off, 3)) (ht : (pc : Int) + off = (tgt : Int)) (kt : 0 ≤ x → J X nL Q ws cells slots tgt lv st) (kf : ¬ 0 ≤ x → J X nL Q ws cells slots (pc + 3) lv st) : J X nL Q ws cells slots pc lv (.int x :: st) := by
  obtain ⟨p, l, e, R, s, m, args, below, meth, c, D, A, cB, cI, cJ⟩ := X
  obtain ⟨hx, hb, hml, hown, hts, hA, hK, hlk, hrt, hR, hg⟩ := O; subst hg
  intro H locs ls hP hD hS hl
  exact lv_if_ge hx hb d ht (fun h => kt h H locs ls hP hD hS hl) (fun h => kf h H locs ls hP hD hS hl)
theorem J_icmp_ge (O : Jo X g cc nL own Ts R0 ret) {x y : Int32} {off : Int} {tgt : Nat} (d : decode cc pc = .ok (.if_icmp .ge off, 3)) (ht : (pc : Int) + off = (tgt : Int)) (kt : y ≤ x → J X nL Q ws cells slots tgt lv st) (kf : ¬ y ≤ x → J X nL Q ws cells slots (pc + 3) lv st) : J X nL Q ws cells slots pc lv (.int y :: .int x :: st) := by
  obtain ⟨p, l, e, R, s, m, args, below, meth, c, D, A, cB, cI, cJ⟩ := X
  obtain ⟨hx, hb, hml, hown, hts, hA, hK, hlk, hrt, hR, hg⟩ := O; subst hg
  intro H locs ls hP hD hS hl
  exact lv_icmp_ge hx hb d ht (fun h => kt h H locs ls hP hD hS hl) (fun h => kf h H locs ls hP hD hS hl)
theorem J_if_gt (O : Jo X g cc nL own Ts R0 ret) {x : Int32} {off : Int} {tgt : Nat} (d : decode cc pc = .ok (.ifCond .gt off, 3)) (ht : (pc : Int) + off = (tgt : Int)) (kt : 0 < x → J X nL Q ws cells slots tgt lv st) (kf : ¬ 0 < x → J X nL Q ws cells slots (pc + 3) lv st) : J X nL Q ws cells slots pc lv (.int x :: st) := by
  obtain ⟨p, l, e, R, s, m, args, below, meth, c, D, A, cB, cI, cJ⟩ := X
  obtain ⟨hx, hb, hml, hown, hts, hA, hK, hlk, hrt, hR, hg⟩ := O; subst hg
  intro H locs ls hP hD hS hl
  exact lv_if_gt hx hb d ht (fun h => kt h H locs ls hP hD hS hl) (fun h => kf h H locs ls hP hD hS hl)
theorem J_icmp_gt (O : Jo X g cc nL own Ts R0 ret) {x y : Int32} {off : Int} {tgt : Nat} (d : decode cc pc = .ok (.if_icmp .gt off, 3)) (ht : (pc : Int) + off = (tgt : Int)) (kt : y < x → J X nL Q ws cells slots tgt lv st) (kf : ¬ y < x → J X nL Q ws cells slots (pc + 3) lv st) : J X nL Q ws cells slots pc lv (.int y :: .int x :: st) := by
  obtain ⟨p, l, e, R, s, m, args, below, meth, c, D, A, cB, cI, cJ⟩ := X
  obtain ⟨hx, hb, hml, hown, hts, hA, hK, hlk, hrt, hR, hg⟩ := O; subst hg
  intro H locs ls hP hD hS hl
  exact lv_icmp_gt hx hb d ht (fun h => kt h H locs ls hP hD hS hl) (fun h => kf h H locs ls hP hD hS hl)
theorem J_if_le (O : Jo X g cc nL own Ts R0 ret) {x : Int32} {off : Int} {tgt : Nat} (d : decode cc pc = .ok (.ifCond .le off, 3)) (ht : (pc : Int) + off = (tgt : Int)) (kt : x ≤ 0 → J X nL Q ws cells slots tgt lv st) (kf : ¬ x ≤ 0 → J X nL Q ws cells slots (pc + 3) lv st) : J X nL Q ws cells slots pc lv (.int x :: st) := by
  obtain ⟨p, l, e, R, s, m, args, below, meth, c, D, A, cB, cI, cJ⟩ := X
  obtain ⟨hx, hb, hml, hown, hts, hA, hK, hlk, hrt, hR, hg⟩ := O; subst hg
  intro H locs ls hP hD hS hl
  exact lv_if_le hx hb d ht (fun h => kt h H locs ls hP hD hS hl) (fun h => kf h H locs ls hP hD hS hl)
theorem J_icmp_le (O : Jo X g cc nL own Ts R0 ret) {x y : Int32} {off : Int} {tgt : Nat} (d : decode cc pc = .ok (.if_icmp .le off, 3)) (ht : (pc : Int) + off = (tgt : Int)) (kt : x ≤ y → J X nL Q ws cells slots tgt lv st) (kf : ¬ x ≤ y → J X nL Q ws cells slots (pc + 3) lv st) : J X nL Q ws cells slots pc lv (.int y :: .int x :: st) := by
  obtain ⟨p, l, e, R, s, m, args, below, meth, c, D, A, cB, cI, cJ⟩ := X
  obtain ⟨hx, hb, hml, hown, hts, hA, hK, hlk, hrt, hR, hg⟩ := O; subst hg
  intro H locs ls hP hD hS hl
  exact lv_icmp_le hx hb d ht (fun h => kt h H locs ls hP hD hS hl) (fun h => kf h H locs ls hP hD hS hl)
theorem J_goto (O : Jo X g cc nL own Ts R0 ret) {off : Int} {tgt : Nat} (d : decode cc pc = .ok (.goto off, 3)) (ht : (pc : Int) + off = (tgt : Int)) (k : J X nL Q ws cells slots tgt lv st) : J X nL Q ws cells slots pc lv st := by
  obtain ⟨p, l, e, R, s, m, args, below, meth, c, D, A, cB, cI, cJ⟩ := X
  obtain ⟨hx, hb, hml, hown, hts, hA, hK, hlk, hrt, hR, hg⟩ := O; subst hg
  intro H locs ls hP hD hS hl
  exact lv_goto hx hb d ht (k H locs ls hP hD hS hl)
theorem J_sub (ks : List Nat) {lv' : List (Nat × Value)} (hv : lv_pick lv ks = lv') (k : J X nL Q ws cells slots pc lv' st) : J X nL Q ws cells slots pc lv st := by
  obtain ⟨p, l, e, R, s, m, args, below, meth, c, D, A, cB, cI, cJ⟩ := X
  intro H locs ls hP hD hS hl
  exact k H locs ls hP hD hS (lv_sub hl ks hv)
theorem J_wsub (is : List Nat) (ws' : va_W) (hn : va_nd is = true) (h1 : is.filterMap (fun i => ws[i]?) = ws') (h2 : is.map (fun i => ws[i]?) = ws'.map some) (k : J X nL Q ws' cells slots pc lv st) : J X nL Q ws cells slots pc lv st := by
  obtain ⟨p, l, e, R, s, m, args, below, meth, c, D, A, cB, cI, cJ⟩ := X
  intro H locs ls hP hD hS hl
  exact k H locs ls (hP.sub is h1) (hD.sub is hn h2) hS hl
theorem J_widen (c' s' : Nat) (h1 : cells ≤ c') (h2 : slots ≤ s') (k : J X nL Q ws c' s' pc lv st) : J X nL Q ws cells slots pc lv st := by
  obtain ⟨p, l, e, R, s, m, args, below, meth, c, D, A, cB, cI, cJ⟩ := X
  intro H locs ls hP hD hS hl
  exact W.widen h1 h2 (k H locs ls hP hD hS hl)
theorem J_pc {pc' : Nat} (h : pc = pc') (k : J X nL Q ws cells slots pc' lv st) : J X nL Q ws cells slots pc lv st := by subst h; exact k
theorem J_lookup (O : Jo X g cc nL own Ts R0 ret) {dflt : Int} {ps : Array (Int × Int)} {len : Nat} {x : Int32} {off : Int} {tgt : Nat} (d : decode cc pc = .ok (.lookupswitch dflt ps, len)) (hp : (ps.toList.zip (ps.toList.drop 1)).all (fun (a, next) => a.1 < next.1) = true) (ho : Op.lookupswitch.offset ps.toList dflt x.toInt = off) (ht : (pc : Int) + off = (tgt : Int)) (k : J X nL Q ws cells slots tgt lv st) : J X nL Q ws cells slots pc lv (.int x :: st) := by
  obtain ⟨p, l, e, R, s, m, args, below, meth, c, D, A, cB, cI, cJ⟩ := X
  obtain ⟨hx, hb, hml, hown, hts, hA, hK, hlk, hrt, hR, hg⟩ := O; subst hg
  intro H locs ls hP hD hS hl
  exact lv_lookup hx hb d hp ho ht (k H locs ls hP hD hS hl)
theorem J_tableOut (O : Jo X g cc nL own Ts R0 ret) {dflt lo hi : Int} {offs : Array Int} {len : Nat} {x : Int32} {tgt : Nat} (d : decode cc pc = .ok (.tableswitch dflt lo hi offs, len)) (h : x.toInt < lo ∨ hi < x.toInt) (ht : (pc : Int) + dflt = (tgt : Int)) (k : J X nL Q ws cells slots tgt lv st) : J X nL Q ws cells slots pc lv (.int x :: st) := by
  obtain ⟨p, l, e, R, s, m, args, below, meth, c, D, A, cB, cI, cJ⟩ := X
  obtain ⟨hx, hb, hml, hown, hts, hA, hK, hlk, hrt, hR, hg⟩ := O; subst hg
  intro H locs ls hP hD hS hl
  exact lv_tableOut hx hb d h ht (k H locs ls hP hD hS hl)
theorem J_tableIn (O : Jo X g cc nL own Ts R0 ret) {dflt lo hi : Int} {offs : Array Int} {len : Nat} {x : Int32} {off : Int} {tgt : Nat} (d : decode cc pc = .ok (.tableswitch dflt lo hi offs, len)) (h1 : ¬ x.toInt < lo) (h2 : ¬ hi < x.toInt) (ho : offs[(x.toInt - lo).toNat]? = some off) (ht : (pc : Int) + off = (tgt : Int)) (k : J X nL Q ws cells slots tgt lv st) : J X nL Q ws cells slots pc lv (.int x :: st) := by
  obtain ⟨p, l, e, R, s, m, args, below, meth, c, D, A, cB, cI, cJ⟩ := X
  obtain ⟨hx, hb, hml, hown, hts, hA, hK, hlk, hrt, hR, hg⟩ := O; subst hg
  intro H locs ls hP hD hS hl
  exact lv_tableIn hx hb d h1 h2 ho ht (k H locs ls hP hD hS hl)
theorem J_get (O : Jo X g cc nL own Ts R0 ret) {C : String} {F : u_T} {N ci a : Nat} (hin : ∀ w ∈ u_ws C F N, w ∈ Ts) (q0 : Nat) {fs : List Value} (he : ws[q0]? = some (a, .inr (ci, fs))) (hc : vwCl[ci]? = some (C, F, N)) (k0 : Nat) (hk : k0 < N) {idx : Nat} (hm : Cond.fieldLink own idx (F k0).1 (F k0).2.1 (F k0).2.2.1 ∈ Ts) {v : Value} (hv : fs[k0]? = some v) (d : decode cc pc = .ok (.getfield idx, 3)) (k : J X nL Q ws cells slots (pc + 3) lv (v :: st)) : J X nL Q ws cells slots pc lv (.ref a :: st) := by
  obtain ⟨p, l, e, R, s, m, args, below, meth, c, D, A, cB, cI, cJ⟩ := X
  obtain ⟨hx, hb, hml, hown, hts, hA, hK, hlk, hrt, hR, hg⟩ := O; subst hg
  intro H locs ls hP hD hS hl
  exact va_get hx hb hts hin hown hK hP q0 he hc k0 hk (hts _ hm) (fun _ h9 => h9) hv d (k H locs ls hP hD hS hl)
theorem J_put (O : Jo X g cc nL own Ts R0 ret) {C : String} {F : u_T} {N ci a : Nat} (hin : ∀ w ∈ u_ws C F N, w ∈ Ts) (ty0 : Nat → FieldType) (hty : ∀ k, k < N → parseFieldDescriptor (F k).2.2.1 = some (ty0 k)) (hnmF : ∀ a, a < N → ∀ b, b < N → a ≠ b → (F a).2.1 ≠ (F b).2.1) (q0 : Nat) {fs : List Value} (he : ws[q0]? = some (a, .inr (ci, fs))) (hc : vwCl[ci]? = some (C, F, N)) (k0 : Nat) (hk : k0 < N) {idx : Nat} (hm : Cond.fieldLink own idx (F k0).1 (F k0).2.1 (F k0).2.2.1 ∈ Ts) (hfin : (F k0).2.2.2 = false) {v : Value} (hn : narrow (ty0 k0) v = v) (hfit : fits (ty0 k0) v = true) (hlen : k0 < fs.length) (ws' : va_W) (hw : ws.set q0 (a, .inr (ci, fs.set k0 v)) = ws') (d : decode cc pc = .ok (.putfield idx, 3)) (k : J X nL Q ws' cells slots (pc + 3) lv st) : J X nL Q ws cells slots pc lv (v :: .ref a :: st) := by
  obtain ⟨p, l, e, R, s, m, args, below, meth, c, D, A, cB, cI, cJ⟩ := X
  obtain ⟨hx, hb, hml, hown, hts, hA, hK, hlk, hrt, hR, hg⟩ := O; subst hg
  intro H locs ls hP hD hS hl
  subst hw
  exact va_put hx hb hts hin ty0 hty hnmF hown hK hP hD hS q0 he hc k0 hk (hts _ hm) (fun _ h9 => h9) hfin (hty k0 hk) hn hfit hlen d (fun H1 locs1 hP1 hD1 hS1 => k H1 locs1 ls hP1 hD1 hS1 hl)
theorem J_putF (O : Jo X g cc nL own Ts R0 ret) {C : String} {F : u_T} {N ci a : Nat} (hin : ∀ w ∈ u_ws C F N, w ∈ Ts) (ty0 : Nat → FieldType) (hty : ∀ k, k < N → parseFieldDescriptor (F k).2.2.1 = some (ty0 k)) (hnmF : ∀ a, a < N → ∀ b, b < N → a ≠ b → (F a).2.1 ≠ (F b).2.1) (q0 : Nat) {fs : List Value} (he : ws[q0]? = some (a, .inr (ci, fs))) (hc : vwCl[ci]? = some (C, F, N)) (k0 : Nat) (hk : k0 < N) {idx : Nat} (hm : Cond.fieldLink own idx (F k0).1 (F k0).2.1 (F k0).2.2.1 ∈ Ts) (hfin : (F k0).2.2.2 = true) (hnm : Jnm X) (hdc : (F k0).1 = own) {v : Value} (hn : narrow (ty0 k0) v = v) (hfit : fits (ty0 k0) v = true) (hlen : k0 < fs.length) (ws' : va_W) (hw : ws.set q0 (a, .inr (ci, fs.set k0 v)) = ws') (d : decode cc pc = .ok (.putfield idx, 3)) (k : J X nL Q ws' cells slots (pc + 3) lv st) : J X nL Q ws cells slots pc lv (v :: .ref a :: st) := by
  obtain ⟨p, l, e, R, s, m, args, below, meth, c, D, A, cB, cI, cJ⟩ := X
  obtain ⟨hx, hb, hml, hown, hts, hA, hK, hlk, hrt, hR, hg⟩ := O; subst hg
  intro H locs ls hP hD hS hl
  subst hw
  exact va_putF hx hb hts hin ty0 hty hnmF hown hK hP hD hS q0 he hc k0 hk (hts _ hm) (fun _ h9 => h9) hfin hnm hdc (hty k0 hk) hn hfit hlen d (fun H1 locs1 hP1 hD1 hS1 => k H1 locs1 ls hP1 hD1 hS1 hl)
theorem J_iald (O : Jo X g cc nL own Ts R0 ret) {a n : Nat} {f : Nat → Int32} {cA : ClassId} (q0 t0 : Nat) (he : ws[q0]? = some (a, .inl (cA, n, .inl f))) (ht : (Kt g.2.2.1 g.2.2.2.1 g.2.2.2.2)[t0]? = some (cA, .int)) {i : Int32} (hi : ix i n = true) (d : decode cc pc = .ok (.iaload, 1)) (k : J X nL Q ws cells slots (pc + 1) lv (.int (f i.toNatClampNeg) :: st)) : J X nL Q ws cells slots pc lv (.int i :: .ref a :: st) := by
  obtain ⟨p, l, e, R, s, m, args, below, meth, c, D, A, cB, cI, cJ⟩ := X
  obtain ⟨hx, hb, hml, hown, hts, hA, hK, hlk, hrt, hR, hg⟩ := O; subst hg
  intro H locs ls hP hD hS hl
  exact va_iald hx hb hK hP q0 t0 he ht (ix_in hi) d (k H locs ls hP hD hS hl)
theorem J_bald (O : Jo X g cc nL own Ts R0 ret) {a n : Nat} {f : Nat → Int8} {cA : ClassId} (q0 t0 : Nat) (he : ws[q0]? = some (a, .inl (cA, n, .inl (b8 f)))) (ht : (Kt g.2.2.1 g.2.2.2.1 g.2.2.2.2)[t0]? = some (cA, .byte)) {i : Int32} (hi : ix i n = true) (d : decode cc pc = .ok (.baload, 1)) (k : J X nL Q ws cells slots (pc + 1) lv (.int (f i.toNatClampNeg).toInt32 :: st)) : J X nL Q ws cells slots pc lv (.int i :: .ref a :: st) := by
  obtain ⟨p, l, e, R, s, m, args, below, meth, c, D, A, cB, cI, cJ⟩ := X
  obtain ⟨hx, hb, hml, hown, hts, hA, hK, hlk, hrt, hR, hg⟩ := O; subst hg
  intro H locs ls hP hD hS hl
  exact va_bald hx hb hK hP q0 t0 he ht (ix_in hi) d (k H locs ls hP hD hS hl)
theorem J_lald (O : Jo X g cc nL own Ts R0 ret) {a n : Nat} {f : Nat → Int64} {cA : ClassId} (q0 t0 : Nat) (he : ws[q0]? = some (a, .inl (cA, n, .inr (.inl f)))) (ht : (Kt g.2.2.1 g.2.2.2.1 g.2.2.2.2)[t0]? = some (cA, .long)) {i : Int32} (hi : ix i n = true) (d : decode cc pc = .ok (.laload, 1)) (k : J X nL Q ws cells slots (pc + 1) lv (.long (f i.toNatClampNeg) :: st)) : J X nL Q ws cells slots pc lv (.int i :: .ref a :: st) := by
  obtain ⟨p, l, e, R, s, m, args, below, meth, c, D, A, cB, cI, cJ⟩ := X
  obtain ⟨hx, hb, hml, hown, hts, hA, hK, hlk, hrt, hR, hg⟩ := O; subst hg
  intro H locs ls hP hD hS hl
  exact va_lald hx hb hK hP q0 t0 he ht (ix_in hi) d (k H locs ls hP hD hS hl)
theorem J_iast (O : Jo X g cc nL own Ts R0 ret) {a n : Nat} {f : Nat → Int32} {cA : ClassId} (q0 t0 : Nat) (he : ws[q0]? = some (a, .inl (cA, n, .inl f))) (ht : (Kt g.2.2.1 g.2.2.2.1 g.2.2.2.2)[t0]? = some (cA, .int)) {i x : Int32} (hi : ix i n = true) (ws' : va_W) (hw : ws.set q0 (a, .inl (cA, n, .inl (upd f i.toNatClampNeg x))) = ws') (d : decode cc pc = .ok (.iastore, 1)) (k : J X nL Q ws' cells slots (pc + 1) lv st) : J X nL Q ws cells slots pc lv (.int x :: .int i :: .ref a :: st) := by
  obtain ⟨p, l, e, R, s, m, args, below, meth, c, D, A, cB, cI, cJ⟩ := X
  obtain ⟨hx, hb, hml, hown, hts, hA, hK, hlk, hrt, hR, hg⟩ := O; subst hg
  intro H locs ls hP hD hS hl
  subst hw
  exact va_iast hx hb hK hP hD hS q0 t0 he ht (ix_in hi) d (fun H1 locs1 hP1 hD1 hS1 => k H1 locs1 ls hP1 hD1 hS1 hl)
theorem J_last (O : Jo X g cc nL own Ts R0 ret) {a n : Nat} {f : Nat → Int64} {cA : ClassId} (q0 t0 : Nat) (he : ws[q0]? = some (a, .inl (cA, n, .inr (.inl f)))) (ht : (Kt g.2.2.1 g.2.2.2.1 g.2.2.2.2)[t0]? = some (cA, .long)) {i : Int32} {x : Int64} (hi : ix i n = true) (ws' : va_W) (hw : ws.set q0 (a, .inl (cA, n, .inr (.inl (vp_updL f i.toNatClampNeg x)))) = ws') (d : decode cc pc = .ok (.lastore, 1)) (k : J X nL Q ws' cells slots (pc + 1) lv st) : J X nL Q ws cells slots pc lv (.long x :: .int i :: .ref a :: st) := by
  obtain ⟨p, l, e, R, s, m, args, below, meth, c, D, A, cB, cI, cJ⟩ := X
  obtain ⟨hx, hb, hml, hown, hts, hA, hK, hlk, hrt, hR, hg⟩ := O; subst hg
  intro H locs ls hP hD hS hl
  subst hw
  exact va_last hx hb hK hP hD hS q0 t0 he ht (ix_in hi) d (fun H1 locs1 hP1 hD1 hS1 => k H1 locs1 ls hP1 hD1 hS1 hl)
theorem b8_up (f : Nat → Int8) (k : Nat) (x : Int32) : upd (b8 f) k (vp_nar .byte x) = b8 (up8 f k x.toInt8) := by
  funext j
  simp only [upd, b8, up8, vp_nar_byte]
  by_cases h : j = k
  · simp [h]
  · simp [h]
theorem b8_cpy (f g : Nat → Int8) (sp dp n : Nat) : va_cpy (b8 f) (b8 g) sp dp n = b8 (va_cpy f g sp dp n) := by
  funext j
  simp only [va_cpy, b8]
  split <;> rfl
theorem b8_fit (f : Nat → Int8) (k : Nat) : fits .byte (.int (b8 f k)) = true := by
  have h := pk_fb ((f k).toInt32)
  have e : (f k).toInt32.toInt8.toInt32 = (f k).toInt32 := by simp
  rw [e] at h
  exact h
theorem J_bast (O : Jo X g cc nL own Ts R0 ret) {a n : Nat} {f : Nat → Int8} {cA : ClassId} (q0 t0 : Nat) (he : ws[q0]? = some (a, .inl (cA, n, .inl (b8 f)))) (ht : (Kt g.2.2.1 g.2.2.2.1 g.2.2.2.2)[t0]? = some (cA, .byte)) {i x : Int32} (hi : ix i n = true) (ws' : va_W) (hw : ws.set q0 (a, .inl (cA, n, .inl (b8 (up8 f i.toNatClampNeg x.toInt8)))) = ws') (d : decode cc pc = .ok (.bastore, 1)) (k : J X nL Q ws' cells slots (pc + 1) lv st) : J X nL Q ws cells slots pc lv (.int x :: .int i :: .ref a :: st) := by
  obtain ⟨p, l, e, R, s, m, args, below, meth, c, D, A, cB, cI, cJ⟩ := X
  obtain ⟨hx, hb, hml, hown, hts, hA, hK, hlk, hrt, hR, hg⟩ := O; subst hg
  intro H locs ls hP hD hS hl
  subst hw
  refine va_bast hx hb hK hP hD hS q0 t0 he ht (ix_in hi) d (fun H1 locs1 hP1 hD1 hS1 => ?_)
  rw [b8_up] at hP1 hD1
  exact k H1 locs1 ls hP1 hD1 hS1 hl
theorem J_alen (O : Jo X g cc nL own Ts R0 ret) {a n : Nat} {z : (Nat → Int32) ⊕ (Nat → Int64) ⊕ (Nat → UInt32) ⊕ (Nat → UInt64) ⊕ (Nat → Option Nat)} {cA : ClassId} {ty : FieldType} (q0 t0 : Nat) (he : ws[q0]? = some (a, .inl (cA, n, z))) (ht : (Kt g.2.2.1 g.2.2.2.1 g.2.2.2.2)[t0]? = some (cA, ty)) (d : decode cc pc = .ok (.arraylength, 1)) (k : J X nL Q ws cells slots (pc + 1) lv (.int (nI n) :: st)) : J X nL Q ws cells slots pc lv (.ref a :: st) := by
  obtain ⟨p, l, e, R, s, m, args, below, meth, c, D, A, cB, cI, cJ⟩ := X
  obtain ⟨hx, hb, hml, hown, hts, hA, hK, hlk, hrt, hR, hg⟩ := O; subst hg
  intro H locs ls hP hD hS hl
  exact va_alen hx hb hK hP q0 t0 he ht rfl d (k H locs ls hP hD hS hl)
theorem J_copy (O : Jo X g cc nL own Ts R0 ret) {a0 a n0 n1 : Nat} {f f1 : Nat → Int8} {c0 c1 : ClassId} (q0 q1 : Nat) (he0 : ws[q0]? = some (a0, .inl (c0, n0, .inl (b8 f)))) (he1 : ws[q1]? = some (a, .inl (c1, n1, .inl (b8 f1)))) (ht0 : (Kt g.2.2.1 g.2.2.2.1 g.2.2.2.2)[0]? = some (c0, .byte)) (ht1 : (Kt g.2.2.1 g.2.2.2.1 g.2.2.2.2)[0]? = some (c1, .byte)) {sp dp n : Int32} (h1 : ¬ sp < 0) (h2 : ¬ dp < 0) (h3 : ¬ n < 0) (h4 : sp.toNatClampNeg + n.toNatClampNeg ≤ n0) (h5 : dp.toNatClampNeg + n.toNatClampNeg ≤ n1) {idx : Nat} (hm : Cond.methodLink own idx arraycopyName ∈ Ts) (hm1 : Cond.native arraycopyName ∈ Ts) (hm2 : Cond.static arraycopyName ∈ Ts) (hm3 : Cond.initialized "java/lang/System" ∈ Ts) (hfr : 1 ≤ R0.frames) (hlo : (st.map fun v => v.category).sum + (nativeFrameWords "java/lang/System" "arraycopy" 5 + 11) ≤ R0.locals) (ws' : va_W) (hw : ws.set q1 (a, .inl (c1, n1, .inl (b8 (va_cpy f f1 sp.toNatClampNeg dp.toNatClampNeg n.toNatClampNeg)))) = ws') (d : decode cc pc = .ok (.invokestatic idx, 3)) (k : J X nL Q ws' cells slots (pc + 3) lv st) : J X nL Q ws cells slots pc lv (.int n :: .int dp :: .ref a :: .int sp :: .ref a0 :: st) := by
  obtain ⟨p, l, e, R, s, m, args, below, meth, c, D, A, cB, cI, cJ⟩ := X
  obtain ⟨hx, hb, hml, hown, hts, hA, hK, hlk, hrt, hR, hg⟩ := O; subst hg
  intro H locs ls hP hD hS hl
  subst hw
  subst hR
  refine va_copyi hx hb (hml.trans hl.1.symm) hown (hts _ hm) (hts _ hm1) (hts _ hm2) (hts _ hm3) hK hP hD hS q0 q1 0 0 he0 he1 ht0 ht1 rfl h1 h2 h3 h4 h5 (fun i _ => b8_fit f _) hfr hlo d (fun H1 locs1 hP1 hD1 hS1 => ?_)
  rw [b8_cpy] at hP1 hD1
  exact k H1 locs1 ls hP1 hD1 hS1 hl
theorem J_mmax (O : Jo X g cc nL own Ts R0 ret) {x y : Int32} {idx : Nat} (hm : Cond.methodLink own idx Lib.Math.max.name ∈ Ts) (hm1 : Cond.static Lib.Math.max.name ∈ Ts) (hm2 : Cond.initialized "java/lang/Math" ∈ Ts) (hm3 : Cond.code Lib.Math.max.name Lib.Math.max.code 2 (some .int) ∈ Ts) (hfr : 1 ≤ R0.frames) (hlo : (st.map fun v => v.category).sum + 13 ≤ R0.locals) (hc : cells ≤ R0.cells) (hs : slots ≤ R0.slots) (d : decode cc pc = .ok (.invokestatic idx, 3)) (k : J X nL Q ws cells slots (pc + 3) lv (.int (if x < y then y else x) :: st)) : J X nL Q ws cells slots pc lv (.int y :: .int x :: st) := by
  obtain ⟨p, l, e, R, s, m, args, below, meth, c, D, A, cB, cI, cJ⟩ := X
  obtain ⟨hx, hb, hml, hown, hts, hA, hK, hlk, hrt, hR, hg⟩ := O; subst hg
  intro H locs ls hP hD hS hl
  subst hR
  exact va_mmax hx hb (hml.trans hl.1.symm) hown (hts _ hm) (hts _ hm1) (hts _ hm2) (hts _ hm3) hfr hlo hc hs d (k H locs ls hP hD hS hl)
theorem J_objInit (O : Jo X g cc nL own Ts R0 ret) {a idx : Nat} (hm : Cond.methodLink own idx objectInit ∈ Ts) (hm1 : Cond.instanceMethod objectInit ∈ Ts) (hm2 : Cond.code objectInit ⟨#[0xb1]⟩ 1 none ∈ Ts) (hfr : 1 ≤ R0.frames) (hlo : (st.map fun v => v.category).sum + 12 ≤ R0.locals) (d : decode cc pc = .ok (.invokespecial idx, 3)) (k : J X nL Q ws cells slots (pc + 3) lv st) : J X nL Q ws cells slots pc lv (.ref a :: st) := by
  obtain ⟨p, l, e, R, s, m, args, below, meth, c, D, A, cB, cI, cJ⟩ := X
  obtain ⟨hx, hb, hml, hown, hts, hA, hK, hlk, hrt, hR, hg⟩ := O; subst hg
  intro H locs ls hP hD hS hl
  subst hR
  refine W.objInit hx hb hown (hts _ hm) (hts _ hm1) (hts _ hm2) rfl (by rw [hml]; exact hl.1) rfl d hfr (by show 2 * 0 + _ + 12 ≤ _; omega) ?_
  exact W.eq (g2 := F0 m (pc + 3) ls st) rfl (k H locs ls hP hD hS hl)
theorem J_new (O : Jo X g cc nL own Ts R0 ret) {C : String} {F : u_T} {N ci : Nat} (hin : ∀ w ∈ u_ws C F N, w ∈ Ts) (ty0 : Nat → FieldType) (hty : ∀ k, k < N → parseFieldDescriptor (F k).2.2.1 = some (ty0 k)) {idx : Nat} (hm : Cond.classLink own idx C ∈ Ts) (hm1 : Cond.instantiable C N ∈ Ts) (hm2 : Cond.initialized C ∈ Ts) (hc : vwCl[ci]? = some (C, F, N)) (fs : List Value) (hfs : ∀ j, j < N → defaultValue (ty0 j) = vp_V fs j) (hcs : cells + 1 ≤ R0.cells) (hss : slots + N ≤ R0.slots) (ws' : Nat → va_W) (hw : ∀ q : Nat, ws ++ [(q, .inr (ci, fs))] = ws' q) (c' s' : Nat) (hc1 : cells + 1 = c') (hs1 : slots + N = s') (d : decode cc pc = .ok (.new idx, 3)) (k : ∀ q : Nat, J X nL Q (ws' q) c' s' (pc + 3) lv (.ref q :: st)) : J X nL Q ws cells slots pc lv st := by
  obtain ⟨p, l, e, R, s, m, args, below, meth, c, D, A, cB, cI, cJ⟩ := X
  obtain ⟨hx, hb, hml, hown, hts, hA, hK, hlk, hrt, hR, hg⟩ := O; subst hg
  intro H locs ls hP hD hS hl
  subst hR
  exact va_new hx hb hts hin ty0 hty hown (hts _ hm) (hts _ hm1) (hts _ hm2) hK hP hD hS hA hc hfs hcs hss d (fun q H1 hP1 hD1 hS1 => by rw [hw q] at hP1 hD1; subst hc1; subst hs1; exact k q H1 locs ls hP1 hD1 hS1 hl)
theorem J_newI (O : Jo X g cc nL own Ts R0 ret) (N' : Nat) {n : Int32} (hm : Cond.arrayClass .int ∈ Ts) (hn : ¬ n < 0) (hN : n.toNatClampNeg = N') (hby : N' * componentBytes .int ≤ 536870912) (hcs : cells + 1 ≤ R0.cells) (hss : slots + N' ≤ R0.slots) (d : decode cc pc = .ok (.newarray .int, 2)) (ws' : Nat → va_W) (hw : ∀ q : Nat, ws ++ [(q, .inl (g.2.2.2.1, N', .inl (fun _ => 0)))] = ws' q) (c' s' : Nat) (hc1 : cells + 1 = c') (hs1 : slots + N' = s') (k : ∀ q : Nat, J X nL Q (ws' q) c' s' (pc + 2) lv (.ref q :: st)) : J X nL Q ws cells slots pc lv (.int n :: st) := by
  obtain ⟨p, l, e, R, s, m, args, below, meth, c, D, A, cB, cI, cJ⟩ := X
  obtain ⟨hx, hb, hml, hown, hts, hA, hK, hlk, hrt, hR, hg⟩ := O; subst hg
  intro H locs ls hP hD hS hl
  subst hR
  have hKt := hK.2 1 _ rfl
  refine va_newa (atype := .int) hx hb (hts _ hm) rfl hK hP hD hS hA (N' := N') (a0 := (N', .inl (fun _ => 0))) (fun cA => by first | rfl | (show arrV _ _ _ = _; congr)) hn hN hby hcs hss d (fun q cA H1 hK1 hP1 hD1 hS1 => ?_)
  have h9 : va_RA s cA .int := (hK1.2 3 _ rfl).2
  have h8 := hKt.2
  have h7 : some cA = some _ := h9.symm.trans h8
  have h6 := Option.some.inj h7
  subst h6
  rw [show ws ++ [(q, _)] = ws' q from hw q] at hP1 hD1
  subst hc1; subst hs1
  exact k q H1 locs ls hP1 hD1 hS1 hl
theorem J_newJ (O : Jo X g cc nL own Ts R0 ret) (N' : Nat) {n : Int32} (hm : Cond.arrayClass .long ∈ Ts) (hn : ¬ n < 0) (hN : n.toNatClampNeg = N') (hby : N' * componentBytes .long ≤ 536870912) (hcs : cells + 1 ≤ R0.cells) (hss : slots + N' ≤ R0.slots) (d : decode cc pc = .ok (.newarray .long, 2)) (ws' : Nat → va_W) (hw : ∀ q : Nat, ws ++ [(q, .inl (g.2.2.2.2, N', .inr (.inl (fun _ => 0))))] = ws' q) (c' s' : Nat) (hc1 : cells + 1 = c') (hs1 : slots + N' = s') (k : ∀ q : Nat, J X nL Q (ws' q) c' s' (pc + 2) lv (.ref q :: st)) : J X nL Q ws cells slots pc lv (.int n :: st) := by
  obtain ⟨p, l, e, R, s, m, args, below, meth, c, D, A, cB, cI, cJ⟩ := X
  obtain ⟨hx, hb, hml, hown, hts, hA, hK, hlk, hrt, hR, hg⟩ := O; subst hg
  intro H locs ls hP hD hS hl
  subst hR
  have hKt := hK.2 2 _ rfl
  refine va_newa (atype := .long) hx hb (hts _ hm) rfl hK hP hD hS hA (N' := N') (a0 := (N', .inr (.inl (fun _ => 0)))) (fun cA => by first | rfl | (show arrV _ _ _ = _; congr)) hn hN hby hcs hss d (fun q cA H1 hK1 hP1 hD1 hS1 => ?_)
  have h9 : va_RA s cA .long := (hK1.2 3 _ rfl).2
  have h8 := hKt.2
  have h7 : some cA = some _ := h9.symm.trans h8
  have h6 := Option.some.inj h7
  subst h6
  rw [show ws ++ [(q, _)] = ws' q from hw q] at hP1 hD1
  subst hc1; subst hs1
  exact k q H1 locs ls hP1 hD1 hS1 hl
theorem J_newB (O : Jo X g cc nL own Ts R0 ret) (N' : Nat) {n : Int32} (hm : Cond.arrayClass .byte ∈ Ts) (hn : ¬ n < 0) (hN : n.toNatClampNeg = N') (hby : N' * componentBytes .byte ≤ 536870912) (hcs : cells + 1 ≤ R0.cells) (hss : slots + N' ≤ R0.slots) (d : decode cc pc = .ok (.newarray .byte, 2)) (ws' : Nat → va_W) (hw : ∀ q : Nat, ws ++ [(q, .inl (g.2.2.1, N', .inl (b8 (fun _ => 0))))] = ws' q) (c' s' : Nat) (hc1 : cells + 1 = c') (hs1 : slots + N' = s') (k : ∀ q : Nat, J X nL Q (ws' q) c' s' (pc + 2) lv (.ref q :: st)) : J X nL Q ws cells slots pc lv (.int n :: st) := by
  obtain ⟨p, l, e, R, s, m, args, below, meth, c, D, A, cB, cI, cJ⟩ := X
  obtain ⟨hx, hb, hml, hown, hts, hA, hK, hlk, hrt, hR, hg⟩ := O; subst hg
  intro H locs ls hP hD hS hl
  subst hR
  have hKt := hK.2 0 _ rfl
  refine va_newa (atype := .byte) hx hb (hts _ hm) rfl hK hP hD hS hA (N' := N') (a0 := (N', .inl (b8 (fun _ => 0)))) (fun cA => by first | rfl | (show arrV _ _ _ = _; congr)) hn hN hby hcs hss d (fun q cA H1 hK1 hP1 hD1 hS1 => ?_)
  have h9 : va_RA s cA .byte := (hK1.2 3 _ rfl).2
  have h8 := hKt.2
  have h7 : some cA = some _ := h9.symm.trans h8
  have h6 := Option.some.inj h7
  subst h6
  rw [show ws ++ [(q, _)] = ws' q from hw q] at hP1 hD1
  subst hc1; subst hs1
  exact k q H1 locs ls hP1 hD1 hS1 hl
theorem J_lif_eq (O : Jo X g cc nL own Ts R0 ret) {x y : Int64} {off : Int} {tgt : Nat} (d : decode cc pc = .ok (.lcmp, 1)) (d2 : decode cc (pc + 1) = .ok (.ifCond .eq off, 3)) (ht : ((pc + 1 : Nat) : Int) + off = (tgt : Int)) (kt : x = y → J X nL Q ws cells slots tgt lv st) (kf : ¬ x = y → J X nL Q ws cells slots (pc + 4) lv st) : J X nL Q ws cells slots pc lv (.long y :: .long x :: st) := by
  refine J_lcmp O d ?_
  refine J_if_eq O d2 ht (fun h => kt ((lc_eq x y).mp h)) (fun h => kf (by
    first | exact (lc_eq x y).mp h | exact fun q => h ((lc_eq x y).mpr q)))
theorem J_lif_ne (O : Jo X g cc nL own Ts R0 ret) {x y : Int64} {off : Int} {tgt : Nat} (d : decode cc pc = .ok (.lcmp, 1)) (d2 : decode cc (pc + 1) = .ok (.ifCond .ne off, 3)) (ht : ((pc + 1 : Nat) : Int) + off = (tgt : Int)) (kt : ¬ x = y → J X nL Q ws cells slots tgt lv st) (kf : x = y → J X nL Q ws cells slots (pc + 4) lv st) : J X nL Q ws cells slots pc lv (.long y :: .long x :: st) := by
  refine J_lcmp O d ?_
  refine J_if_ne O d2 ht (fun h => kt ((lc_ne x y).mp h)) (fun h => kf (by
    first | exact (lc_eq x y).mp h | exact fun q => h ((lc_ne x y).mpr q)))
theorem J_lif_lt (O : Jo X g cc nL own Ts R0 ret) {x y : Int64} {off : Int} {tgt : Nat} (d : decode cc pc = .ok (.lcmp, 1)) (d2 : decode cc (pc + 1) = .ok (.ifCond .lt off, 3)) (ht : ((pc + 1 : Nat) : Int) + off = (tgt : Int)) (kt : x < y → J X nL Q ws cells slots tgt lv st) (kf : ¬ x < y → J X nL Q ws cells slots (pc + 4) lv st) : J X nL Q ws cells slots pc lv (.long y :: .long x :: st) := by
  refine J_lcmp O d ?_
  refine J_if_lt O d2 ht (fun h => kt ((lc_lt x y).mp h)) (fun h => kf (by
    first | exact (lc_eq x y).mp h | exact fun q => h ((lc_lt x y).mpr q)))
theorem J_lif_ge (O : Jo X g cc nL own Ts R0 ret) {x y : Int64} {off : Int} {tgt : Nat} (d : decode cc pc = .ok (.lcmp, 1)) (d2 : decode cc (pc + 1) = .ok (.ifCond .ge off, 3)) (ht : ((pc + 1 : Nat) : Int) + off = (tgt : Int)) (kt : y ≤ x → J X nL Q ws cells slots tgt lv st) (kf : ¬ y ≤ x → J X nL Q ws cells slots (pc + 4) lv st) : J X nL Q ws cells slots pc lv (.long y :: .long x :: st) := by
  refine J_lcmp O d ?_
  refine J_if_ge O d2 ht (fun h => kt ((lc_ge x y).mp h)) (fun h => kf (by
    first | exact (lc_eq x y).mp h | exact fun q => h ((lc_ge x y).mpr q)))
theorem J_lif_gt (O : Jo X g cc nL own Ts R0 ret) {x y : Int64} {off : Int} {tgt : Nat} (d : decode cc pc = .ok (.lcmp, 1)) (d2 : decode cc (pc + 1) = .ok (.ifCond .gt off, 3)) (ht : ((pc + 1 : Nat) : Int) + off = (tgt : Int)) (kt : y < x → J X nL Q ws cells slots tgt lv st) (kf : ¬ y < x → J X nL Q ws cells slots (pc + 4) lv st) : J X nL Q ws cells slots pc lv (.long y :: .long x :: st) := by
  refine J_lcmp O d ?_
  refine J_if_gt O d2 ht (fun h => kt ((lc_gt x y).mp h)) (fun h => kf (by
    first | exact (lc_eq x y).mp h | exact fun q => h ((lc_gt x y).mpr q)))
theorem J_lif_le (O : Jo X g cc nL own Ts R0 ret) {x y : Int64} {off : Int} {tgt : Nat} (d : decode cc pc = .ok (.lcmp, 1)) (d2 : decode cc (pc + 1) = .ok (.ifCond .le off, 3)) (ht : ((pc + 1 : Nat) : Int) + off = (tgt : Int)) (kt : x ≤ y → J X nL Q ws cells slots tgt lv st) (kf : ¬ x ≤ y → J X nL Q ws cells slots (pc + 4) lv st) : J X nL Q ws cells slots pc lv (.long y :: .long x :: st) := by
  refine J_lcmp O d ?_
  refine J_if_le O d2 ht (fun h => kt ((lc_le x y).mp h)) (fun h => kf (by
    first | exact (lc_eq x y).mp h | exact fun q => h ((lc_le x y).mpr q)))
theorem J_zne (O : Jo X g cc nL own Ts R0 ret) {b : Bool} {off : Int} {tgt : Nat} (d : decode cc pc = .ok (.ifCond .ne off, 3)) (ht : (pc : Int) + off = (tgt : Int)) (kt : b = true → J X nL Q ws cells slots tgt lv st) (kf : ¬ b = true → J X nL Q ws cells slots (pc + 3) lv st) : J X nL Q ws cells slots pc lv (.int (bI b) :: st) :=
  J_if_ne O d ht (fun h => kt (by cases b; exact absurd rfl h; rfl)) (fun h => kf (by cases b; exact (fun q => by cases q); exact absurd h (by decide)))
theorem J_zeq (O : Jo X g cc nL own Ts R0 ret) {b : Bool} {off : Int} {tgt : Nat} (d : decode cc pc = .ok (.ifCond .eq off, 3)) (ht : (pc : Int) + off = (tgt : Int)) (kt : ¬ b = true → J X nL Q ws cells slots tgt lv st) (kf : b = true → J X nL Q ws cells slots (pc + 3) lv st) : J X nL Q ws cells slots pc lv (.int (bI b) :: st) :=
  J_if_eq O d ht (fun h => kt (by cases b; exact (fun q => by cases q); exact absurd h (by decide))) (fun h => kf (by cases b; exact absurd rfl h; rfl))
theorem tb_out {x : Int32} (N : Nat) (h : ∀ j : Nat, j < N → ¬ x = nI j) (hN : N < 2 ^ 31) : x.toInt < 0 ∨ (N : Int) - 1 < x.toInt := by
  by_cases h0 : x < 0
  · left
    have := Int32.lt_iff_toInt_lt.mp h0
    simpa using this
  · right
    obtain ⟨j, hj, rfl⟩ := nI_of h0
    rw [nI_toInt hj]
    by_cases hjN : j < N
    · exact absurd rfl (h j hjN)
    · omega
theorem J_tabOut (O : Jo X g cc nL own Ts R0 ret) {dflt hi : Int} {offs : Array Int} {len : Nat} {x : Int32} {tgt : Nat} (N : Nat) (h : ∀ j : Nat, j < N → ¬ x = nI j) (hN : N < 2 ^ 31) (hhi : (N : Int) - 1 = hi) (d : decode cc pc = .ok (.tableswitch dflt 0 hi offs, len)) (ht : (pc : Int) + dflt = (tgt : Int)) (k : J X nL Q ws cells slots tgt lv st) : J X nL Q ws cells slots pc lv (.int x :: st) := by
  subst hhi
  exact J_tableOut O d (tb_out N h hN) ht k
theorem J_tabK (O : Jo X g cc nL own Ts R0 ret) {dflt lo hi : Int} {offs : Array Int} {len : Nat} {x : Int32} {off : Int} {tgt : Nat} (k0 : Int32) (hx0 : x = k0) (h1 : ¬ k0.toInt < lo) (h2 : ¬ hi < k0.toInt) (ho : offs[(k0.toInt - lo).toNat]? = some off) (d : decode cc pc = .ok (.tableswitch dflt lo hi offs, len)) (ht : (pc : Int) + off = (tgt : Int)) (k : J X nL Q ws cells slots tgt lv st) : J X nL Q ws cells slots pc lv (.int x :: st) := by
  subst hx0
  exact J_tableIn O d h1 h2 ho ht k
theorem J_lookK (O : Jo X g cc nL own Ts R0 ret) {dflt : Int} {ps : Array (Int × Int)} {len : Nat} {x : Int32} {off : Int} {tgt : Nat} (k0 : Int32) (hx0 : x = k0) (d : decode cc pc = .ok (.lookupswitch dflt ps, len)) (hp : (ps.toList.zip (ps.toList.drop 1)).all (fun (a, next) => a.1 < next.1) = true) (ho : Op.lookupswitch.offset ps.toList dflt k0.toInt = off) (ht : (pc : Int) + off = (tgt : Int)) (k : J X nL Q ws cells slots tgt lv st) : J X nL Q ws cells slots pc lv (.int x :: st) := by
  subst hx0
  exact J_lookup O d hp ho ht k
end JR
