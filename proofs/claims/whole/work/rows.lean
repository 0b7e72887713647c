section
-- ===== PART A: goes FIRST, ahead of the names: the tables' words, and 'selects' of the private methods out of them =====
/-- a private method of a class that the tables say can be made, by its rows of tables_1 -/
def lw_okq (q : MethodName × Nat) : Prop := (q.1.cls ≠ "java/lang/invoke/MethodHandle" ∧ q.1.cls ≠ "java/lang/invoke/VarHandle") ∧ Cond.instantiable q.1.cls q.2 ∈ tables_1 ∧ Cond.privateMethod q.1 ∈ tables_1 ∧ Cond.instanceMethod q.1 ∈ tables_1
theorem lw_p0 : lw_okq (⟨"BlorbRows$Judge", "faultOfHead", "(LBlorbRows$Part;)I"⟩, 3) := ⟨⟨by decide +kernel, by decide +kernel⟩, List.mem_of_getElem? (i := 85) (by decide +kernel), List.mem_of_getElem? (i := 178) (by decide +kernel), List.mem_of_getElem? (i := 179) (by decide +kernel)⟩
theorem lw_p1 : lw_okq (⟨"BlorbRows$Judge", "fail", "(II)I"⟩, 3) := ⟨⟨by decide +kernel, by decide +kernel⟩, List.mem_of_getElem? (i := 85) (by decide +kernel), List.mem_of_getElem? (i := 182) (by decide +kernel), List.mem_of_getElem? (i := 183) (by decide +kernel)⟩
theorem lw_p2 : lw_okq (⟨"BlorbRows$Part", "number", "(II)J"⟩, 3) := ⟨⟨by decide +kernel, by decide +kernel⟩, List.mem_of_getElem? (i := 147) (by decide +kernel), List.mem_of_getElem? (i := 190) (by decide +kernel), List.mem_of_getElem? (i := 191) (by decide +kernel)⟩
theorem lw_p3 : lw_okq (⟨"BlorbRows$Judge", "faultOfPieces", "(LBlorbRows$Part;)I"⟩, 3) := ⟨⟨by decide +kernel, by decide +kernel⟩, List.mem_of_getElem? (i := 85) (by decide +kernel), List.mem_of_getElem? (i := 201) (by decide +kernel), List.mem_of_getElem? (i := 202) (by decide +kernel)⟩
theorem lw_p4 : lw_okq (⟨"BlorbRows$Judge", "faultOfPiece", "(LBlorbRows$Part;I)I"⟩, 3) := ⟨⟨by decide +kernel, by decide +kernel⟩, List.mem_of_getElem? (i := 85) (by decide +kernel), List.mem_of_getElem? (i := 205) (by decide +kernel), List.mem_of_getElem? (i := 206) (by decide +kernel)⟩
theorem lw_p5 : lw_okq (⟨"BlorbRows$Judge", "behindPiece", "(LBlorbRows$Part;I)I"⟩, 3) := ⟨⟨by decide +kernel, by decide +kernel⟩, List.mem_of_getElem? (i := 85) (by decide +kernel), List.mem_of_getElem? (i := 221) (by decide +kernel), List.mem_of_getElem? (i := 222) (by decide +kernel)⟩
theorem lw_p6 : lw_okq (⟨"BlorbRows$Judge", "faultOfIndex", "(LBlorbRows$Part;)I"⟩, 3) := ⟨⟨by decide +kernel, by decide +kernel⟩, List.mem_of_getElem? (i := 85) (by decide +kernel), List.mem_of_getElem? (i := 225) (by decide +kernel), List.mem_of_getElem? (i := 226) (by decide +kernel)⟩
theorem lw_p7 : lw_okq (⟨"BlorbRows$Judge", "faultOfEntry", "(LBlorbRows$Part;I)I"⟩, 3) := ⟨⟨by decide +kernel, by decide +kernel⟩, List.mem_of_getElem? (i := 85) (by decide +kernel), List.mem_of_getElem? (i := 231) (by decide +kernel), List.mem_of_getElem? (i := 232) (by decide +kernel)⟩
theorem lw_p8 : lw_okq (⟨"BlorbRows$Judge", "pieceAt", "(J)I"⟩, 3) := ⟨⟨by decide +kernel, by decide +kernel⟩, List.mem_of_getElem? (i := 85) (by decide +kernel), List.mem_of_getElem? (i := 242) (by decide +kernel), List.mem_of_getElem? (i := 243) (by decide +kernel)⟩
theorem lw_p9 : lw_okq (⟨"BlorbRowsModel", "goOver", "()V"⟩, 18) := ⟨⟨by decide +kernel, by decide +kernel⟩, List.mem_of_getElem? (i := 592) (by decide +kernel), List.mem_of_getElem? (i := 670) (by decide +kernel), List.mem_of_getElem? (i := 671) (by decide +kernel)⟩
theorem lw_p10 : lw_okq (⟨"BlorbRowsModel", "stop", "(II)V"⟩, 18) := ⟨⟨by decide +kernel, by decide +kernel⟩, List.mem_of_getElem? (i := 592) (by decide +kernel), List.mem_of_getElem? (i := 674) (by decide +kernel), List.mem_of_getElem? (i := 675) (by decide +kernel)⟩
theorem lw_p11 : lw_okq (⟨"BlorbRowsModel", "piece", "(I)I"⟩, 18) := ⟨⟨by decide +kernel, by decide +kernel⟩, List.mem_of_getElem? (i := 592) (by decide +kernel), List.mem_of_getElem? (i := 687) (by decide +kernel), List.mem_of_getElem? (i := 688) (by decide +kernel)⟩
theorem lw_p12 : lw_okq (⟨"BlorbRowsModel", "entryOf", "(II)V"⟩, 18) := ⟨⟨by decide +kernel, by decide +kernel⟩, List.mem_of_getElem? (i := 592) (by decide +kernel), List.mem_of_getElem? (i := 700) (by decide +kernel), List.mem_of_getElem? (i := 701) (by decide +kernel)⟩
theorem lw_p13 : lw_okq (⟨"BlorbRowsModel", "take", "()V"⟩, 18) := ⟨⟨by decide +kernel, by decide +kernel⟩, List.mem_of_getElem? (i := 592) (by decide +kernel), List.mem_of_getElem? (i := 711) (by decide +kernel), List.mem_of_getElem? (i := 712) (by decide +kernel)⟩
theorem lw_p14 : lw_okq (⟨"BlorbRowsModel", "isChunk", "(I)Z"⟩, 18) := ⟨⟨by decide +kernel, by decide +kernel⟩, List.mem_of_getElem? (i := 592) (by decide +kernel), List.mem_of_getElem? (i := 727) (by decide +kernel), List.mem_of_getElem? (i := 728) (by decide +kernel)⟩
theorem lw_p15 : lw_okq (⟨"BlorbRowsModel", "placeOf", "(I)I"⟩, 18) := ⟨⟨by decide +kernel, by decide +kernel⟩, List.mem_of_getElem? (i := 592) (by decide +kernel), List.mem_of_getElem? (i := 732) (by decide +kernel), List.mem_of_getElem? (i := 733) (by decide +kernel)⟩
def lw_privs_1 : List (MethodName × Nat) := [(⟨"BlorbRows$Judge", "faultOfHead", "(LBlorbRows$Part;)I"⟩, 3), (⟨"BlorbRows$Judge", "fail", "(II)I"⟩, 3), (⟨"BlorbRows$Part", "number", "(II)J"⟩, 3), (⟨"BlorbRows$Judge", "faultOfPieces", "(LBlorbRows$Part;)I"⟩, 3), (⟨"BlorbRows$Judge", "faultOfPiece", "(LBlorbRows$Part;I)I"⟩, 3), (⟨"BlorbRows$Judge", "behindPiece", "(LBlorbRows$Part;I)I"⟩, 3), (⟨"BlorbRows$Judge", "faultOfIndex", "(LBlorbRows$Part;)I"⟩, 3), (⟨"BlorbRows$Judge", "faultOfEntry", "(LBlorbRows$Part;I)I"⟩, 3), (⟨"BlorbRows$Judge", "pieceAt", "(J)I"⟩, 3), (⟨"BlorbRowsModel", "goOver", "()V"⟩, 18), (⟨"BlorbRowsModel", "stop", "(II)V"⟩, 18), (⟨"BlorbRowsModel", "piece", "(I)I"⟩, 18), (⟨"BlorbRowsModel", "entryOf", "(II)V"⟩, 18), (⟨"BlorbRowsModel", "take", "()V"⟩, 18), (⟨"BlorbRowsModel", "isChunk", "(I)Z"⟩, 18), (⟨"BlorbRowsModel", "placeOf", "(I)I"⟩, 18)]
theorem lw_r1 : ∀ q ∈ lw_privs_1, lw_okq q := List.forall_mem_cons.mpr ⟨lw_p0, List.forall_mem_cons.mpr ⟨lw_p1, List.forall_mem_cons.mpr ⟨lw_p2, List.forall_mem_cons.mpr ⟨lw_p3, List.forall_mem_cons.mpr ⟨lw_p4, List.forall_mem_cons.mpr ⟨lw_p5, List.forall_mem_cons.mpr ⟨lw_p6, List.forall_mem_cons.mpr ⟨lw_p7, List.forall_mem_cons.mpr ⟨lw_p8, List.forall_mem_cons.mpr ⟨lw_p9, List.forall_mem_cons.mpr ⟨lw_p10, List.forall_mem_cons.mpr ⟨lw_p11, List.forall_mem_cons.mpr ⟨lw_p12, List.forall_mem_cons.mpr ⟨lw_p13, List.forall_mem_cons.mpr ⟨lw_p14, List.forall_mem_cons.mpr ⟨lw_p15, fun _ h => absurd h List.not_mem_nil⟩⟩⟩⟩⟩⟩⟩⟩⟩⟩⟩⟩⟩⟩⟩⟩
theorem lw_p16 : lw_okq (⟨"BlorbRowsModel", "meant", "(I)I"⟩, 18) := ⟨⟨by decide +kernel, by decide +kernel⟩, List.mem_of_getElem? (i := 592) (by decide +kernel), List.mem_of_getElem? (i := 736) (by decide +kernel), List.mem_of_getElem? (i := 737) (by decide +kernel)⟩
theorem lw_p17 : lw_okq (⟨"BlorbRowsModel", "fromOf", "(I)I"⟩, 18) := ⟨⟨by decide +kernel, by decide +kernel⟩, List.mem_of_getElem? (i := 592) (by decide +kernel), List.mem_of_getElem? (i := 744) (by decide +kernel), List.mem_of_getElem? (i := 745) (by decide +kernel)⟩
theorem lw_p18 : lw_okq (⟨"BlorbRowsModel", "goes", "(II)Z"⟩, 18) := ⟨⟨by decide +kernel, by decide +kernel⟩, List.mem_of_getElem? (i := 592) (by decide +kernel), List.mem_of_getElem? (i := 753) (by decide +kernel), List.mem_of_getElem? (i := 754) (by decide +kernel)⟩
theorem lw_p19 : lw_okq (⟨"BlorbRowsModel", "entryFor", "(IJ)I"⟩, 18) := ⟨⟨by decide +kernel, by decide +kernel⟩, List.mem_of_getElem? (i := 592) (by decide +kernel), List.mem_of_getElem? (i := 775) (by decide +kernel), List.mem_of_getElem? (i := 776) (by decide +kernel)⟩
theorem lw_p20 : lw_okq (⟨"BlorbRowsModel", "sizeOf", "(II)J"⟩, 18) := ⟨⟨by decide +kernel, by decide +kernel⟩, List.mem_of_getElem? (i := 592) (by decide +kernel), List.mem_of_getElem? (i := 783) (by decide +kernel), List.mem_of_getElem? (i := 784) (by decide +kernel)⟩
theorem lw_p21 : lw_okq (⟨"BlorbRowsModel", "isPng", "(II)Z"⟩, 18) := ⟨⟨by decide +kernel, by decide +kernel⟩, List.mem_of_getElem? (i := 592) (by decide +kernel), List.mem_of_getElem? (i := 788) (by decide +kernel), List.mem_of_getElem? (i := 789) (by decide +kernel)⟩
theorem lw_p22 : lw_okq (⟨"BlorbRowsModel", "jpeg", "(III)J"⟩, 18) := ⟨⟨by decide +kernel, by decide +kernel⟩, List.mem_of_getElem? (i := 592) (by decide +kernel), List.mem_of_getElem? (i := 795) (by decide +kernel), List.mem_of_getElem? (i := 796) (by decide +kernel)⟩
theorem lw_p23 : lw_okq (⟨"BlorbRowsModel", "commOf", "(I)I"⟩, 18) := ⟨⟨by decide +kernel, by decide +kernel⟩, List.mem_of_getElem? (i := 592) (by decide +kernel), List.mem_of_getElem? (i := 810) (by decide +kernel), List.mem_of_getElem? (i := 811) (by decide +kernel)⟩
theorem lw_p24 : lw_okq (⟨"BlorbRowsModel", "first", "(II)I"⟩, 18) := ⟨⟨by decide +kernel, by decide +kernel⟩, List.mem_of_getElem? (i := 592) (by decide +kernel), List.mem_of_getElem? (i := 821) (by decide +kernel), List.mem_of_getElem? (i := 822) (by decide +kernel)⟩
theorem lw_p25 : lw_okq (⟨"BlorbRowsModel", "ratiosOf", "(J)I"⟩, 18) := ⟨⟨by decide +kernel, by decide +kernel⟩, List.mem_of_getElem? (i := 592) (by decide +kernel), List.mem_of_getElem? (i := 840) (by decide +kernel), List.mem_of_getElem? (i := 841) (by decide +kernel)⟩
theorem lw_p26 : lw_okq (⟨"BlorbRowsModel", "replace", "(IZ)V"⟩, 18) := ⟨⟨by decide +kernel, by decide +kernel⟩, List.mem_of_getElem? (i := 592) (by decide +kernel), List.mem_of_getElem? (i := 849) (by decide +kernel), List.mem_of_getElem? (i := 850) (by decide +kernel)⟩
theorem lw_p27 : lw_okq (⟨"BlorbRowsModel", "goesAway", "(I)I"⟩, 18) := ⟨⟨by decide +kernel, by decide +kernel⟩, List.mem_of_getElem? (i := 592) (by decide +kernel), List.mem_of_getElem? (i := 865) (by decide +kernel), List.mem_of_getElem? (i := 866) (by decide +kernel)⟩
theorem lw_p28 : lw_okq (⟨"BlorbRowsModel", "put", "(JI)V"⟩, 18) := ⟨⟨by decide +kernel, by decide +kernel⟩, List.mem_of_getElem? (i := 592) (by decide +kernel), List.mem_of_getElem? (i := 878) (by decide +kernel), List.mem_of_getElem? (i := 879) (by decide +kernel)⟩
def lw_privs_2 : List (MethodName × Nat) := [(⟨"BlorbRowsModel", "meant", "(I)I"⟩, 18), (⟨"BlorbRowsModel", "fromOf", "(I)I"⟩, 18), (⟨"BlorbRowsModel", "goes", "(II)Z"⟩, 18), (⟨"BlorbRowsModel", "entryFor", "(IJ)I"⟩, 18), (⟨"BlorbRowsModel", "sizeOf", "(II)J"⟩, 18), (⟨"BlorbRowsModel", "isPng", "(II)Z"⟩, 18), (⟨"BlorbRowsModel", "jpeg", "(III)J"⟩, 18), (⟨"BlorbRowsModel", "commOf", "(I)I"⟩, 18), (⟨"BlorbRowsModel", "first", "(II)I"⟩, 18), (⟨"BlorbRowsModel", "ratiosOf", "(J)I"⟩, 18), (⟨"BlorbRowsModel", "replace", "(IZ)V"⟩, 18), (⟨"BlorbRowsModel", "goesAway", "(I)I"⟩, 18), (⟨"BlorbRowsModel", "put", "(JI)V"⟩, 18)]
theorem lw_r2 : ∀ q ∈ lw_privs_2, lw_okq q := List.forall_mem_cons.mpr ⟨lw_p16, List.forall_mem_cons.mpr ⟨lw_p17, List.forall_mem_cons.mpr ⟨lw_p18, List.forall_mem_cons.mpr ⟨lw_p19, List.forall_mem_cons.mpr ⟨lw_p20, List.forall_mem_cons.mpr ⟨lw_p21, List.forall_mem_cons.mpr ⟨lw_p22, List.forall_mem_cons.mpr ⟨lw_p23, List.forall_mem_cons.mpr ⟨lw_p24, List.forall_mem_cons.mpr ⟨lw_p25, List.forall_mem_cons.mpr ⟨lw_p26, List.forall_mem_cons.mpr ⟨lw_p27, List.forall_mem_cons.mpr ⟨lw_p28, fun _ h => absurd h List.not_mem_nil⟩⟩⟩⟩⟩⟩⟩⟩⟩⟩⟩⟩⟩
def lw_privs : List (MethodName × Nat) := lw_privs_1 ++ (lw_privs_2)
def lw_tbl : List Cond := k2_sels lw_privs ++ tables_1
theorem lw_privs_ok : ∀ q ∈ lw_privs, lw_okq q := by
  show ∀ q ∈ lw_privs_1 ++ (lw_privs_2), lw_okq q
  exact List.forall_mem_append.mpr ⟨lw_r1, lw_r2⟩
-- ===== end of PART A; then your names; then what follows =====
end
section
/-! ===== BEGIN words of one list among another's, by their places ===== -/
theorem goodIn_r {big : List Cond} (ws : List Cond) (ps : List Nat) (hp : ws = ps.filterMap (fun i => big[i]?)) (h : ws.all goodWord = true) : GoodIn big ws := by
  intro w hw
  have h1 := List.all_eq_true.mp h w hw
  rw [hp] at hw
  obtain ⟨i, -, hi⟩ := List.mem_filterMap.mp hw
  have hm : w ∈ big := by first | exact List.mem_of_getElem? hi | exact List.getElem?_mem hi
  exact ⟨hm, good_of_word h1⟩
theorem goodIn_app {big a b : List Cond} (ha : GoodIn big a) (hb : GoodIn big b) : GoodIn big (a ++ b) := fun w h => (List.mem_append.mp h).elim (ha w) (hb w)
theorem goodIn_ca {big a b : List Cond} {c : Cond} (ha : GoodIn big (c :: a)) (hb : GoodIn big b) : GoodIn big (c :: (a ++ b)) := fun w h => (List.mem_cons.mp h).elim (fun e => ha w (List.mem_cons.mpr (Or.inl e))) (fun h => (List.mem_append.mp h).elim (fun h => ha w (List.mem_cons.mpr (Or.inr h))) (hb w))
theorem goodIn_sub {big ws : List Cond} (hm : ∀ w ∈ ws, w ∈ big) (h : ws.all goodWord = true) : GoodIn big ws := fun w hw => ⟨hm w hw, good_of_word (List.all_eq_true.mp h w hw)⟩
/-! ===== END ===== -/

/-! ===== BEGIN printed: names, fields, word lists, decode rows ===== -/
def RX0 : String := "BlorbRows$House"
def TX0 : u_T := fun k => match k with
  | 0 => ("BlorbRows$House", "data", "LBlorbRows$Row;", true)
  | 1 => ("BlorbRows$House", "kinds", "[I", true)
  | 2 => ("BlorbRows$House", "starts", "[I", true)
  | 3 => ("BlorbRows$House", "chunks", "I", false)
  | 4 => ("BlorbRows$House", "uses", "[I", true)
  | 5 => ("BlorbRows$House", "numbers", "[J", true)
  | 6 => ("BlorbRows$House", "targets", "[I", true)
  | _ => ("BlorbRows$House", "entries", "I", false)
def tyX0 : Nat → FieldType := fun k => match k with
  | 0 => .object "BlorbRows$Row"
  | 1 => .array .int
  | 2 => .array .int
  | 3 => .int
  | 4 => .array .int
  | 5 => .array .long
  | 6 => .array .int
  | _ => .int
abbrev wsX00 : List Cond := u_ws RX0 TX0 8
theorem nmX0 : ∀ a, a < 8 → ∀ b, b < 8 → a ≠ b → (TX0 a).2.1 ≠ (TX0 b).2.1 := by decide +kernel
theorem tyX0_ok : ∀ k, k < 8 → parseFieldDescriptor (TX0 k).2.2.1 = some (tyX0 k) := by decide +kernel
abbrev cX0_init : ByteArray := prog_2_method_1_code
def yX0_init : MethodName := ⟨RX0, "<init>", "()V"⟩
abbrev cX0_empty : ByteArray := prog_2_method_2_code
def yX0_empty : MethodName := ⟨RX0, "empty", "()V"⟩
abbrev cX0_hasChunk : ByteArray := prog_2_method_3_code
def yX0_hasChunk : MethodName := ⟨RX0, "hasChunk", "(I)Z"⟩
abbrev cX0_hasEntry : ByteArray := prog_2_method_4_code
def yX0_hasEntry : MethodName := ⟨RX0, "hasEntry", "(I)Z"⟩
abbrev cX0_hasChunkRoom : ByteArray := prog_2_method_5_code
def yX0_hasChunkRoom : MethodName := ⟨RX0, "hasChunkRoom", "(I)Z"⟩
abbrev cX0_kindOf : ByteArray := prog_2_method_6_code
def yX0_kindOf : MethodName := ⟨RX0, "kindOf", "(I)I"⟩
abbrev cX0_lengthOf : ByteArray := prog_2_method_7_code
def yX0_lengthOf : MethodName := ⟨RX0, "lengthOf", "(I)I"⟩
abbrev cX0_dataOf : ByteArray := prog_2_method_8_code
def yX0_dataOf : MethodName := ⟨RX0, "dataOf", "(I)LBlorbRows$Part;"⟩
abbrev cX0_placeOf : ByteArray := prog_2_method_9_code
def yX0_placeOf : MethodName := ⟨RX0, "placeOf", "(I)I"⟩
abbrev cX0_meaningsOf : ByteArray := prog_2_method_10_code
def yX0_meaningsOf : MethodName := ⟨RX0, "meaningsOf", "(I)I"⟩
abbrev cX0_goes : ByteArray := prog_2_method_11_code
def yX0_goes : MethodName := ⟨RX0, "goes", "(I)Z"⟩
abbrev cX0_entryOf : ByteArray := prog_2_method_12_code
def yX0_entryOf : MethodName := ⟨RX0, "entryOf", "(IJ)I"⟩
abbrev cX0_firstOf : ByteArray := prog_2_method_13_code
def yX0_firstOf : MethodName := ⟨RX0, "firstOf", "(I)I"⟩
abbrev cX0_firstWith : ByteArray := prog_2_method_14_code
def yX0_firstWith : MethodName := ⟨RX0, "firstWith", "(II)I"⟩
abbrev cX0_addChunk : ByteArray := prog_2_method_15_code
def yX0_addChunk : MethodName := ⟨RX0, "addChunk", "(ILBlorbRows$Part;)V"⟩
abbrev cX0_addEntry : ByteArray := prog_2_method_16_code
def yX0_addEntry : MethodName := ⟨RX0, "addEntry", "(IJI)V"⟩
abbrev cX0_setData : ByteArray := prog_2_method_17_code
def yX0_setData : MethodName := ⟨RX0, "setData", "(ILBlorbRows$Part;)V"⟩
abbrev cX0_takeChunk : ByteArray := prog_2_method_18_code
def yX0_takeChunk : MethodName := ⟨RX0, "takeChunk", "(I)V"⟩
abbrev cX0_takeEntry : ByteArray := prog_2_method_19_code
def yX0_takeEntry : MethodName := ⟨RX0, "takeEntry", "(I)V"⟩
abbrev cX0_writeTo : ByteArray := prog_2_method_20_code
def yX0_writeTo : MethodName := ⟨RX0, "writeTo", "(LBlorbRows$Row;)V"⟩
def RX1 : String := "BlorbRows$Judge"
def TX1 : u_T := fun k => match k with
  | 0 => ("BlorbRows$Judge", "places", "[I", true)
  | 1 => ("BlorbRows$Judge", "pieces", "I", false)
  | _ => ("BlorbRows$Judge", "faultAt", "I", false)
def tyX1 : Nat → FieldType := fun k => match k with
  | 0 => .array .int
  | 1 => .int
  | _ => .int
abbrev wsX10 : List Cond := u_ws RX1 TX1 3
theorem nmX1 : ∀ a, a < 3 → ∀ b, b < 3 → a ≠ b → (TX1 a).2.1 ≠ (TX1 b).2.1 := by decide +kernel
theorem tyX1_ok : ∀ k, k < 3 → parseFieldDescriptor (TX1 k).2.2.1 = some (tyX1 k) := by decide +kernel
abbrev cX1_init : ByteArray := prog_3_method_1_code
def yX1_init : MethodName := ⟨RX1, "<init>", "()V"⟩
abbrev cX1_faultOf : ByteArray := prog_3_method_2_code
def yX1_faultOf : MethodName := ⟨RX1, "faultOf", "(LBlorbRows$Part;)I"⟩
abbrev cX1_fail : ByteArray := prog_3_method_3_code
def yX1_fail : MethodName := ⟨RX1, "fail", "(II)I"⟩
abbrev cX1_faultOfHead : ByteArray := prog_3_method_4_code
def yX1_faultOfHead : MethodName := ⟨RX1, "faultOfHead", "(LBlorbRows$Part;)I"⟩
abbrev cX1_faultOfPieces : ByteArray := prog_3_method_5_code
def yX1_faultOfPieces : MethodName := ⟨RX1, "faultOfPieces", "(LBlorbRows$Part;)I"⟩
abbrev cX1_faultOfPiece : ByteArray := prog_3_method_6_code
def yX1_faultOfPiece : MethodName := ⟨RX1, "faultOfPiece", "(LBlorbRows$Part;I)I"⟩
abbrev cX1_behindPiece : ByteArray := prog_3_method_7_code
def yX1_behindPiece : MethodName := ⟨RX1, "behindPiece", "(LBlorbRows$Part;I)I"⟩
abbrev cX1_faultOfIndex : ByteArray := prog_3_method_8_code
def yX1_faultOfIndex : MethodName := ⟨RX1, "faultOfIndex", "(LBlorbRows$Part;)I"⟩
abbrev cX1_faultOfEntry : ByteArray := prog_3_method_9_code
def yX1_faultOfEntry : MethodName := ⟨RX1, "faultOfEntry", "(LBlorbRows$Part;I)I"⟩
abbrev cX1_pieceAt : ByteArray := prog_3_method_10_code
def yX1_pieceAt : MethodName := ⟨RX1, "pieceAt", "(J)I"⟩
abbrev cX1_moveInto : ByteArray := prog_3_method_11_code
def yX1_moveInto : MethodName := ⟨RX1, "moveInto", "(LBlorbRows$House;LBlorbRows$Part;)V"⟩
def RX2 : String := "BlorbRows$Kinds"
def TX2 : u_T := fun k => match k with
  | _ => ("", "", "", false)
def tyX2 : Nat → FieldType := fun k => match k with
  | _ => .int
abbrev wsX20 : List Cond := u_ws RX2 TX2 0
theorem nmX2 : ∀ a, a < 0 → ∀ b, b < 0 → a ≠ b → (TX2 a).2.1 ≠ (TX2 b).2.1 := by decide +kernel
theorem tyX2_ok : ∀ k, k < 0 → parseFieldDescriptor (TX2 k).2.2.1 = some (tyX2 k) := by decide +kernel
abbrev cX2_isKind : ByteArray := prog_4_method_2_code
def yX2_isKind : MethodName := ⟨RX2, "isKind", "(I)Z"⟩
abbrev cX2_isLetter : ByteArray := prog_4_method_3_code
def yX2_isLetter : MethodName := ⟨RX2, "isLetter", "(I)Z"⟩
abbrev cX2_isUse : ByteArray := prog_4_method_4_code
def yX2_isUse : MethodName := ⟨RX2, "isUse", "(I)Z"⟩
abbrev cX2_goTogether : ByteArray := prog_4_method_5_code
def yX2_goTogether : MethodName := ⟨RX2, "goTogether", "(IILBlorbRows$Part;)Z"⟩
def RX3 : String := "BlorbRows$Part"
def TX3 : u_T := fun k => match k with
  | 0 => ("BlorbRows$Part", "row", "LBlorbRows$Row;", true)
  | 1 => ("BlorbRows$Part", "from", "I", true)
  | _ => ("BlorbRows$Part", "length", "I", true)
def tyX3 : Nat → FieldType := fun k => match k with
  | 0 => .object "BlorbRows$Row"
  | 1 => .int
  | _ => .int
abbrev wsX30 : List Cond := u_ws RX3 TX3 3
theorem nmX3 : ∀ a, a < 3 → ∀ b, b < 3 → a ≠ b → (TX3 a).2.1 ≠ (TX3 b).2.1 := by decide +kernel
theorem tyX3_ok : ∀ k, k < 3 → parseFieldDescriptor (TX3 k).2.2.1 = some (tyX3 k) := by decide +kernel
abbrev cX3_init : ByteArray := prog_5_method_1_code
def yX3_init : MethodName := ⟨RX3, "<init>", "(LBlorbRows$Row;II)V"⟩
abbrev cX3_holds : ByteArray := prog_5_method_2_code
def yX3_holds : MethodName := ⟨RX3, "holds", "(II)Z"⟩
abbrev cX3_at : ByteArray := prog_5_method_3_code
def yX3_at : MethodName := ⟨RX3, "at", "(I)I"⟩
abbrev cX3_u2 : ByteArray := prog_5_method_4_code
def yX3_u2 : MethodName := ⟨RX3, "u2", "(I)I"⟩
abbrev cX3_u4 : ByteArray := prog_5_method_5_code
def yX3_u4 : MethodName := ⟨RX3, "u4", "(I)J"⟩
abbrev cX3_number : ByteArray := prog_5_method_6_code
def yX3_number : MethodName := ⟨RX3, "number", "(II)J"⟩
def RX4 : String := "BlorbRows$Pictures"
def TX4 : u_T := fun k => match k with
  | _ => ("", "", "", false)
def tyX4 : Nat → FieldType := fun k => match k with
  | _ => .int
abbrev wsX40 : List Cond := u_ws RX4 TX4 0
theorem nmX4 : ∀ a, a < 0 → ∀ b, b < 0 → a ≠ b → (TX4 a).2.1 ≠ (TX4 b).2.1 := by decide +kernel
theorem tyX4_ok : ∀ k, k < 0 → parseFieldDescriptor (TX4 k).2.2.1 = some (tyX4 k) := by decide +kernel
abbrev cX4_measure : ByteArray := prog_6_method_2_code
def yX4_measure : MethodName := ⟨RX4, "measure", "(ILBlorbRows$Part;I)J"⟩
abbrev cX4_ofRect : ByteArray := prog_6_method_3_code
def yX4_ofRect : MethodName := ⟨RX4, "ofRect", "(LBlorbRows$Part;I)J"⟩
abbrev cX4_ofPng : ByteArray := prog_6_method_4_code
def yX4_ofPng : MethodName := ⟨RX4, "ofPng", "(LBlorbRows$Part;I)J"⟩
abbrev cX4_ofJpeg : ByteArray := prog_6_method_5_code
def yX4_ofJpeg : MethodName := ⟨RX4, "ofJpeg", "(LBlorbRows$Part;I)J"⟩
abbrev cX4_behindFill : ByteArray := prog_6_method_6_code
def yX4_behindFill : MethodName := ⟨RX4, "behindFill", "(LBlorbRows$Part;I)I"⟩
abbrev cX4_standsAlone : ByteArray := prog_6_method_7_code
def yX4_standsAlone : MethodName := ⟨RX4, "standsAlone", "(I)Z"⟩
abbrev cX4_hasNoMeasure : ByteArray := prog_6_method_8_code
def yX4_hasNoMeasure : MethodName := ⟨RX4, "hasNoMeasure", "(I)Z"⟩
abbrev cX4_isFrame : ByteArray := prog_6_method_9_code
def yX4_isFrame : MethodName := ⟨RX4, "isFrame", "(I)Z"⟩
abbrev cX4_ofFrame : ByteArray := prog_6_method_10_code
def yX4_ofFrame : MethodName := ⟨RX4, "ofFrame", "(LBlorbRows$Part;II)J"⟩
def RX5 : String := "BlorbRows$Ratio"
def TX5 : u_T := fun k => match k with
  | 0 => ("BlorbRows$Ratio", "above", "J", true)
  | _ => ("BlorbRows$Ratio", "below", "J", true)
def tyX5 : Nat → FieldType := fun k => match k with
  | 0 => .long
  | _ => .long
abbrev wsX50 : List Cond := u_ws RX5 TX5 2
theorem nmX5 : ∀ a, a < 2 → ∀ b, b < 2 → a ≠ b → (TX5 a).2.1 ≠ (TX5 b).2.1 := by decide +kernel
theorem tyX5_ok : ∀ k, k < 2 → parseFieldDescriptor (TX5 k).2.2.1 = some (tyX5 k) := by decide +kernel
abbrev cX5_init : ByteArray := prog_7_method_1_code
def yX5_init : MethodName := ⟨RX5, "<init>", "(JJ)V"⟩
abbrev cX5_isNothing : ByteArray := prog_7_method_2_code
def yX5_isNothing : MethodName := ⟨RX5, "isNothing", "()Z"⟩
abbrev cX5_isProper : ByteArray := prog_7_method_3_code
def yX5_isProper : MethodName := ⟨RX5, "isProper", "()Z"⟩
abbrev cX5_isUsable : ByteArray := prog_7_method_4_code
def yX5_isUsable : MethodName := ⟨RX5, "isUsable", "()Z"⟩
abbrev cX5_isLimit : ByteArray := prog_7_method_5_code
def yX5_isLimit : MethodName := ⟨RX5, "isLimit", "()Z"⟩
abbrev cX5_isBelow : ByteArray := prog_7_method_6_code
def yX5_isBelow : MethodName := ⟨RX5, "isBelow", "(LBlorbRows$Ratio;)Z"⟩
abbrev cX5_times : ByteArray := prog_7_method_7_code
def yX5_times : MethodName := ⟨RX5, "times", "(LBlorbRows$Ratio;)LBlorbRows$Ratio;"⟩
abbrev cX5_of : ByteArray := prog_7_method_8_code
def yX5_of : MethodName := ⟨RX5, "of", "(J)J"⟩
def RX6 : String := "BlorbRows$Row"
def TX6 : u_T := fun k => match k with
  | 0 => ("BlorbRows$Row", "octets", "[B", true)
  | _ => ("BlorbRows$Row", "length", "I", false)
def tyX6 : Nat → FieldType := fun k => match k with
  | 0 => .array .byte
  | _ => .int
abbrev wsX60 : List Cond := u_ws RX6 TX6 2
theorem nmX6 : ∀ a, a < 2 → ∀ b, b < 2 → a ≠ b → (TX6 a).2.1 ≠ (TX6 b).2.1 := by decide +kernel
theorem tyX6_ok : ∀ k, k < 2 → parseFieldDescriptor (TX6 k).2.2.1 = some (tyX6 k) := by decide +kernel
abbrev cX6_init : ByteArray := prog_8_method_1_code
def yX6_init : MethodName := ⟨RX6, "<init>", "(I)V"⟩
abbrev cX6_room : ByteArray := prog_8_method_2_code
def yX6_room : MethodName := ⟨RX6, "room", "()I"⟩
abbrev cX6_whole : ByteArray := prog_8_method_3_code
def yX6_whole : MethodName := ⟨RX6, "whole", "()LBlorbRows$Part;"⟩
abbrev cX6_keep : ByteArray := prog_8_method_4_code
def yX6_keep : MethodName := ⟨RX6, "keep", "(I)V"⟩
abbrev cX6_append : ByteArray := prog_8_method_5_code
def yX6_append : MethodName := ⟨RX6, "append", "(IJ)V"⟩
abbrev cX6_splice : ByteArray := prog_8_method_6_code
def yX6_splice : MethodName := ⟨RX6, "splice", "(IILBlorbRows$Part;)V"⟩
def RX7 : String := "BlorbRows$Sounds"
def TX7 : u_T := fun k => match k with
  | _ => ("", "", "", false)
def tyX7 : Nat → FieldType := fun k => match k with
  | _ => .int
abbrev wsX70 : List Cond := u_ws RX7 TX7 0
theorem nmX7 : ∀ a, a < 0 → ∀ b, b < 0 → a ≠ b → (TX7 a).2.1 ≠ (TX7 b).2.1 := by decide +kernel
theorem tyX7_ok : ∀ k, k < 0 → parseFieldDescriptor (TX7 k).2.2.1 = some (tyX7 k) := by decide +kernel
abbrev cX7_measure : ByteArray := prog_9_method_2_code
def yX7_measure : MethodName := ⟨RX7, "measure", "(LBlorbRows$Part;I)J"⟩
abbrev cX7_ofComm : ByteArray := prog_9_method_3_code
def yX7_ofComm : MethodName := ⟨RX7, "ofComm", "(LBlorbRows$Part;II)J"⟩
abbrev cX7_rate : ByteArray := prog_9_method_4_code
def yX7_rate : MethodName := ⟨RX7, "rate", "(LBlorbRows$Part;I)J"⟩
def RX8 : String := "BlorbRows$Windows"
def TX8 : u_T := fun k => match k with
  | _ => ("", "", "", false)
def tyX8 : Nat → FieldType := fun k => match k with
  | _ => .int
abbrev wsX80 : List Cond := u_ws RX8 TX8 0
theorem nmX8 : ∀ a, a < 0 → ∀ b, b < 0 → a ≠ b → (TX8 a).2.1 ≠ (TX8 b).2.1 := by decide +kernel
theorem tyX8_ok : ∀ k, k < 0 → parseFieldDescriptor (TX8 k).2.2.1 = some (tyX8 k) := by decide +kernel
abbrev cX8_rowOf : ByteArray := prog_10_method_2_code
def yX8_rowOf : MethodName := ⟨RX8, "rowOf", "(LBlorbRows$Part;J)I"⟩
abbrev cX8_ratioOn : ByteArray := prog_10_method_3_code
def yX8_ratioOn : MethodName := ⟨RX8, "ratioOn", "(LBlorbRows$Part;III)LBlorbRows$Ratio;"⟩
abbrev cX8_ratioAt : ByteArray := prog_10_method_4_code
def yX8_ratioAt : MethodName := ⟨RX8, "ratioAt", "(LBlorbRows$Part;I)LBlorbRows$Ratio;"⟩
def RX9 : String := "BlorbRows"
def TX9 : u_T := fun k => match k with
  | 0 => ("BlorbRows", "tape", "LBlorbRows$Row;", true)
  | 1 => ("BlorbRows", "outRow", "LBlorbRows$Row;", true)
  | 2 => ("BlorbRows", "house", "LBlorbRows$House;", true)
  | 3 => ("BlorbRows", "judge", "LBlorbRows$Judge;", true)
  | _ => ("BlorbRows", "faultPlace", "I", false)
def tyX9 : Nat → FieldType := fun k => match k with
  | 0 => .object "BlorbRows$Row"
  | 1 => .object "BlorbRows$Row"
  | 2 => .object "BlorbRows$House"
  | 3 => .object "BlorbRows$Judge"
  | _ => .int
abbrev wsX90 : List Cond := u_ws RX9 TX9 5
theorem nmX9 : ∀ a, a < 5 → ∀ b, b < 5 → a ≠ b → (TX9 a).2.1 ≠ (TX9 b).2.1 := by decide +kernel
theorem tyX9_ok : ∀ k, k < 5 → parseFieldDescriptor (TX9 k).2.2.1 = some (tyX9 k) := by decide +kernel
abbrev cX9_init : ByteArray := prog_1_method_1_code
def yX9_init : MethodName := ⟨RX9, "<init>", "()V"⟩
abbrev cX9_feed : ByteArray := prog_1_method_2_code
def yX9_feed : MethodName := ⟨RX9, "feed", "(IJ)I"⟩
abbrev cX9_cut : ByteArray := prog_1_method_3_code
def yX9_cut : MethodName := ⟨RX9, "cut", "(I)I"⟩
abbrev cX9_read : ByteArray := prog_1_method_4_code
def yX9_read : MethodName := ⟨RX9, "read", "()I"⟩
abbrev cX9_place : ByteArray := prog_1_method_5_code
def yX9_place : MethodName := ⟨RX9, "place", "()I"⟩
abbrev cX9_told : ByteArray := prog_1_method_6_code
def yX9_told : MethodName := ⟨RX9, "told", "(I)I"⟩
abbrev cX9_chunk : ByteArray := prog_1_method_7_code
def yX9_chunk : MethodName := ⟨RX9, "chunk", "(II)I"⟩
abbrev cX9_octet : ByteArray := prog_1_method_8_code
def yX9_octet : MethodName := ⟨RX9, "octet", "(II)I"⟩
abbrev cX9_entry : ByteArray := prog_1_method_9_code
def yX9_entry : MethodName := ⟨RX9, "entry", "(II)J"⟩
abbrev cX9_find : ByteArray := prog_1_method_10_code
def yX9_find : MethodName := ⟨RX9, "find", "(IJ)I"⟩
abbrev cX9_size : ByteArray := prog_1_method_11_code
def yX9_size : MethodName := ⟨RX9, "size", "(II)J"⟩
abbrev cX9_sound : ByteArray := prog_1_method_12_code
def yX9_sound : MethodName := ⟨RX9, "sound", "(II)J"⟩
abbrev cX9_front : ByteArray := prog_1_method_13_code
def yX9_front : MethodName := ⟨RX9, "front", "()J"⟩
abbrev cX9_release : ByteArray := prog_1_method_14_code
def yX9_release : MethodName := ⟨RX9, "release", "()I"⟩
abbrev cX9_colour : ByteArray := prog_1_method_15_code
def yX9_colour : MethodName := ⟨RX9, "colour", "(I)I"⟩
abbrev cX9_scaled : ByteArray := prog_1_method_16_code
def yX9_scaled : MethodName := ⟨RX9, "scaled", "(JIII)J"⟩
abbrev cX9_add : ByteArray := prog_1_method_17_code
def yX9_add : MethodName := ⟨RX9, "add", "(I)I"⟩
abbrev cX9_mean : ByteArray := prog_1_method_18_code
def yX9_mean : MethodName := ⟨RX9, "mean", "(IJI)I"⟩
abbrev cX9_change : ByteArray := prog_1_method_19_code
def yX9_change : MethodName := ⟨RX9, "change", "(I)I"⟩
abbrev cX9_drop : ByteArray := prog_1_method_20_code
def yX9_drop : MethodName := ⟨RX9, "drop", "(IJ)I"⟩
abbrev cX9_remove : ByteArray := prog_1_method_21_code
def yX9_remove : MethodName := ⟨RX9, "remove", "(I)I"⟩
abbrev cX9_write : ByteArray := prog_1_method_22_code
def yX9_write : MethodName := ⟨RX9, "write", "()I"⟩
abbrev cX9_out : ByteArray := prog_1_method_23_code
def yX9_out : MethodName := ⟨RX9, "out", "(I)I"⟩
abbrev cX9_back : ByteArray := prog_1_method_24_code
def yX9_back : MethodName := ⟨RX9, "back", "()I"⟩
abbrev cX9_isNumber : ByteArray := prog_1_method_25_code
def yX9_isNumber : MethodName := ⟨RX9, "isNumber", "(J)Z"⟩
abbrev cX9_isName : ByteArray := prog_1_method_26_code
def yX9_isName : MethodName := ⟨RX9, "isName", "(IJ)Z"⟩
abbrev cX9_isAxis : ByteArray := prog_1_method_27_code
def yX9_isAxis : MethodName := ⟨RX9, "isAxis", "(I)Z"⟩
abbrev cX9_isSide : ByteArray := prog_1_method_28_code
def yX9_isSide : MethodName := ⟨RX9, "isSide", "(J)Z"⟩
def RX10 : String := "BlorbRowsModel"
def TX10 : u_T := fun k => match k with
  | 0 => ("BlorbRowsModel", "tape", "[I", true)
  | 1 => ("BlorbRowsModel", "taped", "I", false)
  | 2 => ("BlorbRowsModel", "data", "[I", true)
  | 3 => ("BlorbRowsModel", "used", "I", false)
  | 4 => ("BlorbRowsModel", "kind", "[I", true)
  | 5 => ("BlorbRowsModel", "size", "[I", true)
  | 6 => ("BlorbRowsModel", "chunks", "I", false)
  | 7 => ("BlorbRowsModel", "use", "[I", true)
  | 8 => ("BlorbRowsModel", "number", "[J", true)
  | 9 => ("BlorbRowsModel", "means", "[I", true)
  | 10 => ("BlorbRowsModel", "entries", "I", false)
  | 11 => ("BlorbRowsModel", "outRow", "[I", true)
  | 12 => ("BlorbRowsModel", "outSize", "I", false)
  | 13 => ("BlorbRowsModel", "faultAt", "I", false)
  | 14 => ("BlorbRowsModel", "fault", "I", false)
  | 15 => ("BlorbRowsModel", "where", "[I", true)
  | 16 => ("BlorbRowsModel", "pieces", "I", false)
  | _ => ("BlorbRowsModel", "indexSize", "I", false)
def tyX10 : Nat → FieldType := fun k => match k with
  | 0 => .array .int
  | 1 => .int
  | 2 => .array .int
  | 3 => .int
  | 4 => .array .int
  | 5 => .array .int
  | 6 => .int
  | 7 => .array .int
  | 8 => .array .long
  | 9 => .array .int
  | 10 => .int
  | 11 => .array .int
  | 12 => .int
  | 13 => .int
  | 14 => .int
  | 15 => .array .int
  | 16 => .int
  | _ => .int
abbrev wsX100 : List Cond := u_ws RX10 TX10 18
theorem nmX10 : ∀ a, a < 18 → ∀ b, b < 18 → a ≠ b → (TX10 a).2.1 ≠ (TX10 b).2.1 := by decide +kernel
theorem tyX10_ok : ∀ k, k < 18 → parseFieldDescriptor (TX10 k).2.2.1 = some (tyX10 k) := by decide +kernel
abbrev cX10_init : ByteArray := prog_12_method_1_code
def yX10_init : MethodName := ⟨RX10, "<init>", "()V"⟩
abbrev cX10_in : ByteArray := prog_12_method_2_code
def yX10_in : MethodName := ⟨RX10, "in", "(JJJ)Z"⟩
abbrev cX10_isNumber : ByteArray := prog_12_method_3_code
def yX10_isNumber : MethodName := ⟨RX10, "isNumber", "(J)Z"⟩
abbrev cX10_isUse : ByteArray := prog_12_method_4_code
def yX10_isUse : MethodName := ⟨RX10, "isUse", "(I)Z"⟩
abbrev cX10_isKind : ByteArray := prog_12_method_5_code
def yX10_isKind : MethodName := ⟨RX10, "isKind", "(I)Z"⟩
abbrev cX10_feed : ByteArray := prog_12_method_6_code
def yX10_feed : MethodName := ⟨RX10, "feed", "(IJ)I"⟩
abbrev cX10_cut : ByteArray := prog_12_method_7_code
def yX10_cut : MethodName := ⟨RX10, "cut", "(I)I"⟩
abbrev cX10_kindIn : ByteArray := prog_12_method_8_code
def yX10_kindIn : MethodName := ⟨RX10, "kindIn", "([II)I"⟩
abbrev cX10_four : ByteArray := prog_12_method_9_code
def yX10_four : MethodName := ⟨RX10, "four", "([II)J"⟩
abbrev cX10_two : ByteArray := prog_12_method_10_code
def yX10_two : MethodName := ⟨RX10, "two", "([II)I"⟩
abbrev cX10_stop : ByteArray := prog_12_method_11_code
def yX10_stop : MethodName := ⟨RX10, "stop", "(II)V"⟩
abbrev cX10_goOver : ByteArray := prog_12_method_12_code
def yX10_goOver : MethodName := ⟨RX10, "goOver", "()V"⟩
abbrev cX10_piece : ByteArray := prog_12_method_13_code
def yX10_piece : MethodName := ⟨RX10, "piece", "(I)I"⟩
abbrev cX10_entryOf : ByteArray := prog_12_method_14_code
def yX10_entryOf : MethodName := ⟨RX10, "entryOf", "(II)V"⟩
abbrev cX10_read : ByteArray := prog_12_method_15_code
def yX10_read : MethodName := ⟨RX10, "read", "()I"⟩
abbrev cX10_take : ByteArray := prog_12_method_16_code
def yX10_take : MethodName := ⟨RX10, "take", "()V"⟩
abbrev cX10_place : ByteArray := prog_12_method_17_code
def yX10_place : MethodName := ⟨RX10, "place", "()I"⟩
abbrev cX10_told : ByteArray := prog_12_method_18_code
def yX10_told : MethodName := ⟨RX10, "told", "(I)I"⟩
abbrev cX10_isChunk : ByteArray := prog_12_method_19_code
def yX10_isChunk : MethodName := ⟨RX10, "isChunk", "(I)Z"⟩
abbrev cX10_fromOf : ByteArray := prog_12_method_20_code
def yX10_fromOf : MethodName := ⟨RX10, "fromOf", "(I)I"⟩
abbrev cX10_placeOf : ByteArray := prog_12_method_21_code
def yX10_placeOf : MethodName := ⟨RX10, "placeOf", "(I)I"⟩
abbrev cX10_meant : ByteArray := prog_12_method_22_code
def yX10_meant : MethodName := ⟨RX10, "meant", "(I)I"⟩
abbrev cX10_chunk : ByteArray := prog_12_method_23_code
def yX10_chunk : MethodName := ⟨RX10, "chunk", "(II)I"⟩
abbrev cX10_octet : ByteArray := prog_12_method_24_code
def yX10_octet : MethodName := ⟨RX10, "octet", "(II)I"⟩
abbrev cX10_goes : ByteArray := prog_12_method_25_code
def yX10_goes : MethodName := ⟨RX10, "goes", "(II)Z"⟩
abbrev cX10_entry : ByteArray := prog_12_method_26_code
def yX10_entry : MethodName := ⟨RX10, "entry", "(II)J"⟩
abbrev cX10_entryFor : ByteArray := prog_12_method_27_code
def yX10_entryFor : MethodName := ⟨RX10, "entryFor", "(IJ)I"⟩
abbrev cX10_find : ByteArray := prog_12_method_28_code
def yX10_find : MethodName := ⟨RX10, "find", "(IJ)I"⟩
abbrev cX10_jpeg : ByteArray := prog_12_method_29_code
def yX10_jpeg : MethodName := ⟨RX10, "jpeg", "(III)J"⟩
abbrev cX10_isPng : ByteArray := prog_12_method_30_code
def yX10_isPng : MethodName := ⟨RX10, "isPng", "(II)Z"⟩
abbrev cX10_sizeOf : ByteArray := prog_12_method_31_code
def yX10_sizeOf : MethodName := ⟨RX10, "sizeOf", "(II)J"⟩
abbrev cX10_size : ByteArray := prog_12_method_32_code
def yX10_size : MethodName := ⟨RX10, "size", "(II)J"⟩
abbrev cX10_commOf : ByteArray := prog_12_method_33_code
def yX10_commOf : MethodName := ⟨RX10, "commOf", "(I)I"⟩
abbrev cX10_sound : ByteArray := prog_12_method_34_code
def yX10_sound : MethodName := ⟨RX10, "sound", "(II)J"⟩
abbrev cX10_first : ByteArray := prog_12_method_35_code
def yX10_first : MethodName := ⟨RX10, "first", "(II)I"⟩
abbrev cX10_front : ByteArray := prog_12_method_36_code
def yX10_front : MethodName := ⟨RX10, "front", "()J"⟩
abbrev cX10_release : ByteArray := prog_12_method_37_code
def yX10_release : MethodName := ⟨RX10, "release", "()I"⟩
abbrev cX10_colour : ByteArray := prog_12_method_38_code
def yX10_colour : MethodName := ⟨RX10, "colour", "(I)I"⟩
abbrev cX10_ratiosOf : ByteArray := prog_12_method_39_code
def yX10_ratiosOf : MethodName := ⟨RX10, "ratiosOf", "(J)I"⟩
abbrev cX10_scaled : ByteArray := prog_12_method_40_code
def yX10_scaled : MethodName := ⟨RX10, "scaled", "(JIII)J"⟩
abbrev cX10_replace : ByteArray := prog_12_method_41_code
def yX10_replace : MethodName := ⟨RX10, "replace", "(IZ)V"⟩
abbrev cX10_add : ByteArray := prog_12_method_42_code
def yX10_add : MethodName := ⟨RX10, "add", "(I)I"⟩
abbrev cX10_mean : ByteArray := prog_12_method_43_code
def yX10_mean : MethodName := ⟨RX10, "mean", "(IJI)I"⟩
abbrev cX10_change : ByteArray := prog_12_method_44_code
def yX10_change : MethodName := ⟨RX10, "change", "(I)I"⟩
abbrev cX10_goesAway : ByteArray := prog_12_method_45_code
def yX10_goesAway : MethodName := ⟨RX10, "goesAway", "(I)I"⟩
abbrev cX10_drop : ByteArray := prog_12_method_46_code
def yX10_drop : MethodName := ⟨RX10, "drop", "(IJ)I"⟩
abbrev cX10_remove : ByteArray := prog_12_method_47_code
def yX10_remove : MethodName := ⟨RX10, "remove", "(I)I"⟩
abbrev cX10_put : ByteArray := prog_12_method_48_code
def yX10_put : MethodName := ⟨RX10, "put", "(JI)V"⟩
abbrev cX10_write : ByteArray := prog_12_method_49_code
def yX10_write : MethodName := ⟨RX10, "write", "()I"⟩
abbrev cX10_out : ByteArray := prog_12_method_50_code
def yX10_out : MethodName := ⟨RX10, "out", "(I)I"⟩
abbrev cX10_back : ByteArray := prog_12_method_51_code
def yX10_back : MethodName := ⟨RX10, "back", "()I"⟩
def RJ9 : String := "java/lang/Math"
def TJ9 : u_T := fun k => match k with
  | _ => ("", "", "", false)
def tyJ9 : Nat → FieldType := fun k => match k with
  | _ => .int
abbrev wsJ90 : List Cond := u_ws RJ9 TJ9 0
theorem nmJ9 : ∀ a, a < 0 → ∀ b, b < 0 → a ≠ b → (TJ9 a).2.1 ≠ (TJ9 b).2.1 := by decide +kernel
theorem tyJ9_ok : ∀ k, k < 0 → parseFieldDescriptor (TJ9 k).2.2.1 = some (tyJ9 k) := by decide +kernel
abbrev cJ9_max_7cf53 : ByteArray := prog_13_method_65_code
def yJ9_max_7cf53 : MethodName := ⟨RJ9, "max", "(II)I"⟩
def RJ10 : String := "java/lang/System"
def TJ10 : u_T := fun k => match k with
  | _ => ("", "", "", false)
def tyJ10 : Nat → FieldType := fun k => match k with
  | _ => .int
abbrev wsJ100 : List Cond := u_ws RJ10 TJ10 0
theorem nmJ10 : ∀ a, a < 0 → ∀ b, b < 0 → a ≠ b → (TJ10 a).2.1 ≠ (TJ10 b).2.1 := by decide +kernel
theorem tyJ10_ok : ∀ k, k < 0 → parseFieldDescriptor (TJ10 k).2.2.1 = some (tyJ10 k) := by decide +kernel
def RL : String := "BlorbRowsLaw"
abbrev cL_law : ByteArray := code
def yL_law : MethodName := ⟨RL, "law", "([I)Z"⟩
def wsX6_init : List Cond := .code yX6_init cX6_init 2 none :: ([.methodLink RX6 1 objectInit, .instanceMethod objectInit, .code objectInit ⟨#[0xb1]⟩ 1 none, .methodLink RX6 7 Lib.Math.max.name, .static Lib.Math.max.name, .initialized "java/lang/Math", .code Lib.Math.max.name Lib.Math.max.code 2 (some .int), .arrayClass .byte, .fieldLink RX6 13 "BlorbRows$Row" "octets" "[B", .fieldLink RX6 19 "BlorbRows$Row" "length" "I"] ++ wsX60)
def wsX0_init_r1 : List Cond := [Cond.methodLink RX0 3 objectInit, Cond.instanceMethod objectInit, Cond.code objectInit ⟨#[0xb1]⟩ 1 none, Cond.classLink RX0 9 RX6, Cond.instantiable RX6 2, Cond.initialized RX6, Cond.fieldLink RX0 14 "BlorbRows$House" "data" "LBlorbRows$Row;", Cond.arrayClass .int, Cond.fieldLink RX0 20 "BlorbRows$House" "kinds" "[I", Cond.fieldLink RX0 24 "BlorbRows$House" "starts" "[I", Cond.fieldLink RX0 27 "BlorbRows$House" "chunks" "I", Cond.fieldLink RX0 31 "BlorbRows$House" "uses" "[I", Cond.arrayClass .long, Cond.fieldLink RX0 34 "BlorbRows$House" "numbers" "[J", Cond.fieldLink RX0 38 "BlorbRows$House" "targets" "[I", Cond.fieldLink RX0 41 "BlorbRows$House" "entries" "I", Cond.methodLink RX0 11 yX6_init, Cond.instanceMethod yX6_init, Cond.code yX6_init cX6_init 2 none, Cond.methodLink RX6 1 objectInit, Cond.methodLink RX6 7 Lib.Math.max.name, Cond.static Lib.Math.max.name, Cond.initialized "java/lang/Math", Cond.code Lib.Math.max.name Lib.Math.max.code 2 (some .int)]
def wsX0_init_r2 : List Cond := [Cond.arrayClass .byte, Cond.fieldLink RX6 13 "BlorbRows$Row" "octets" "[B", Cond.fieldLink RX6 19 "BlorbRows$Row" "length" "I"]
def wsX0_init : List Cond := .code yX0_init cX0_init 1 none :: ((wsX0_init_r1 ++ wsX0_init_r2) ++ wsX60 ++ wsX00)
def wsX6_keep : List Cond := .code yX6_keep cX6_keep 2 none :: ([.fieldLink RX6 19 "BlorbRows$Row" "length" "I"] ++ wsX60)
def wsX0_empty : List Cond := .code yX0_empty cX0_empty 1 none :: ([.fieldLink RX0 14 "BlorbRows$House" "data" "LBlorbRows$Row;", .fieldLink RX0 27 "BlorbRows$House" "chunks" "I", .fieldLink RX0 41 "BlorbRows$House" "entries" "I", .methodLink RX0 44 yX6_keep, .instanceMethod yX6_keep, .selects RX6 yX6_keep yX6_keep, .initialized RX6, .code yX6_keep cX6_keep 2 none, .fieldLink RX6 19 "BlorbRows$Row" "length" "I"] ++ wsX00 ++ wsX60)
def wsX0_hasChunk : List Cond := .code yX0_hasChunk cX0_hasChunk 2 (some .boolean) :: ([.fieldLink RX0 27 "BlorbRows$House" "chunks" "I"] ++ wsX00)
def wsX0_hasEntry : List Cond := .code yX0_hasEntry cX0_hasEntry 2 (some .boolean) :: ([.fieldLink RX0 41 "BlorbRows$House" "entries" "I"] ++ wsX00)
def wsX6_room : List Cond := .code yX6_room cX6_room 1 (some .int) :: ([.fieldLink RX6 13 "BlorbRows$Row" "octets" "[B", .fieldLink RX6 19 "BlorbRows$Row" "length" "I"] ++ wsX60)
def wsX0_hasChunkRoom : List Cond := .code yX0_hasChunkRoom cX0_hasChunkRoom 2 (some .boolean) :: ([.fieldLink RX0 27 "BlorbRows$House" "chunks" "I", .fieldLink RX0 14 "BlorbRows$House" "data" "LBlorbRows$Row;", .methodLink RX0 47 yX6_room, .instanceMethod yX6_room, .selects RX6 yX6_room yX6_room, .initialized RX6, .code yX6_room cX6_room 1 (some .int), .fieldLink RX6 13 "BlorbRows$Row" "octets" "[B", .fieldLink RX6 19 "BlorbRows$Row" "length" "I"] ++ wsX00 ++ wsX60)
def wsX0_kindOf : List Cond := .code yX0_kindOf cX0_kindOf 2 (some .int) :: ([.fieldLink RX0 20 "BlorbRows$House" "kinds" "[I", .methodLink RX0 51 yX0_hasChunk, .instanceMethod yX0_hasChunk, .selects RX0 yX0_hasChunk yX0_hasChunk, .initialized RX0, .code yX0_hasChunk cX0_hasChunk 2 (some .boolean), .fieldLink RX0 27 "BlorbRows$House" "chunks" "I"] ++ wsX00)
def wsX0_lengthOf : List Cond := .code yX0_lengthOf cX0_lengthOf 2 (some .int) :: ([.fieldLink RX0 24 "BlorbRows$House" "starts" "[I", .methodLink RX0 51 yX0_hasChunk, .instanceMethod yX0_hasChunk, .selects RX0 yX0_hasChunk yX0_hasChunk, .initialized RX0, .code yX0_hasChunk cX0_hasChunk 2 (some .boolean), .fieldLink RX0 27 "BlorbRows$House" "chunks" "I"] ++ wsX00)
def wsX3_init : List Cond := .code yX3_init cX3_init 5 none :: ([.methodLink RX3 1 objectInit, .instanceMethod objectInit, .code objectInit ⟨#[0xb1]⟩ 1 none, .fieldLink RX3 7 "BlorbRows$Row" "length" "I", .fieldLink RX3 13 "BlorbRows$Part" "row" "LBlorbRows$Row;", .fieldLink RX3 19 "BlorbRows$Part" "from" "I", .fieldLink RX3 22 "BlorbRows$Part" "length" "I"] ++ wsX60 ++ wsX30)
def wsX0_dataOf_r1 : List Cond := [Cond.classLink RX0 55 RX3, Cond.instantiable RX3 3, Cond.initialized RX3, Cond.fieldLink RX0 14 "BlorbRows$House" "data" "LBlorbRows$Row;", Cond.fieldLink RX0 24 "BlorbRows$House" "starts" "[I", Cond.methodLink RX0 51 yX0_hasChunk, Cond.instanceMethod yX0_hasChunk, Cond.selects RX0 yX0_hasChunk yX0_hasChunk, Cond.initialized RX0, Cond.code yX0_hasChunk cX0_hasChunk 2 (some .boolean), Cond.fieldLink RX0 27 "BlorbRows$House" "chunks" "I", Cond.methodLink RX0 57 yX0_lengthOf, Cond.instanceMethod yX0_lengthOf, Cond.selects RX0 yX0_lengthOf yX0_lengthOf, Cond.code yX0_lengthOf cX0_lengthOf 2 (some .int), Cond.methodLink RX0 61 yX3_init, Cond.instanceMethod yX3_init, Cond.code yX3_init cX3_init 5 none, Cond.methodLink RX3 1 objectInit, Cond.instanceMethod objectInit, Cond.code objectInit ⟨#[0xb1]⟩ 1 none, Cond.fieldLink RX3 7 "BlorbRows$Row" "length" "I", Cond.fieldLink RX3 13 "BlorbRows$Part" "row" "LBlorbRows$Row;", Cond.fieldLink RX3 19 "BlorbRows$Part" "from" "I"]
def wsX0_dataOf_r2 : List Cond := [Cond.fieldLink RX3 22 "BlorbRows$Part" "length" "I"]
def wsX0_dataOf : List Cond := .code yX0_dataOf cX0_dataOf 2 (some (.object "BlorbRows$Part")) :: ((wsX0_dataOf_r1 ++ wsX0_dataOf_r2) ++ wsX30 ++ wsX00 ++ wsX60)
def wsX0_placeOf : List Cond := .code yX0_placeOf cX0_placeOf 4 (some .int) :: ([.fieldLink RX0 41 "BlorbRows$House" "entries" "I", .fieldLink RX0 27 "BlorbRows$House" "chunks" "I", .methodLink RX0 57 yX0_lengthOf, .instanceMethod yX0_lengthOf, .selects RX0 yX0_lengthOf yX0_lengthOf, .initialized RX0, .code yX0_lengthOf cX0_lengthOf 2 (some .int), .fieldLink RX0 24 "BlorbRows$House" "starts" "[I", .methodLink RX0 51 yX0_hasChunk, .instanceMethod yX0_hasChunk, .selects RX0 yX0_hasChunk yX0_hasChunk, .code yX0_hasChunk cX0_hasChunk 2 (some .boolean)] ++ wsX00)
def wsX0_meaningsOf : List Cond := .code yX0_meaningsOf cX0_meaningsOf 4 (some .int) :: ([.fieldLink RX0 41 "BlorbRows$House" "entries" "I", .fieldLink RX0 38 "BlorbRows$House" "targets" "[I"] ++ wsX00)
def wsX3_holds : List Cond := .code yX3_holds cX3_holds 3 (some .boolean) :: ([.fieldLink RX3 22 "BlorbRows$Part" "length" "I"] ++ wsX30)
def wsX3_number : List Cond := .code yX3_number cX3_number 6 (some .long) :: ([.constantLong RX3 31 (-1), .fieldLink RX3 13 "BlorbRows$Part" "row" "LBlorbRows$Row;", .fieldLink RX3 33 "BlorbRows$Row" "octets" "[B", .fieldLink RX3 19 "BlorbRows$Part" "from" "I", .methodLink RX3 27 yX3_holds, .instanceMethod yX3_holds, .selects RX3 yX3_holds yX3_holds, .initialized RX3, .code yX3_holds cX3_holds 3 (some .boolean), .fieldLink RX3 22 "BlorbRows$Part" "length" "I"] ++ wsX30 ++ wsX60)
def wsX3_u4 : List Cond := .code yX3_u4 cX3_u4 2 (some .long) :: ([.methodLink RX3 23 yX3_number, .instanceMethod yX3_number, .selects RX3 yX3_number yX3_number, .initialized RX3, .code yX3_number cX3_number 6 (some .long), .constantLong RX3 31 (-1), .fieldLink RX3 13 "BlorbRows$Part" "row" "LBlorbRows$Row;", .fieldLink RX3 33 "BlorbRows$Row" "octets" "[B", .fieldLink RX3 19 "BlorbRows$Part" "from" "I", .methodLink RX3 27 yX3_holds, .instanceMethod yX3_holds, .selects RX3 yX3_holds yX3_holds, .code yX3_holds cX3_holds 3 (some .boolean), .fieldLink RX3 22 "BlorbRows$Part" "length" "I"] ++ wsX30 ++ wsX60)
def wsX2_goTogether_r1 : List Cond := [Cond.constant RX2 17 (1347307296), Cond.constant RX2 18 (1246774599), Cond.constant RX2 19 (1382376308), Cond.constant RX2 20 (1330071382), Cond.constant RX2 21 (1297040416), Cond.constant RX2 22 (1397706311), Cond.constant RX2 23 (1179603533), Cond.constantLong RX2 30 (1095321158), Cond.constant RX2 32 (1413830740), Cond.constant RX2 33 (1112100417), Cond.constant RX2 34 (1514360644), Cond.constant RX2 35 (1196184908), Cond.methodLink RX2 24 yX3_u4, Cond.instanceMethod yX3_u4, Cond.selects RX3 yX3_u4 yX3_u4, Cond.initialized RX3, Cond.code yX3_u4 cX3_u4 2 (some .long), Cond.methodLink RX3 23 yX3_number, Cond.instanceMethod yX3_number, Cond.selects RX3 yX3_number yX3_number, Cond.code yX3_number cX3_number 6 (some .long), Cond.constantLong RX3 31 (-1), Cond.fieldLink RX3 13 "BlorbRows$Part" "row" "LBlorbRows$Row;", Cond.fieldLink RX3 33 "BlorbRows$Row" "octets" "[B"]
def wsX2_goTogether_r2 : List Cond := [Cond.fieldLink RX3 19 "BlorbRows$Part" "from" "I", Cond.methodLink RX3 27 yX3_holds, Cond.instanceMethod yX3_holds, Cond.selects RX3 yX3_holds yX3_holds, Cond.code yX3_holds cX3_holds 3 (some .boolean), Cond.fieldLink RX3 22 "BlorbRows$Part" "length" "I"]
def wsX2_goTogether : List Cond := .code yX2_goTogether cX2_goTogether 3 (some .boolean) :: ((wsX2_goTogether_r1 ++ wsX2_goTogether_r2) ++ wsX30 ++ wsX60)
def wsX0_goes_r1 : List Cond := [Cond.fieldLink RX0 38 "BlorbRows$House" "targets" "[I", Cond.fieldLink RX0 31 "BlorbRows$House" "uses" "[I", Cond.methodLink RX0 64 yX0_hasEntry, Cond.instanceMethod yX0_hasEntry, Cond.selects RX0 yX0_hasEntry yX0_hasEntry, Cond.initialized RX0, Cond.code yX0_hasEntry cX0_hasEntry 2 (some .boolean), Cond.fieldLink RX0 41 "BlorbRows$House" "entries" "I", Cond.methodLink RX0 67 yX0_kindOf, Cond.instanceMethod yX0_kindOf, Cond.selects RX0 yX0_kindOf yX0_kindOf, Cond.code yX0_kindOf cX0_kindOf 2 (some .int), Cond.fieldLink RX0 20 "BlorbRows$House" "kinds" "[I", Cond.methodLink RX0 51 yX0_hasChunk, Cond.instanceMethod yX0_hasChunk, Cond.selects RX0 yX0_hasChunk yX0_hasChunk, Cond.code yX0_hasChunk cX0_hasChunk 2 (some .boolean), Cond.fieldLink RX0 27 "BlorbRows$House" "chunks" "I", Cond.methodLink RX0 70 yX0_dataOf, Cond.instanceMethod yX0_dataOf, Cond.selects RX0 yX0_dataOf yX0_dataOf, Cond.code yX0_dataOf cX0_dataOf 2 (some (.object "BlorbRows$Part")), Cond.classLink RX0 55 RX3, Cond.instantiable RX3 3]
def wsX0_goes_r2 : List Cond := [Cond.initialized RX3, Cond.fieldLink RX0 14 "BlorbRows$House" "data" "LBlorbRows$Row;", Cond.fieldLink RX0 24 "BlorbRows$House" "starts" "[I", Cond.methodLink RX0 57 yX0_lengthOf, Cond.instanceMethod yX0_lengthOf, Cond.selects RX0 yX0_lengthOf yX0_lengthOf, Cond.code yX0_lengthOf cX0_lengthOf 2 (some .int), Cond.methodLink RX0 61 yX3_init, Cond.instanceMethod yX3_init, Cond.code yX3_init cX3_init 5 none, Cond.methodLink RX3 1 objectInit, Cond.instanceMethod objectInit, Cond.code objectInit ⟨#[0xb1]⟩ 1 none, Cond.fieldLink RX3 7 "BlorbRows$Row" "length" "I", Cond.fieldLink RX3 13 "BlorbRows$Part" "row" "LBlorbRows$Row;", Cond.fieldLink RX3 19 "BlorbRows$Part" "from" "I", Cond.fieldLink RX3 22 "BlorbRows$Part" "length" "I", Cond.methodLink RX0 74 yX2_goTogether, Cond.static yX2_goTogether, Cond.initialized RX2, Cond.code yX2_goTogether cX2_goTogether 3 (some .boolean), Cond.constant RX2 17 (1347307296), Cond.constant RX2 18 (1246774599), Cond.constant RX2 19 (1382376308)]
def wsX0_goes_r3 : List Cond := [Cond.constant RX2 20 (1330071382), Cond.constant RX2 21 (1297040416), Cond.constant RX2 22 (1397706311), Cond.constant RX2 23 (1179603533), Cond.constantLong RX2 30 (1095321158), Cond.constant RX2 32 (1413830740), Cond.constant RX2 33 (1112100417), Cond.constant RX2 34 (1514360644), Cond.constant RX2 35 (1196184908), Cond.methodLink RX2 24 yX3_u4, Cond.instanceMethod yX3_u4, Cond.selects RX3 yX3_u4 yX3_u4, Cond.code yX3_u4 cX3_u4 2 (some .long), Cond.methodLink RX3 23 yX3_number, Cond.instanceMethod yX3_number, Cond.selects RX3 yX3_number yX3_number, Cond.code yX3_number cX3_number 6 (some .long), Cond.constantLong RX3 31 (-1), Cond.fieldLink RX3 33 "BlorbRows$Row" "octets" "[B", Cond.methodLink RX3 27 yX3_holds, Cond.instanceMethod yX3_holds, Cond.selects RX3 yX3_holds yX3_holds, Cond.code yX3_holds cX3_holds 3 (some .boolean)]
def wsX0_goes : List Cond := .code yX0_goes cX0_goes 3 (some .boolean) :: ((wsX0_goes_r1 ++ (wsX0_goes_r2 ++ wsX0_goes_r3)) ++ wsX00 ++ wsX30 ++ wsX60)
def wsX0_entryOf : List Cond := .code yX0_entryOf cX0_entryOf 5 (some .int) :: ([.fieldLink RX0 41 "BlorbRows$House" "entries" "I", .fieldLink RX0 31 "BlorbRows$House" "uses" "[I", .fieldLink RX0 34 "BlorbRows$House" "numbers" "[J"] ++ wsX00)
def wsX0_firstOf : List Cond := .code yX0_firstOf cX0_firstOf 3 (some .int) :: ([.fieldLink RX0 27 "BlorbRows$House" "chunks" "I", .fieldLink RX0 20 "BlorbRows$House" "kinds" "[I"] ++ wsX00)
def wsX0_firstWith : List Cond := .code yX0_firstWith cX0_firstWith 4 (some .int) :: ([.fieldLink RX0 27 "BlorbRows$House" "chunks" "I", .fieldLink RX0 20 "BlorbRows$House" "kinds" "[I", .methodLink RX0 57 yX0_lengthOf, .instanceMethod yX0_lengthOf, .selects RX0 yX0_lengthOf yX0_lengthOf, .initialized RX0, .code yX0_lengthOf cX0_lengthOf 2 (some .int), .fieldLink RX0 24 "BlorbRows$House" "starts" "[I", .methodLink RX0 51 yX0_hasChunk, .instanceMethod yX0_hasChunk, .selects RX0 yX0_hasChunk yX0_hasChunk, .code yX0_hasChunk cX0_hasChunk 2 (some .boolean)] ++ wsX00)
def wsX6_splice : List Cond := .code yX6_splice cX6_splice 5 none :: ([.fieldLink RX6 19 "BlorbRows$Row" "length" "I", .fieldLink RX6 32 "BlorbRows$Part" "length" "I", .fieldLink RX6 13 "BlorbRows$Row" "octets" "[B", .methodLink RX6 33 arraycopyName, .native arraycopyName, .static arraycopyName, .initialized "java/lang/System", .fieldLink RX6 39 "BlorbRows$Part" "row" "LBlorbRows$Row;", .fieldLink RX6 43 "BlorbRows$Part" "from" "I", .methodLink RX6 28 yX6_room, .instanceMethod yX6_room, .selects RX6 yX6_room yX6_room, .initialized RX6, .code yX6_room cX6_room 1 (some .int)] ++ wsX60 ++ wsX30)
def wsX0_addChunk_r1 : List Cond := [Cond.fieldLink RX0 80 "BlorbRows$Part" "length" "I", Cond.fieldLink RX0 20 "BlorbRows$House" "kinds" "[I", Cond.fieldLink RX0 27 "BlorbRows$House" "chunks" "I", Cond.fieldLink RX0 24 "BlorbRows$House" "starts" "[I", Cond.fieldLink RX0 14 "BlorbRows$House" "data" "LBlorbRows$Row;", Cond.fieldLink RX0 86 "BlorbRows$Row" "length" "I", Cond.methodLink RX0 83 yX0_hasChunkRoom, Cond.instanceMethod yX0_hasChunkRoom, Cond.selects RX0 yX0_hasChunkRoom yX0_hasChunkRoom, Cond.initialized RX0, Cond.code yX0_hasChunkRoom cX0_hasChunkRoom 2 (some .boolean), Cond.methodLink RX0 47 yX6_room, Cond.instanceMethod yX6_room, Cond.selects RX6 yX6_room yX6_room, Cond.initialized RX6, Cond.code yX6_room cX6_room 1 (some .int), Cond.fieldLink RX6 13 "BlorbRows$Row" "octets" "[B", Cond.fieldLink RX6 19 "BlorbRows$Row" "length" "I", Cond.methodLink RX0 87 yX6_splice, Cond.instanceMethod yX6_splice, Cond.selects RX6 yX6_splice yX6_splice, Cond.code yX6_splice cX6_splice 5 none, Cond.fieldLink RX6 32 "BlorbRows$Part" "length" "I", Cond.methodLink RX6 33 arraycopyName]
def wsX0_addChunk_r2 : List Cond := [Cond.native arraycopyName, Cond.static arraycopyName, Cond.initialized "java/lang/System", Cond.fieldLink RX6 39 "BlorbRows$Part" "row" "LBlorbRows$Row;", Cond.fieldLink RX6 43 "BlorbRows$Part" "from" "I", Cond.methodLink RX6 28 yX6_room]
def wsX0_addChunk : List Cond := .code yX0_addChunk cX0_addChunk 3 none :: ((wsX0_addChunk_r1 ++ wsX0_addChunk_r2) ++ wsX30 ++ wsX00 ++ wsX60)
def wsX0_addEntry : List Cond := .code yX0_addEntry cX0_addEntry 5 none :: ([.fieldLink RX0 41 "BlorbRows$House" "entries" "I", .fieldLink RX0 31 "BlorbRows$House" "uses" "[I", .fieldLink RX0 34 "BlorbRows$House" "numbers" "[J", .fieldLink RX0 38 "BlorbRows$House" "targets" "[I"] ++ wsX00)
def wsX0_setData_r1 : List Cond := [Cond.fieldLink RX0 80 "BlorbRows$Part" "length" "I", Cond.fieldLink RX0 14 "BlorbRows$House" "data" "LBlorbRows$Row;", Cond.fieldLink RX0 24 "BlorbRows$House" "starts" "[I", Cond.fieldLink RX0 27 "BlorbRows$House" "chunks" "I", Cond.methodLink RX0 57 yX0_lengthOf, Cond.instanceMethod yX0_lengthOf, Cond.selects RX0 yX0_lengthOf yX0_lengthOf, Cond.initialized RX0, Cond.code yX0_lengthOf cX0_lengthOf 2 (some .int), Cond.methodLink RX0 51 yX0_hasChunk, Cond.instanceMethod yX0_hasChunk, Cond.selects RX0 yX0_hasChunk yX0_hasChunk, Cond.code yX0_hasChunk cX0_hasChunk 2 (some .boolean), Cond.methodLink RX0 47 yX6_room, Cond.instanceMethod yX6_room, Cond.selects RX6 yX6_room yX6_room, Cond.initialized RX6, Cond.code yX6_room cX6_room 1 (some .int), Cond.fieldLink RX6 13 "BlorbRows$Row" "octets" "[B", Cond.fieldLink RX6 19 "BlorbRows$Row" "length" "I", Cond.methodLink RX0 87 yX6_splice, Cond.instanceMethod yX6_splice, Cond.selects RX6 yX6_splice yX6_splice, Cond.code yX6_splice cX6_splice 5 none]
def wsX0_setData_r2 : List Cond := [Cond.fieldLink RX6 32 "BlorbRows$Part" "length" "I", Cond.methodLink RX6 33 arraycopyName, Cond.native arraycopyName, Cond.static arraycopyName, Cond.initialized "java/lang/System", Cond.fieldLink RX6 39 "BlorbRows$Part" "row" "LBlorbRows$Row;", Cond.fieldLink RX6 43 "BlorbRows$Part" "from" "I", Cond.methodLink RX6 28 yX6_room]
def wsX0_setData : List Cond := .code yX0_setData cX0_setData 5 none :: ((wsX0_setData_r1 ++ wsX0_setData_r2) ++ wsX30 ++ wsX00 ++ wsX60)
def wsX0_takeChunk_r1 : List Cond := [Cond.classLink RX0 55 RX3, Cond.instantiable RX3 3, Cond.initialized RX3, Cond.fieldLink RX0 14 "BlorbRows$House" "data" "LBlorbRows$Row;", Cond.fieldLink RX0 27 "BlorbRows$House" "chunks" "I", Cond.fieldLink RX0 20 "BlorbRows$House" "kinds" "[I", Cond.fieldLink RX0 24 "BlorbRows$House" "starts" "[I", Cond.fieldLink RX0 86 "BlorbRows$Row" "length" "I", Cond.fieldLink RX0 41 "BlorbRows$House" "entries" "I", Cond.fieldLink RX0 38 "BlorbRows$House" "targets" "[I", Cond.methodLink RX0 51 yX0_hasChunk, Cond.instanceMethod yX0_hasChunk, Cond.selects RX0 yX0_hasChunk yX0_hasChunk, Cond.initialized RX0, Cond.code yX0_hasChunk cX0_hasChunk 2 (some .boolean), Cond.methodLink RX0 61 yX3_init, Cond.instanceMethod yX3_init, Cond.code yX3_init cX3_init 5 none, Cond.methodLink RX3 1 objectInit, Cond.instanceMethod objectInit, Cond.code objectInit ⟨#[0xb1]⟩ 1 none, Cond.fieldLink RX3 7 "BlorbRows$Row" "length" "I", Cond.fieldLink RX3 13 "BlorbRows$Part" "row" "LBlorbRows$Row;", Cond.fieldLink RX3 19 "BlorbRows$Part" "from" "I"]
def wsX0_takeChunk_r2 : List Cond := [Cond.fieldLink RX3 22 "BlorbRows$Part" "length" "I", Cond.methodLink RX0 91 yX0_setData, Cond.instanceMethod yX0_setData, Cond.selects RX0 yX0_setData yX0_setData, Cond.code yX0_setData cX0_setData 5 none, Cond.fieldLink RX0 80 "BlorbRows$Part" "length" "I", Cond.methodLink RX0 57 yX0_lengthOf, Cond.instanceMethod yX0_lengthOf, Cond.selects RX0 yX0_lengthOf yX0_lengthOf, Cond.code yX0_lengthOf cX0_lengthOf 2 (some .int), Cond.methodLink RX0 47 yX6_room, Cond.instanceMethod yX6_room, Cond.selects RX6 yX6_room yX6_room, Cond.initialized RX6, Cond.code yX6_room cX6_room 1 (some .int), Cond.fieldLink RX6 13 "BlorbRows$Row" "octets" "[B", Cond.fieldLink RX6 19 "BlorbRows$Row" "length" "I", Cond.methodLink RX0 87 yX6_splice, Cond.instanceMethod yX6_splice, Cond.selects RX6 yX6_splice yX6_splice, Cond.code yX6_splice cX6_splice 5 none, Cond.fieldLink RX6 32 "BlorbRows$Part" "length" "I", Cond.methodLink RX6 33 arraycopyName, Cond.native arraycopyName]
def wsX0_takeChunk_r3 : List Cond := [Cond.static arraycopyName, Cond.initialized "java/lang/System", Cond.fieldLink RX6 39 "BlorbRows$Part" "row" "LBlorbRows$Row;", Cond.fieldLink RX6 43 "BlorbRows$Part" "from" "I", Cond.methodLink RX6 28 yX6_room]
def wsX0_takeChunk : List Cond := .code yX0_takeChunk cX0_takeChunk 3 none :: ((wsX0_takeChunk_r1 ++ (wsX0_takeChunk_r2 ++ wsX0_takeChunk_r3)) ++ wsX30 ++ wsX00 ++ wsX60)
def wsX0_takeEntry : List Cond := .code yX0_takeEntry cX0_takeEntry 3 none :: ([.fieldLink RX0 41 "BlorbRows$House" "entries" "I", .fieldLink RX0 31 "BlorbRows$House" "uses" "[I", .fieldLink RX0 34 "BlorbRows$House" "numbers" "[J", .fieldLink RX0 38 "BlorbRows$House" "targets" "[I", .methodLink RX0 64 yX0_hasEntry, .instanceMethod yX0_hasEntry, .selects RX0 yX0_hasEntry yX0_hasEntry, .initialized RX0, .code yX0_hasEntry cX0_hasEntry 2 (some .boolean)] ++ wsX00)
def wsX6_append : List Cond := .code yX6_append cX6_append 5 none :: ([.fieldLink RX6 13 "BlorbRows$Row" "octets" "[B", .fieldLink RX6 19 "BlorbRows$Row" "length" "I", .methodLink RX6 28 yX6_room, .instanceMethod yX6_room, .selects RX6 yX6_room yX6_room, .initialized RX6, .code yX6_room cX6_room 1 (some .int)] ++ wsX60)
def wsX0_writeTo_r1 : List Cond := [Cond.constantLong RX0 95 (1179603533), Cond.fieldLink RX0 27 "BlorbRows$House" "chunks" "I", Cond.constantLong RX0 104 (1229345363), Cond.constantLong RX0 106 (1380541560), Cond.fieldLink RX0 41 "BlorbRows$House" "entries" "I", Cond.fieldLink RX0 31 "BlorbRows$House" "uses" "[I", Cond.fieldLink RX0 34 "BlorbRows$House" "numbers" "[J", Cond.fieldLink RX0 38 "BlorbRows$House" "targets" "[I", Cond.fieldLink RX0 20 "BlorbRows$House" "kinds" "[I", Cond.fieldLink RX0 86 "BlorbRows$Row" "length" "I", Cond.methodLink RX0 97 yX6_append, Cond.instanceMethod yX6_append, Cond.selects RX6 yX6_append yX6_append, Cond.initialized RX6, Cond.code yX6_append cX6_append 5 none, Cond.fieldLink RX6 13 "BlorbRows$Row" "octets" "[B", Cond.fieldLink RX6 19 "BlorbRows$Row" "length" "I", Cond.methodLink RX6 28 yX6_room, Cond.instanceMethod yX6_room, Cond.selects RX6 yX6_room yX6_room, Cond.code yX6_room cX6_room 1 (some .int), Cond.methodLink RX0 101 yX0_placeOf, Cond.instanceMethod yX0_placeOf, Cond.selects RX0 yX0_placeOf yX0_placeOf]
def wsX0_writeTo_r2 : List Cond := [Cond.initialized RX0, Cond.code yX0_placeOf cX0_placeOf 4 (some .int), Cond.methodLink RX0 57 yX0_lengthOf, Cond.instanceMethod yX0_lengthOf, Cond.selects RX0 yX0_lengthOf yX0_lengthOf, Cond.code yX0_lengthOf cX0_lengthOf 2 (some .int), Cond.fieldLink RX0 24 "BlorbRows$House" "starts" "[I", Cond.methodLink RX0 51 yX0_hasChunk, Cond.instanceMethod yX0_hasChunk, Cond.selects RX0 yX0_hasChunk yX0_hasChunk, Cond.code yX0_hasChunk cX0_hasChunk 2 (some .boolean), Cond.methodLink RX0 70 yX0_dataOf, Cond.instanceMethod yX0_dataOf, Cond.selects RX0 yX0_dataOf yX0_dataOf, Cond.code yX0_dataOf cX0_dataOf 2 (some (.object "BlorbRows$Part")), Cond.classLink RX0 55 RX3, Cond.instantiable RX3 3, Cond.initialized RX3, Cond.fieldLink RX0 14 "BlorbRows$House" "data" "LBlorbRows$Row;", Cond.methodLink RX0 61 yX3_init, Cond.instanceMethod yX3_init, Cond.code yX3_init cX3_init 5 none, Cond.methodLink RX3 1 objectInit, Cond.instanceMethod objectInit]
def wsX0_writeTo_r3 : List Cond := [Cond.code objectInit ⟨#[0xb1]⟩ 1 none, Cond.fieldLink RX3 7 "BlorbRows$Row" "length" "I", Cond.fieldLink RX3 13 "BlorbRows$Part" "row" "LBlorbRows$Row;", Cond.fieldLink RX3 19 "BlorbRows$Part" "from" "I", Cond.fieldLink RX3 22 "BlorbRows$Part" "length" "I", Cond.methodLink RX0 87 yX6_splice, Cond.instanceMethod yX6_splice, Cond.selects RX6 yX6_splice yX6_splice, Cond.code yX6_splice cX6_splice 5 none, Cond.fieldLink RX6 32 "BlorbRows$Part" "length" "I", Cond.methodLink RX6 33 arraycopyName, Cond.native arraycopyName, Cond.static arraycopyName, Cond.initialized "java/lang/System", Cond.fieldLink RX6 39 "BlorbRows$Part" "row" "LBlorbRows$Row;", Cond.fieldLink RX6 43 "BlorbRows$Part" "from" "I"]
def wsX0_writeTo : List Cond := .code yX0_writeTo cX0_writeTo 3 none :: ((wsX0_writeTo_r1 ++ (wsX0_writeTo_r2 ++ wsX0_writeTo_r3)) ++ wsX00 ++ wsX60 ++ wsX30)
def wsX1_init : List Cond := .code yX1_init cX1_init 1 none :: ([.methodLink RX1 3 objectInit, .instanceMethod objectInit, .code objectInit ⟨#[0xb1]⟩ 1 none, .arrayClass .int, .fieldLink RX1 9 "BlorbRows$Judge" "places" "[I", .fieldLink RX1 15 "BlorbRows$Judge" "pieces" "I", .fieldLink RX1 19 "BlorbRows$Judge" "faultAt" "I"] ++ wsX10)
def wsX1_fail : List Cond := .code yX1_fail cX1_fail 3 (some .int) :: ([.fieldLink RX1 19 "BlorbRows$Judge" "faultAt" "I"] ++ wsX10)
def wsX1_faultOfHead_r1 : List Cond := [Cond.fieldLink RX1 32 "BlorbRows$Part" "length" "I", Cond.constantLong RX1 47 (1179603533), Cond.constantLong RX1 49 (1229345363), Cond.methodLink RX1 37 yX1_fail, Cond.instanceMethod yX1_fail, Cond.selects RX1 yX1_fail yX1_fail, Cond.initialized RX1, Cond.code yX1_fail cX1_fail 3 (some .int), Cond.fieldLink RX1 19 "BlorbRows$Judge" "faultAt" "I", Cond.methodLink RX1 41 yX3_u4, Cond.instanceMethod yX3_u4, Cond.selects RX3 yX3_u4 yX3_u4, Cond.initialized RX3, Cond.code yX3_u4 cX3_u4 2 (some .long), Cond.methodLink RX3 23 yX3_number, Cond.instanceMethod yX3_number, Cond.selects RX3 yX3_number yX3_number, Cond.code yX3_number cX3_number 6 (some .long), Cond.constantLong RX3 31 (-1), Cond.fieldLink RX3 13 "BlorbRows$Part" "row" "LBlorbRows$Row;", Cond.fieldLink RX3 33 "BlorbRows$Row" "octets" "[B", Cond.fieldLink RX3 19 "BlorbRows$Part" "from" "I", Cond.methodLink RX3 27 yX3_holds, Cond.instanceMethod yX3_holds]
def wsX1_faultOfHead_r2 : List Cond := [Cond.selects RX3 yX3_holds yX3_holds, Cond.code yX3_holds cX3_holds 3 (some .boolean), Cond.fieldLink RX3 22 "BlorbRows$Part" "length" "I"]
def wsX1_faultOfHead : List Cond := .code yX1_faultOfHead cX1_faultOfHead 2 (some .int) :: ((wsX1_faultOfHead_r1 ++ wsX1_faultOfHead_r2) ++ wsX30 ++ wsX10 ++ wsX60)
def wsX2_isLetter : List Cond := .code yX2_isLetter cX2_isLetter 1 (some .boolean) :: ([])
def wsX2_isKind : List Cond := .code yX2_isKind cX2_isKind 1 (some .boolean) :: ([.methodLink RX2 7 yX2_isLetter, .static yX2_isLetter, .initialized RX2, .code yX2_isLetter cX2_isLetter 1 (some .boolean)])
def wsX3_at : List Cond := .code yX3_at cX3_at 2 (some .int) :: ([.methodLink RX3 23 yX3_number, .instanceMethod yX3_number, .selects RX3 yX3_number yX3_number, .initialized RX3, .code yX3_number cX3_number 6 (some .long), .constantLong RX3 31 (-1), .fieldLink RX3 13 "BlorbRows$Part" "row" "LBlorbRows$Row;", .fieldLink RX3 33 "BlorbRows$Row" "octets" "[B", .fieldLink RX3 19 "BlorbRows$Part" "from" "I", .methodLink RX3 27 yX3_holds, .instanceMethod yX3_holds, .selects RX3 yX3_holds yX3_holds, .code yX3_holds cX3_holds 3 (some .boolean), .fieldLink RX3 22 "BlorbRows$Part" "length" "I"] ++ wsX30 ++ wsX60)
def wsX1_faultOfPiece_r1 : List Cond := [Cond.fieldLink RX1 32 "BlorbRows$Part" "length" "I", Cond.constant RX1 62 (1380541560), Cond.fieldLink RX1 15 "BlorbRows$Judge" "pieces" "I", Cond.methodLink RX1 58 yX3_holds, Cond.instanceMethod yX3_holds, Cond.selects RX3 yX3_holds yX3_holds, Cond.initialized RX3, Cond.code yX3_holds cX3_holds 3 (some .boolean), Cond.fieldLink RX3 22 "BlorbRows$Part" "length" "I", Cond.methodLink RX1 37 yX1_fail, Cond.instanceMethod yX1_fail, Cond.selects RX1 yX1_fail yX1_fail, Cond.initialized RX1, Cond.code yX1_fail cX1_fail 3 (some .int), Cond.fieldLink RX1 19 "BlorbRows$Judge" "faultAt" "I", Cond.methodLink RX1 41 yX3_u4, Cond.instanceMethod yX3_u4, Cond.selects RX3 yX3_u4 yX3_u4, Cond.code yX3_u4 cX3_u4 2 (some .long), Cond.methodLink RX3 23 yX3_number, Cond.instanceMethod yX3_number, Cond.selects RX3 yX3_number yX3_number, Cond.code yX3_number cX3_number 6 (some .long), Cond.constantLong RX3 31 (-1)]
def wsX1_faultOfPiece_r2 : List Cond := [Cond.fieldLink RX3 13 "BlorbRows$Part" "row" "LBlorbRows$Row;", Cond.fieldLink RX3 33 "BlorbRows$Row" "octets" "[B", Cond.fieldLink RX3 19 "BlorbRows$Part" "from" "I", Cond.methodLink RX3 27 yX3_holds, Cond.methodLink RX1 63 yX2_isKind, Cond.static yX2_isKind, Cond.initialized RX2, Cond.code yX2_isKind cX2_isKind 1 (some .boolean), Cond.methodLink RX2 7 yX2_isLetter, Cond.static yX2_isLetter, Cond.code yX2_isLetter cX2_isLetter 1 (some .boolean), Cond.methodLink RX1 67 yX3_at, Cond.instanceMethod yX3_at, Cond.selects RX3 yX3_at yX3_at, Cond.code yX3_at cX3_at 2 (some .int)]
def wsX1_faultOfPiece : List Cond := .code yX1_faultOfPiece cX1_faultOfPiece 10 (some .int) :: ((wsX1_faultOfPiece_r1 ++ wsX1_faultOfPiece_r2) ++ wsX30 ++ wsX10 ++ wsX60)
def wsX1_behindPiece : List Cond := .code yX1_behindPiece cX1_behindPiece 4 (some .int) :: ([.methodLink RX1 41 yX3_u4, .instanceMethod yX3_u4, .selects RX3 yX3_u4 yX3_u4, .initialized RX3, .code yX3_u4 cX3_u4 2 (some .long), .methodLink RX3 23 yX3_number, .instanceMethod yX3_number, .selects RX3 yX3_number yX3_number, .code yX3_number cX3_number 6 (some .long), .constantLong RX3 31 (-1), .fieldLink RX3 13 "BlorbRows$Part" "row" "LBlorbRows$Row;", .fieldLink RX3 33 "BlorbRows$Row" "octets" "[B", .fieldLink RX3 19 "BlorbRows$Part" "from" "I", .methodLink RX3 27 yX3_holds, .instanceMethod yX3_holds, .selects RX3 yX3_holds yX3_holds, .code yX3_holds cX3_holds 3 (some .boolean), .fieldLink RX3 22 "BlorbRows$Part" "length" "I"] ++ wsX30 ++ wsX60)
def wsX1_faultOfPieces_r1 : List Cond := [Cond.fieldLink RX1 32 "BlorbRows$Part" "length" "I", Cond.fieldLink RX1 15 "BlorbRows$Judge" "pieces" "I", Cond.fieldLink RX1 9 "BlorbRows$Judge" "places" "[I", Cond.methodLink RX1 51 yX1_faultOfPiece, Cond.instanceMethod yX1_faultOfPiece, Cond.selects RX1 yX1_faultOfPiece yX1_faultOfPiece, Cond.initialized RX1, Cond.code yX1_faultOfPiece cX1_faultOfPiece 10 (some .int), Cond.constant RX1 62 (1380541560), Cond.methodLink RX1 58 yX3_holds, Cond.instanceMethod yX3_holds, Cond.selects RX3 yX3_holds yX3_holds, Cond.initialized RX3, Cond.code yX3_holds cX3_holds 3 (some .boolean), Cond.fieldLink RX3 22 "BlorbRows$Part" "length" "I", Cond.methodLink RX1 37 yX1_fail, Cond.instanceMethod yX1_fail, Cond.selects RX1 yX1_fail yX1_fail, Cond.code yX1_fail cX1_fail 3 (some .int), Cond.fieldLink RX1 19 "BlorbRows$Judge" "faultAt" "I", Cond.methodLink RX1 41 yX3_u4, Cond.instanceMethod yX3_u4, Cond.selects RX3 yX3_u4 yX3_u4, Cond.code yX3_u4 cX3_u4 2 (some .long)]
def wsX1_faultOfPieces_r2 : List Cond := [Cond.methodLink RX3 23 yX3_number, Cond.instanceMethod yX3_number, Cond.selects RX3 yX3_number yX3_number, Cond.code yX3_number cX3_number 6 (some .long), Cond.constantLong RX3 31 (-1), Cond.fieldLink RX3 13 "BlorbRows$Part" "row" "LBlorbRows$Row;", Cond.fieldLink RX3 33 "BlorbRows$Row" "octets" "[B", Cond.fieldLink RX3 19 "BlorbRows$Part" "from" "I", Cond.methodLink RX3 27 yX3_holds, Cond.methodLink RX1 63 yX2_isKind, Cond.static yX2_isKind, Cond.initialized RX2, Cond.code yX2_isKind cX2_isKind 1 (some .boolean), Cond.methodLink RX2 7 yX2_isLetter, Cond.static yX2_isLetter, Cond.code yX2_isLetter cX2_isLetter 1 (some .boolean), Cond.methodLink RX1 67 yX3_at, Cond.instanceMethod yX3_at, Cond.selects RX3 yX3_at yX3_at, Cond.code yX3_at cX3_at 2 (some .int), Cond.methodLink RX1 55 yX1_behindPiece, Cond.instanceMethod yX1_behindPiece, Cond.selects RX1 yX1_behindPiece yX1_behindPiece, Cond.code yX1_behindPiece cX1_behindPiece 4 (some .int)]
def wsX1_faultOfPieces : List Cond := .code yX1_faultOfPieces cX1_faultOfPieces 5 (some .int) :: ((wsX1_faultOfPieces_r1 ++ wsX1_faultOfPieces_r2) ++ wsX30 ++ wsX10 ++ wsX60)
def wsX2_isUse : List Cond := .code yX2_isUse cX2_isUse 1 (some .boolean) :: ([.constant RX2 13 (1349084020), .constant RX2 14 (1399743520), .constant RX2 15 (1147237473), .constant RX2 16 (1165518179)])
def wsX1_pieceAt : List Cond := .code yX1_pieceAt cX1_pieceAt 4 (some .int) :: ([.fieldLink RX1 15 "BlorbRows$Judge" "pieces" "I", .fieldLink RX1 9 "BlorbRows$Judge" "places" "[I"] ++ wsX10)
def wsX1_faultOfEntry_r1 : List Cond := [Cond.methodLink RX1 37 yX1_fail, Cond.instanceMethod yX1_fail, Cond.selects RX1 yX1_fail yX1_fail, Cond.initialized RX1, Cond.code yX1_fail cX1_fail 3 (some .int), Cond.fieldLink RX1 19 "BlorbRows$Judge" "faultAt" "I", Cond.methodLink RX1 41 yX3_u4, Cond.instanceMethod yX3_u4, Cond.selects RX3 yX3_u4 yX3_u4, Cond.initialized RX3, Cond.code yX3_u4 cX3_u4 2 (some .long), Cond.methodLink RX3 23 yX3_number, Cond.instanceMethod yX3_number, Cond.selects RX3 yX3_number yX3_number, Cond.code yX3_number cX3_number 6 (some .long), Cond.constantLong RX3 31 (-1), Cond.fieldLink RX3 13 "BlorbRows$Part" "row" "LBlorbRows$Row;", Cond.fieldLink RX3 33 "BlorbRows$Row" "octets" "[B", Cond.fieldLink RX3 19 "BlorbRows$Part" "from" "I", Cond.methodLink RX3 27 yX3_holds, Cond.instanceMethod yX3_holds, Cond.selects RX3 yX3_holds yX3_holds, Cond.code yX3_holds cX3_holds 3 (some .boolean), Cond.fieldLink RX3 22 "BlorbRows$Part" "length" "I"]
def wsX1_faultOfEntry_r2 : List Cond := [Cond.methodLink RX1 78 yX2_isUse, Cond.static yX2_isUse, Cond.initialized RX2, Cond.code yX2_isUse cX2_isUse 1 (some .boolean), Cond.constant RX2 13 (1349084020), Cond.constant RX2 14 (1399743520), Cond.constant RX2 15 (1147237473), Cond.constant RX2 16 (1165518179), Cond.methodLink RX1 81 yX1_pieceAt, Cond.instanceMethod yX1_pieceAt, Cond.selects RX1 yX1_pieceAt yX1_pieceAt, Cond.code yX1_pieceAt cX1_pieceAt 4 (some .int), Cond.fieldLink RX1 15 "BlorbRows$Judge" "pieces" "I", Cond.fieldLink RX1 9 "BlorbRows$Judge" "places" "[I"]
def wsX1_faultOfEntry : List Cond := .code yX1_faultOfEntry cX1_faultOfEntry 6 (some .int) :: ((wsX1_faultOfEntry_r1 ++ wsX1_faultOfEntry_r2) ++ wsX10 ++ wsX30 ++ wsX60)
def wsX1_faultOfIndex_r1 : List Cond := [Cond.constantLong RX1 71 (4), Cond.constantLong RX1 73 (12), Cond.methodLink RX1 41 yX3_u4, Cond.instanceMethod yX3_u4, Cond.selects RX3 yX3_u4 yX3_u4, Cond.initialized RX3, Cond.code yX3_u4 cX3_u4 2 (some .long), Cond.methodLink RX3 23 yX3_number, Cond.instanceMethod yX3_number, Cond.selects RX3 yX3_number yX3_number, Cond.code yX3_number cX3_number 6 (some .long), Cond.constantLong RX3 31 (-1), Cond.fieldLink RX3 13 "BlorbRows$Part" "row" "LBlorbRows$Row;", Cond.fieldLink RX3 33 "BlorbRows$Row" "octets" "[B", Cond.fieldLink RX3 19 "BlorbRows$Part" "from" "I", Cond.methodLink RX3 27 yX3_holds, Cond.instanceMethod yX3_holds, Cond.selects RX3 yX3_holds yX3_holds, Cond.code yX3_holds cX3_holds 3 (some .boolean), Cond.fieldLink RX3 22 "BlorbRows$Part" "length" "I", Cond.methodLink RX1 37 yX1_fail, Cond.instanceMethod yX1_fail, Cond.selects RX1 yX1_fail yX1_fail, Cond.initialized RX1]
def wsX1_faultOfIndex_r2 : List Cond := [Cond.code yX1_fail cX1_fail 3 (some .int), Cond.fieldLink RX1 19 "BlorbRows$Judge" "faultAt" "I", Cond.methodLink RX1 75 yX1_faultOfEntry, Cond.instanceMethod yX1_faultOfEntry, Cond.selects RX1 yX1_faultOfEntry yX1_faultOfEntry, Cond.code yX1_faultOfEntry cX1_faultOfEntry 6 (some .int), Cond.methodLink RX1 78 yX2_isUse, Cond.static yX2_isUse, Cond.initialized RX2, Cond.code yX2_isUse cX2_isUse 1 (some .boolean), Cond.constant RX2 13 (1349084020), Cond.constant RX2 14 (1399743520), Cond.constant RX2 15 (1147237473), Cond.constant RX2 16 (1165518179), Cond.methodLink RX1 81 yX1_pieceAt, Cond.instanceMethod yX1_pieceAt, Cond.selects RX1 yX1_pieceAt yX1_pieceAt, Cond.code yX1_pieceAt cX1_pieceAt 4 (some .int), Cond.fieldLink RX1 15 "BlorbRows$Judge" "pieces" "I", Cond.fieldLink RX1 9 "BlorbRows$Judge" "places" "[I"]
def wsX1_faultOfIndex : List Cond := .code yX1_faultOfIndex cX1_faultOfIndex 8 (some .int) :: ((wsX1_faultOfIndex_r1 ++ wsX1_faultOfIndex_r2) ++ wsX30 ++ wsX60 ++ wsX10)
def wsX1_faultOf_r1 : List Cond := [Cond.fieldLink RX1 15 "BlorbRows$Judge" "pieces" "I", Cond.fieldLink RX1 19 "BlorbRows$Judge" "faultAt" "I", Cond.methodLink RX1 22 yX1_faultOfHead, Cond.instanceMethod yX1_faultOfHead, Cond.selects RX1 yX1_faultOfHead yX1_faultOfHead, Cond.initialized RX1, Cond.code yX1_faultOfHead cX1_faultOfHead 2 (some .int), Cond.fieldLink RX1 32 "BlorbRows$Part" "length" "I", Cond.constantLong RX1 47 (1179603533), Cond.constantLong RX1 49 (1229345363), Cond.methodLink RX1 37 yX1_fail, Cond.instanceMethod yX1_fail, Cond.selects RX1 yX1_fail yX1_fail, Cond.code yX1_fail cX1_fail 3 (some .int), Cond.methodLink RX1 41 yX3_u4, Cond.instanceMethod yX3_u4, Cond.selects RX3 yX3_u4 yX3_u4, Cond.initialized RX3, Cond.code yX3_u4 cX3_u4 2 (some .long), Cond.methodLink RX3 23 yX3_number, Cond.instanceMethod yX3_number, Cond.selects RX3 yX3_number yX3_number, Cond.code yX3_number cX3_number 6 (some .long), Cond.constantLong RX3 31 (-1)]
def wsX1_faultOf_r2 : List Cond := [Cond.fieldLink RX3 13 "BlorbRows$Part" "row" "LBlorbRows$Row;", Cond.fieldLink RX3 33 "BlorbRows$Row" "octets" "[B", Cond.fieldLink RX3 19 "BlorbRows$Part" "from" "I", Cond.methodLink RX3 27 yX3_holds, Cond.instanceMethod yX3_holds, Cond.selects RX3 yX3_holds yX3_holds, Cond.code yX3_holds cX3_holds 3 (some .boolean), Cond.fieldLink RX3 22 "BlorbRows$Part" "length" "I", Cond.methodLink RX1 26 yX1_faultOfPieces, Cond.instanceMethod yX1_faultOfPieces, Cond.selects RX1 yX1_faultOfPieces yX1_faultOfPieces, Cond.code yX1_faultOfPieces cX1_faultOfPieces 5 (some .int), Cond.fieldLink RX1 9 "BlorbRows$Judge" "places" "[I", Cond.methodLink RX1 51 yX1_faultOfPiece, Cond.instanceMethod yX1_faultOfPiece, Cond.selects RX1 yX1_faultOfPiece yX1_faultOfPiece, Cond.code yX1_faultOfPiece cX1_faultOfPiece 10 (some .int), Cond.constant RX1 62 (1380541560), Cond.methodLink RX1 58 yX3_holds, Cond.methodLink RX1 63 yX2_isKind, Cond.static yX2_isKind, Cond.initialized RX2, Cond.code yX2_isKind cX2_isKind 1 (some .boolean), Cond.methodLink RX2 7 yX2_isLetter]
def wsX1_faultOf_r3 : List Cond := [Cond.static yX2_isLetter, Cond.code yX2_isLetter cX2_isLetter 1 (some .boolean), Cond.methodLink RX1 67 yX3_at, Cond.instanceMethod yX3_at, Cond.selects RX3 yX3_at yX3_at, Cond.code yX3_at cX3_at 2 (some .int), Cond.methodLink RX1 55 yX1_behindPiece, Cond.instanceMethod yX1_behindPiece, Cond.selects RX1 yX1_behindPiece yX1_behindPiece, Cond.code yX1_behindPiece cX1_behindPiece 4 (some .int), Cond.methodLink RX1 29 yX1_faultOfIndex, Cond.instanceMethod yX1_faultOfIndex, Cond.selects RX1 yX1_faultOfIndex yX1_faultOfIndex, Cond.code yX1_faultOfIndex cX1_faultOfIndex 8 (some .int), Cond.constantLong RX1 71 (4), Cond.constantLong RX1 73 (12), Cond.methodLink RX1 75 yX1_faultOfEntry, Cond.instanceMethod yX1_faultOfEntry, Cond.selects RX1 yX1_faultOfEntry yX1_faultOfEntry, Cond.code yX1_faultOfEntry cX1_faultOfEntry 6 (some .int), Cond.methodLink RX1 78 yX2_isUse, Cond.static yX2_isUse, Cond.code yX2_isUse cX2_isUse 1 (some .boolean), Cond.constant RX2 13 (1349084020)]
def wsX1_faultOf_r4 : List Cond := [Cond.constant RX2 14 (1399743520), Cond.constant RX2 15 (1147237473), Cond.constant RX2 16 (1165518179), Cond.methodLink RX1 81 yX1_pieceAt, Cond.instanceMethod yX1_pieceAt, Cond.selects RX1 yX1_pieceAt yX1_pieceAt, Cond.code yX1_pieceAt cX1_pieceAt 4 (some .int)]
def wsX1_faultOf : List Cond := .code yX1_faultOf cX1_faultOf 3 (some .int) :: ((wsX1_faultOf_r1 ++ (wsX1_faultOf_r2 ++ (wsX1_faultOf_r3 ++ wsX1_faultOf_r4))) ++ wsX10 ++ wsX30 ++ wsX60)
def wsX1_moveInto_r1 : List Cond := [Cond.fieldLink RX1 15 "BlorbRows$Judge" "pieces" "I", Cond.fieldLink RX1 9 "BlorbRows$Judge" "places" "[I", Cond.classLink RX1 33 RX3, Cond.instantiable RX3 3, Cond.initialized RX3, Cond.fieldLink RX1 90 "BlorbRows$Part" "row" "LBlorbRows$Row;", Cond.fieldLink RX1 94 "BlorbRows$Part" "from" "I", Cond.methodLink RX1 85 yX0_empty, Cond.instanceMethod yX0_empty, Cond.selects RX0 yX0_empty yX0_empty, Cond.initialized RX0, Cond.code yX0_empty cX0_empty 1 none, Cond.fieldLink RX0 14 "BlorbRows$House" "data" "LBlorbRows$Row;", Cond.fieldLink RX0 27 "BlorbRows$House" "chunks" "I", Cond.fieldLink RX0 41 "BlorbRows$House" "entries" "I", Cond.methodLink RX0 44 yX6_keep, Cond.instanceMethod yX6_keep, Cond.selects RX6 yX6_keep yX6_keep, Cond.initialized RX6, Cond.code yX6_keep cX6_keep 2 none, Cond.fieldLink RX6 19 "BlorbRows$Row" "length" "I", Cond.methodLink RX1 41 yX3_u4, Cond.instanceMethod yX3_u4, Cond.selects RX3 yX3_u4 yX3_u4]
def wsX1_moveInto_r2 : List Cond := [Cond.code yX3_u4 cX3_u4 2 (some .long), Cond.methodLink RX3 23 yX3_number, Cond.instanceMethod yX3_number, Cond.selects RX3 yX3_number yX3_number, Cond.code yX3_number cX3_number 6 (some .long), Cond.constantLong RX3 31 (-1), Cond.fieldLink RX3 13 "BlorbRows$Part" "row" "LBlorbRows$Row;", Cond.fieldLink RX3 33 "BlorbRows$Row" "octets" "[B", Cond.fieldLink RX3 19 "BlorbRows$Part" "from" "I", Cond.methodLink RX3 27 yX3_holds, Cond.instanceMethod yX3_holds, Cond.selects RX3 yX3_holds yX3_holds, Cond.code yX3_holds cX3_holds 3 (some .boolean), Cond.fieldLink RX3 22 "BlorbRows$Part" "length" "I", Cond.methodLink RX1 97 yX3_init, Cond.instanceMethod yX3_init, Cond.code yX3_init cX3_init 5 none, Cond.methodLink RX3 1 objectInit, Cond.instanceMethod objectInit, Cond.code objectInit ⟨#[0xb1]⟩ 1 none, Cond.fieldLink RX3 7 "BlorbRows$Row" "length" "I", Cond.methodLink RX1 100 yX0_addChunk, Cond.instanceMethod yX0_addChunk, Cond.selects RX0 yX0_addChunk yX0_addChunk]
def wsX1_moveInto_r3 : List Cond := [Cond.code yX0_addChunk cX0_addChunk 3 none, Cond.fieldLink RX0 80 "BlorbRows$Part" "length" "I", Cond.fieldLink RX0 20 "BlorbRows$House" "kinds" "[I", Cond.fieldLink RX0 24 "BlorbRows$House" "starts" "[I", Cond.fieldLink RX0 86 "BlorbRows$Row" "length" "I", Cond.methodLink RX0 83 yX0_hasChunkRoom, Cond.instanceMethod yX0_hasChunkRoom, Cond.selects RX0 yX0_hasChunkRoom yX0_hasChunkRoom, Cond.code yX0_hasChunkRoom cX0_hasChunkRoom 2 (some .boolean), Cond.methodLink RX0 47 yX6_room, Cond.instanceMethod yX6_room, Cond.selects RX6 yX6_room yX6_room, Cond.code yX6_room cX6_room 1 (some .int), Cond.fieldLink RX6 13 "BlorbRows$Row" "octets" "[B", Cond.methodLink RX0 87 yX6_splice, Cond.instanceMethod yX6_splice, Cond.selects RX6 yX6_splice yX6_splice, Cond.code yX6_splice cX6_splice 5 none, Cond.fieldLink RX6 32 "BlorbRows$Part" "length" "I", Cond.methodLink RX6 33 arraycopyName, Cond.native arraycopyName, Cond.static arraycopyName, Cond.initialized "java/lang/System", Cond.fieldLink RX6 39 "BlorbRows$Part" "row" "LBlorbRows$Row;"]
def wsX1_moveInto_r4 : List Cond := [Cond.fieldLink RX6 43 "BlorbRows$Part" "from" "I", Cond.methodLink RX6 28 yX6_room, Cond.methodLink RX1 81 yX1_pieceAt, Cond.instanceMethod yX1_pieceAt, Cond.selects RX1 yX1_pieceAt yX1_pieceAt, Cond.initialized RX1, Cond.code yX1_pieceAt cX1_pieceAt 4 (some .int), Cond.methodLink RX1 104 yX0_addEntry, Cond.instanceMethod yX0_addEntry, Cond.selects RX0 yX0_addEntry yX0_addEntry, Cond.code yX0_addEntry cX0_addEntry 5 none, Cond.fieldLink RX0 31 "BlorbRows$House" "uses" "[I", Cond.fieldLink RX0 34 "BlorbRows$House" "numbers" "[J", Cond.fieldLink RX0 38 "BlorbRows$House" "targets" "[I"]
def wsX1_moveInto : List Cond := .code yX1_moveInto cX1_moveInto 7 none :: ((wsX1_moveInto_r1 ++ (wsX1_moveInto_r2 ++ (wsX1_moveInto_r3 ++ wsX1_moveInto_r4))) ++ wsX10 ++ wsX30 ++ wsX00 ++ wsX60)
def wsX3_u2 : List Cond := .code yX3_u2 cX3_u2 2 (some .int) :: ([.methodLink RX3 23 yX3_number, .instanceMethod yX3_number, .selects RX3 yX3_number yX3_number, .initialized RX3, .code yX3_number cX3_number 6 (some .long), .constantLong RX3 31 (-1), .fieldLink RX3 13 "BlorbRows$Part" "row" "LBlorbRows$Row;", .fieldLink RX3 33 "BlorbRows$Row" "octets" "[B", .fieldLink RX3 19 "BlorbRows$Part" "from" "I", .methodLink RX3 27 yX3_holds, .instanceMethod yX3_holds, .selects RX3 yX3_holds yX3_holds, .code yX3_holds cX3_holds 3 (some .boolean), .fieldLink RX3 22 "BlorbRows$Part" "length" "I"] ++ wsX30 ++ wsX60)
def wsX4_ofRect : List Cond := .code yX4_ofRect cX4_ofRect 2 (some .long) :: ([.fieldLink RX4 23 "BlorbRows$Part" "length" "I", .constantLong RX4 21 (-2), .methodLink RX4 29 yX3_u4, .instanceMethod yX3_u4, .selects RX3 yX3_u4 yX3_u4, .initialized RX3, .code yX3_u4 cX3_u4 2 (some .long), .methodLink RX3 23 yX3_number, .instanceMethod yX3_number, .selects RX3 yX3_number yX3_number, .code yX3_number cX3_number 6 (some .long), .constantLong RX3 31 (-1), .fieldLink RX3 13 "BlorbRows$Part" "row" "LBlorbRows$Row;", .fieldLink RX3 33 "BlorbRows$Row" "octets" "[B", .fieldLink RX3 19 "BlorbRows$Part" "from" "I", .methodLink RX3 27 yX3_holds, .instanceMethod yX3_holds, .selects RX3 yX3_holds yX3_holds, .code yX3_holds cX3_holds 3 (some .boolean), .fieldLink RX3 22 "BlorbRows$Part" "length" "I"] ++ wsX30 ++ wsX60)
def wsX4_ofPng : List Cond := .code yX4_ofPng cX4_ofPng 3 (some .long) :: ([.fieldLink RX4 23 "BlorbRows$Part" "length" "I", .constantLong RX4 33 (2303741511), .constantLong RX4 35 (218765834), .constantLong RX4 39 (1229472850), .constantLong RX4 21 (-2), .methodLink RX4 29 yX3_u4, .instanceMethod yX3_u4, .selects RX3 yX3_u4 yX3_u4, .initialized RX3, .code yX3_u4 cX3_u4 2 (some .long), .methodLink RX3 23 yX3_number, .instanceMethod yX3_number, .selects RX3 yX3_number yX3_number, .code yX3_number cX3_number 6 (some .long), .constantLong RX3 31 (-1), .fieldLink RX3 13 "BlorbRows$Part" "row" "LBlorbRows$Row;", .fieldLink RX3 33 "BlorbRows$Row" "octets" "[B", .fieldLink RX3 19 "BlorbRows$Part" "from" "I", .methodLink RX3 27 yX3_holds, .instanceMethod yX3_holds, .selects RX3 yX3_holds yX3_holds, .code yX3_holds cX3_holds 3 (some .boolean), .fieldLink RX3 22 "BlorbRows$Part" "length" "I"] ++ wsX30 ++ wsX60)
def wsX4_behindFill : List Cond := .code yX4_behindFill cX4_behindFill 3 (some .int) :: ([.fieldLink RX4 23 "BlorbRows$Part" "length" "I", .methodLink RX4 46 yX3_at, .instanceMethod yX3_at, .selects RX3 yX3_at yX3_at, .initialized RX3, .code yX3_at cX3_at 2 (some .int), .methodLink RX3 23 yX3_number, .instanceMethod yX3_number, .selects RX3 yX3_number yX3_number, .code yX3_number cX3_number 6 (some .long), .constantLong RX3 31 (-1), .fieldLink RX3 13 "BlorbRows$Part" "row" "LBlorbRows$Row;", .fieldLink RX3 33 "BlorbRows$Row" "octets" "[B", .fieldLink RX3 19 "BlorbRows$Part" "from" "I", .methodLink RX3 27 yX3_holds, .instanceMethod yX3_holds, .selects RX3 yX3_holds yX3_holds, .code yX3_holds cX3_holds 3 (some .boolean), .fieldLink RX3 22 "BlorbRows$Part" "length" "I"] ++ wsX30 ++ wsX60)
def wsX4_standsAlone : List Cond := .code yX4_standsAlone cX4_standsAlone 1 (some .boolean) :: ([])
def wsX4_hasNoMeasure : List Cond := .code yX4_hasNoMeasure cX4_hasNoMeasure 1 (some .boolean) :: ([])
def wsX4_isFrame : List Cond := .code yX4_isFrame cX4_isFrame 1 (some .boolean) :: ([])
def wsX4_ofFrame : List Cond := .code yX4_ofFrame cX4_ofFrame 3 (some .long) :: ([.constantLong RX4 21 (-2), .methodLink RX4 41 yX3_u2, .instanceMethod yX3_u2, .selects RX3 yX3_u2 yX3_u2, .initialized RX3, .code yX3_u2 cX3_u2 2 (some .int), .methodLink RX3 23 yX3_number, .instanceMethod yX3_number, .selects RX3 yX3_number yX3_number, .code yX3_number cX3_number 6 (some .long), .constantLong RX3 31 (-1), .fieldLink RX3 13 "BlorbRows$Part" "row" "LBlorbRows$Row;", .fieldLink RX3 33 "BlorbRows$Row" "octets" "[B", .fieldLink RX3 19 "BlorbRows$Part" "from" "I", .methodLink RX3 27 yX3_holds, .instanceMethod yX3_holds, .selects RX3 yX3_holds yX3_holds, .code yX3_holds cX3_holds 3 (some .boolean), .fieldLink RX3 22 "BlorbRows$Part" "length" "I", .methodLink RX4 67 yX3_holds] ++ wsX30 ++ wsX60)
def wsX4_ofJpeg_r1 : List Cond := [Cond.constant RX4 45 (65496), Cond.constantLong RX4 21 (-2), Cond.fieldLink RX4 23 "BlorbRows$Part" "length" "I", Cond.methodLink RX4 41 yX3_u2, Cond.instanceMethod yX3_u2, Cond.selects RX3 yX3_u2 yX3_u2, Cond.initialized RX3, Cond.code yX3_u2 cX3_u2 2 (some .int), Cond.methodLink RX3 23 yX3_number, Cond.instanceMethod yX3_number, Cond.selects RX3 yX3_number yX3_number, Cond.code yX3_number cX3_number 6 (some .long), Cond.constantLong RX3 31 (-1), Cond.fieldLink RX3 13 "BlorbRows$Part" "row" "LBlorbRows$Row;", Cond.fieldLink RX3 33 "BlorbRows$Row" "octets" "[B", Cond.fieldLink RX3 19 "BlorbRows$Part" "from" "I", Cond.methodLink RX3 27 yX3_holds, Cond.instanceMethod yX3_holds, Cond.selects RX3 yX3_holds yX3_holds, Cond.code yX3_holds cX3_holds 3 (some .boolean), Cond.fieldLink RX3 22 "BlorbRows$Part" "length" "I", Cond.methodLink RX4 46 yX3_at, Cond.instanceMethod yX3_at, Cond.selects RX3 yX3_at yX3_at]
def wsX4_ofJpeg_r2 : List Cond := [Cond.code yX3_at cX3_at 2 (some .int), Cond.methodLink RX4 49 yX4_behindFill, Cond.static yX4_behindFill, Cond.initialized RX4, Cond.code yX4_behindFill cX4_behindFill 3 (some .int), Cond.methodLink RX4 53 yX4_standsAlone, Cond.static yX4_standsAlone, Cond.code yX4_standsAlone cX4_standsAlone 1 (some .boolean), Cond.methodLink RX4 57 yX4_hasNoMeasure, Cond.static yX4_hasNoMeasure, Cond.code yX4_hasNoMeasure cX4_hasNoMeasure 1 (some .boolean), Cond.methodLink RX4 60 yX4_isFrame, Cond.static yX4_isFrame, Cond.code yX4_isFrame cX4_isFrame 1 (some .boolean), Cond.methodLink RX4 63 yX4_ofFrame, Cond.static yX4_ofFrame, Cond.code yX4_ofFrame cX4_ofFrame 3 (some .long), Cond.methodLink RX4 67 yX3_holds]
def wsX4_ofJpeg : List Cond := .code yX4_ofJpeg cX4_ofJpeg 6 (some .long) :: ((wsX4_ofJpeg_r1 ++ wsX4_ofJpeg_r2) ++ wsX30 ++ wsX60)
def wsX4_measure_r1 : List Cond := [Cond.constantLong RX4 21 (-2), Cond.methodLink RX4 9 yX4_ofRect, Cond.static yX4_ofRect, Cond.initialized RX4, Cond.code yX4_ofRect cX4_ofRect 2 (some .long), Cond.fieldLink RX4 23 "BlorbRows$Part" "length" "I", Cond.methodLink RX4 29 yX3_u4, Cond.instanceMethod yX3_u4, Cond.selects RX3 yX3_u4 yX3_u4, Cond.initialized RX3, Cond.code yX3_u4 cX3_u4 2 (some .long), Cond.methodLink RX3 23 yX3_number, Cond.instanceMethod yX3_number, Cond.selects RX3 yX3_number yX3_number, Cond.code yX3_number cX3_number 6 (some .long), Cond.constantLong RX3 31 (-1), Cond.fieldLink RX3 13 "BlorbRows$Part" "row" "LBlorbRows$Row;", Cond.fieldLink RX3 33 "BlorbRows$Row" "octets" "[B", Cond.fieldLink RX3 19 "BlorbRows$Part" "from" "I", Cond.methodLink RX3 27 yX3_holds, Cond.instanceMethod yX3_holds, Cond.selects RX3 yX3_holds yX3_holds, Cond.code yX3_holds cX3_holds 3 (some .boolean), Cond.fieldLink RX3 22 "BlorbRows$Part" "length" "I"]
def wsX4_measure_r2 : List Cond := [Cond.methodLink RX4 15 yX4_ofPng, Cond.static yX4_ofPng, Cond.code yX4_ofPng cX4_ofPng 3 (some .long), Cond.constantLong RX4 33 (2303741511), Cond.constantLong RX4 35 (218765834), Cond.constantLong RX4 39 (1229472850), Cond.methodLink RX4 18 yX4_ofJpeg, Cond.static yX4_ofJpeg, Cond.code yX4_ofJpeg cX4_ofJpeg 6 (some .long), Cond.constant RX4 45 (65496), Cond.methodLink RX4 41 yX3_u2, Cond.instanceMethod yX3_u2, Cond.selects RX3 yX3_u2 yX3_u2, Cond.code yX3_u2 cX3_u2 2 (some .int), Cond.methodLink RX4 46 yX3_at, Cond.instanceMethod yX3_at, Cond.selects RX3 yX3_at yX3_at, Cond.code yX3_at cX3_at 2 (some .int), Cond.methodLink RX4 49 yX4_behindFill, Cond.static yX4_behindFill, Cond.code yX4_behindFill cX4_behindFill 3 (some .int), Cond.methodLink RX4 53 yX4_standsAlone, Cond.static yX4_standsAlone, Cond.code yX4_standsAlone cX4_standsAlone 1 (some .boolean)]
def wsX4_measure_r3 : List Cond := [Cond.methodLink RX4 57 yX4_hasNoMeasure, Cond.static yX4_hasNoMeasure, Cond.code yX4_hasNoMeasure cX4_hasNoMeasure 1 (some .boolean), Cond.methodLink RX4 60 yX4_isFrame, Cond.static yX4_isFrame, Cond.code yX4_isFrame cX4_isFrame 1 (some .boolean), Cond.methodLink RX4 63 yX4_ofFrame, Cond.static yX4_ofFrame, Cond.code yX4_ofFrame cX4_ofFrame 3 (some .long), Cond.methodLink RX4 67 yX3_holds]
def wsX4_measure : List Cond := .code yX4_measure cX4_measure 3 (some .long) :: ((wsX4_measure_r1 ++ (wsX4_measure_r2 ++ wsX4_measure_r3)) ++ wsX30 ++ wsX60)
def wsX5_init : List Cond := .code yX5_init cX5_init 5 none :: ([.methodLink RX5 3 objectInit, .instanceMethod objectInit, .code objectInit ⟨#[0xb1]⟩ 1 none, .fieldLink RX5 9 "BlorbRows$Ratio" "above" "J", .fieldLink RX5 15 "BlorbRows$Ratio" "below" "J"] ++ wsX50)
def wsX5_isNothing : List Cond := .code yX5_isNothing cX5_isNothing 1 (some .boolean) :: ([.fieldLink RX5 9 "BlorbRows$Ratio" "above" "J", .fieldLink RX5 15 "BlorbRows$Ratio" "below" "J"] ++ wsX50)
def wsX5_isProper : List Cond := .code yX5_isProper cX5_isProper 1 (some .boolean) :: ([.fieldLink RX5 9 "BlorbRows$Ratio" "above" "J", .fieldLink RX5 15 "BlorbRows$Ratio" "below" "J"] ++ wsX50)
def wsX5_isUsable : List Cond := .code yX5_isUsable cX5_isUsable 1 (some .boolean) :: ([.fieldLink RX5 9 "BlorbRows$Ratio" "above" "J", .constantLong RX5 22 (65535), .fieldLink RX5 15 "BlorbRows$Ratio" "below" "J", .methodLink RX5 18 yX5_isProper, .instanceMethod yX5_isProper, .selects RX5 yX5_isProper yX5_isProper, .initialized RX5, .code yX5_isProper cX5_isProper 1 (some .boolean)] ++ wsX50)
def wsX5_isLimit : List Cond := .code yX5_isLimit cX5_isLimit 1 (some .boolean) :: ([.methodLink RX5 24 yX5_isNothing, .instanceMethod yX5_isNothing, .selects RX5 yX5_isNothing yX5_isNothing, .initialized RX5, .code yX5_isNothing cX5_isNothing 1 (some .boolean), .fieldLink RX5 9 "BlorbRows$Ratio" "above" "J", .fieldLink RX5 15 "BlorbRows$Ratio" "below" "J", .methodLink RX5 27 yX5_isUsable, .instanceMethod yX5_isUsable, .selects RX5 yX5_isUsable yX5_isUsable, .code yX5_isUsable cX5_isUsable 1 (some .boolean), .constantLong RX5 22 (65535), .methodLink RX5 18 yX5_isProper, .instanceMethod yX5_isProper, .selects RX5 yX5_isProper yX5_isProper, .code yX5_isProper cX5_isProper 1 (some .boolean)] ++ wsX50)
def wsX5_isBelow : List Cond := .code yX5_isBelow cX5_isBelow 2 (some .boolean) :: ([.fieldLink RX5 9 "BlorbRows$Ratio" "above" "J", .fieldLink RX5 15 "BlorbRows$Ratio" "below" "J"] ++ wsX50)
def wsX5_times : List Cond := .code yX5_times cX5_times 2 (some (.object "BlorbRows$Ratio")) :: ([.classLink RX5 10 RX5, .instantiable RX5 2, .initialized RX5, .fieldLink RX5 9 "BlorbRows$Ratio" "above" "J", .fieldLink RX5 15 "BlorbRows$Ratio" "below" "J", .methodLink RX5 30 yX5_init, .instanceMethod yX5_init, .code yX5_init cX5_init 5 none, .methodLink RX5 3 objectInit, .instanceMethod objectInit, .code objectInit ⟨#[0xb1]⟩ 1 none] ++ wsX50)
def wsX5_of : List Cond := .code yX5_of cX5_of 3 (some .long) :: ([.fieldLink RX5 15 "BlorbRows$Ratio" "below" "J", .fieldLink RX5 9 "BlorbRows$Ratio" "above" "J", .constantLong RX5 33 (-2)] ++ wsX50)
def wsX6_whole : List Cond := .code yX6_whole cX6_whole 1 (some (.object "BlorbRows$Part")) :: ([.classLink RX6 23 RX3, .instantiable RX3 3, .initialized RX3, .fieldLink RX6 19 "BlorbRows$Row" "length" "I", .methodLink RX6 25 yX3_init, .instanceMethod yX3_init, .code yX3_init cX3_init 5 none, .methodLink RX3 1 objectInit, .instanceMethod objectInit, .code objectInit ⟨#[0xb1]⟩ 1 none, .fieldLink RX3 7 "BlorbRows$Row" "length" "I", .fieldLink RX3 13 "BlorbRows$Part" "row" "LBlorbRows$Row;", .fieldLink RX3 19 "BlorbRows$Part" "from" "I", .fieldLink RX3 22 "BlorbRows$Part" "length" "I"] ++ wsX30 ++ wsX60)
def wsX7_rate : List Cond := .code yX7_rate cX7_rate 6 (some .long) :: ([.constantLong RX7 19 (-2), .methodLink RX7 39 yX3_u2, .instanceMethod yX3_u2, .selects RX3 yX3_u2 yX3_u2, .initialized RX3, .code yX3_u2 cX3_u2 2 (some .int), .methodLink RX3 23 yX3_number, .instanceMethod yX3_number, .selects RX3 yX3_number yX3_number, .code yX3_number cX3_number 6 (some .long), .constantLong RX3 31 (-1), .fieldLink RX3 13 "BlorbRows$Part" "row" "LBlorbRows$Row;", .fieldLink RX3 33 "BlorbRows$Row" "octets" "[B", .fieldLink RX3 19 "BlorbRows$Part" "from" "I", .methodLink RX3 27 yX3_holds, .instanceMethod yX3_holds, .selects RX3 yX3_holds yX3_holds, .code yX3_holds cX3_holds 3 (some .boolean), .fieldLink RX3 22 "BlorbRows$Part" "length" "I", .methodLink RX7 9 yX3_u4, .instanceMethod yX3_u4, .selects RX3 yX3_u4 yX3_u4, .code yX3_u4 cX3_u4 2 (some .long)] ++ wsX30 ++ wsX60)
def wsX7_ofComm_r1 : List Cond := [Cond.constantLong RX7 19 (-2), Cond.methodLink RX7 39 yX3_u2, Cond.instanceMethod yX3_u2, Cond.selects RX3 yX3_u2 yX3_u2, Cond.initialized RX3, Cond.code yX3_u2 cX3_u2 2 (some .int), Cond.methodLink RX3 23 yX3_number, Cond.instanceMethod yX3_number, Cond.selects RX3 yX3_number yX3_number, Cond.code yX3_number cX3_number 6 (some .long), Cond.constantLong RX3 31 (-1), Cond.fieldLink RX3 13 "BlorbRows$Part" "row" "LBlorbRows$Row;", Cond.fieldLink RX3 33 "BlorbRows$Row" "octets" "[B", Cond.fieldLink RX3 19 "BlorbRows$Part" "from" "I", Cond.methodLink RX3 27 yX3_holds, Cond.instanceMethod yX3_holds, Cond.selects RX3 yX3_holds yX3_holds, Cond.code yX3_holds cX3_holds 3 (some .boolean), Cond.fieldLink RX3 22 "BlorbRows$Part" "length" "I", Cond.methodLink RX7 9 yX3_u4, Cond.instanceMethod yX3_u4, Cond.selects RX3 yX3_u4 yX3_u4, Cond.code yX3_u4 cX3_u4 2 (some .long), Cond.methodLink RX7 43 yX7_rate]
def wsX7_ofComm_r2 : List Cond := [Cond.static yX7_rate, Cond.initialized RX7, Cond.code yX7_rate cX7_rate 6 (some .long)]
def wsX7_ofComm : List Cond := .code yX7_ofComm cX7_ofComm 3 (some .long) :: ((wsX7_ofComm_r1 ++ wsX7_ofComm_r2) ++ wsX30 ++ wsX60)
def wsX7_measure_r1 : List Cond := [Cond.constantLong RX7 17 (1095321158), Cond.constantLong RX7 19 (-2), Cond.fieldLink RX7 21 "BlorbRows$Part" "length" "I", Cond.constantLong RX7 29 (1129270605), Cond.constantLong RX7 33 (18), Cond.methodLink RX7 9 yX3_u4, Cond.instanceMethod yX3_u4, Cond.selects RX3 yX3_u4 yX3_u4, Cond.initialized RX3, Cond.code yX3_u4 cX3_u4 2 (some .long), Cond.methodLink RX3 23 yX3_number, Cond.instanceMethod yX3_number, Cond.selects RX3 yX3_number yX3_number, Cond.code yX3_number cX3_number 6 (some .long), Cond.constantLong RX3 31 (-1), Cond.fieldLink RX3 13 "BlorbRows$Part" "row" "LBlorbRows$Row;", Cond.fieldLink RX3 33 "BlorbRows$Row" "octets" "[B", Cond.fieldLink RX3 19 "BlorbRows$Part" "from" "I", Cond.methodLink RX3 27 yX3_holds, Cond.instanceMethod yX3_holds, Cond.selects RX3 yX3_holds yX3_holds, Cond.code yX3_holds cX3_holds 3 (some .boolean), Cond.fieldLink RX3 22 "BlorbRows$Part" "length" "I", Cond.methodLink RX7 25 yX3_holds]
def wsX7_measure_r2 : List Cond := [Cond.methodLink RX7 35 yX7_ofComm, Cond.static yX7_ofComm, Cond.initialized RX7, Cond.code yX7_ofComm cX7_ofComm 3 (some .long), Cond.methodLink RX7 39 yX3_u2, Cond.instanceMethod yX3_u2, Cond.selects RX3 yX3_u2 yX3_u2, Cond.code yX3_u2 cX3_u2 2 (some .int), Cond.methodLink RX7 43 yX7_rate, Cond.static yX7_rate, Cond.code yX7_rate cX7_rate 6 (some .long)]
def wsX7_measure : List Cond := .code yX7_measure cX7_measure 6 (some .long) :: ((wsX7_measure_r1 ++ wsX7_measure_r2) ++ wsX30 ++ wsX60)
def wsX8_rowOf : List Cond := .code yX8_rowOf cX8_rowOf 4 (some .int) :: ([.fieldLink RX8 9 "BlorbRows$Part" "length" "I", .methodLink RX8 17 yX3_u4, .instanceMethod yX3_u4, .selects RX3 yX3_u4 yX3_u4, .initialized RX3, .code yX3_u4 cX3_u4 2 (some .long), .methodLink RX3 23 yX3_number, .instanceMethod yX3_number, .selects RX3 yX3_number yX3_number, .code yX3_number cX3_number 6 (some .long), .constantLong RX3 31 (-1), .fieldLink RX3 13 "BlorbRows$Part" "row" "LBlorbRows$Row;", .fieldLink RX3 33 "BlorbRows$Row" "octets" "[B", .fieldLink RX3 19 "BlorbRows$Part" "from" "I", .methodLink RX3 27 yX3_holds, .instanceMethod yX3_holds, .selects RX3 yX3_holds yX3_holds, .code yX3_holds cX3_holds 3 (some .boolean), .fieldLink RX3 22 "BlorbRows$Part" "length" "I"] ++ wsX30 ++ wsX60)
def wsX8_ratioAt_r1 : List Cond := [Cond.classLink RX8 21 RX5, Cond.instantiable RX5 2, Cond.initialized RX5, Cond.methodLink RX8 17 yX3_u4, Cond.instanceMethod yX3_u4, Cond.selects RX3 yX3_u4 yX3_u4, Cond.initialized RX3, Cond.code yX3_u4 cX3_u4 2 (some .long), Cond.methodLink RX3 23 yX3_number, Cond.instanceMethod yX3_number, Cond.selects RX3 yX3_number yX3_number, Cond.code yX3_number cX3_number 6 (some .long), Cond.constantLong RX3 31 (-1), Cond.fieldLink RX3 13 "BlorbRows$Part" "row" "LBlorbRows$Row;", Cond.fieldLink RX3 33 "BlorbRows$Row" "octets" "[B", Cond.fieldLink RX3 19 "BlorbRows$Part" "from" "I", Cond.methodLink RX3 27 yX3_holds, Cond.instanceMethod yX3_holds, Cond.selects RX3 yX3_holds yX3_holds, Cond.code yX3_holds cX3_holds 3 (some .boolean), Cond.fieldLink RX3 22 "BlorbRows$Part" "length" "I", Cond.methodLink RX8 23 yX5_init, Cond.instanceMethod yX5_init, Cond.code yX5_init cX5_init 5 none]
def wsX8_ratioAt_r2 : List Cond := [Cond.methodLink RX5 3 objectInit, Cond.instanceMethod objectInit, Cond.code objectInit ⟨#[0xb1]⟩ 1 none, Cond.fieldLink RX5 9 "BlorbRows$Ratio" "above" "J", Cond.fieldLink RX5 15 "BlorbRows$Ratio" "below" "J"]
def wsX8_ratioAt : List Cond := .code yX8_ratioAt cX8_ratioAt 2 (some (.object "BlorbRows$Ratio")) :: ((wsX8_ratioAt_r1 ++ wsX8_ratioAt_r2) ++ wsX50 ++ wsX30 ++ wsX60)
def wsX8_ratioOn_r1 : List Cond := [Cond.classLink RX8 21 RX5, Cond.instantiable RX5 2, Cond.initialized RX5, Cond.methodLink RX8 17 yX3_u4, Cond.instanceMethod yX3_u4, Cond.selects RX3 yX3_u4 yX3_u4, Cond.initialized RX3, Cond.code yX3_u4 cX3_u4 2 (some .long), Cond.methodLink RX3 23 yX3_number, Cond.instanceMethod yX3_number, Cond.selects RX3 yX3_number yX3_number, Cond.code yX3_number cX3_number 6 (some .long), Cond.constantLong RX3 31 (-1), Cond.fieldLink RX3 13 "BlorbRows$Part" "row" "LBlorbRows$Row;", Cond.fieldLink RX3 33 "BlorbRows$Row" "octets" "[B", Cond.fieldLink RX3 19 "BlorbRows$Part" "from" "I", Cond.methodLink RX3 27 yX3_holds, Cond.instanceMethod yX3_holds, Cond.selects RX3 yX3_holds yX3_holds, Cond.code yX3_holds cX3_holds 3 (some .boolean), Cond.fieldLink RX3 22 "BlorbRows$Part" "length" "I", Cond.methodLink RX8 23 yX5_init, Cond.instanceMethod yX5_init, Cond.code yX5_init cX5_init 5 none]
def wsX8_ratioOn_r2 : List Cond := [Cond.methodLink RX5 3 objectInit, Cond.instanceMethod objectInit, Cond.code objectInit ⟨#[0xb1]⟩ 1 none, Cond.fieldLink RX5 9 "BlorbRows$Ratio" "above" "J", Cond.fieldLink RX5 15 "BlorbRows$Ratio" "below" "J", Cond.methodLink RX8 26 yX8_ratioAt, Cond.static yX8_ratioAt, Cond.initialized RX8, Cond.code yX8_ratioAt cX8_ratioAt 2 (some (.object "BlorbRows$Ratio")), Cond.methodLink RX8 30 yX5_isUsable, Cond.instanceMethod yX5_isUsable, Cond.selects RX5 yX5_isUsable yX5_isUsable, Cond.code yX5_isUsable cX5_isUsable 1 (some .boolean), Cond.constantLong RX5 22 (65535), Cond.methodLink RX5 18 yX5_isProper, Cond.instanceMethod yX5_isProper, Cond.selects RX5 yX5_isProper yX5_isProper, Cond.code yX5_isProper cX5_isProper 1 (some .boolean), Cond.methodLink RX8 34 yX5_isLimit, Cond.instanceMethod yX5_isLimit, Cond.selects RX5 yX5_isLimit yX5_isLimit, Cond.code yX5_isLimit cX5_isLimit 1 (some .boolean), Cond.methodLink RX5 24 yX5_isNothing, Cond.instanceMethod yX5_isNothing]
def wsX8_ratioOn_r3 : List Cond := [Cond.selects RX5 yX5_isNothing yX5_isNothing, Cond.code yX5_isNothing cX5_isNothing 1 (some .boolean), Cond.methodLink RX5 27 yX5_isUsable, Cond.methodLink RX8 37 yX5_isBelow, Cond.instanceMethod yX5_isBelow, Cond.selects RX5 yX5_isBelow yX5_isBelow, Cond.code yX5_isBelow cX5_isBelow 2 (some .boolean), Cond.methodLink RX8 41 yX5_times, Cond.instanceMethod yX5_times, Cond.selects RX5 yX5_times yX5_times, Cond.code yX5_times cX5_times 2 (some (.object "BlorbRows$Ratio")), Cond.classLink RX5 10 RX5, Cond.methodLink RX5 30 yX5_init, Cond.methodLink RX8 45 yX5_isNothing]
def wsX8_ratioOn : List Cond := .code yX8_ratioOn cX8_ratioOn 11 (some (.object "BlorbRows$Ratio")) :: ((wsX8_ratioOn_r1 ++ (wsX8_ratioOn_r2 ++ wsX8_ratioOn_r3)) ++ wsX50 ++ wsX30 ++ wsX60)
def wsX9_init_r1 : List Cond := [Cond.methodLink RX9 3 objectInit, Cond.instanceMethod objectInit, Cond.code objectInit ⟨#[0xb1]⟩ 1 none, Cond.classLink RX9 9 RX6, Cond.instantiable RX6 2, Cond.initialized RX6, Cond.fieldLink RX9 14 "BlorbRows" "tape" "LBlorbRows$Row;", Cond.fieldLink RX9 18 "BlorbRows" "outRow" "LBlorbRows$Row;", Cond.classLink RX9 21 RX0, Cond.instantiable RX0 8, Cond.initialized RX0, Cond.fieldLink RX9 24 "BlorbRows" "house" "LBlorbRows$House;", Cond.classLink RX9 28 RX1, Cond.instantiable RX1 3, Cond.initialized RX1, Cond.fieldLink RX9 31 "BlorbRows" "judge" "LBlorbRows$Judge;", Cond.fieldLink RX9 35 "BlorbRows" "faultPlace" "I", Cond.methodLink RX9 11 yX6_init, Cond.instanceMethod yX6_init, Cond.code yX6_init cX6_init 2 none, Cond.methodLink RX6 1 objectInit, Cond.methodLink RX6 7 Lib.Math.max.name, Cond.static Lib.Math.max.name, Cond.initialized "java/lang/Math"]
def wsX9_init_r2 : List Cond := [Cond.code Lib.Math.max.name Lib.Math.max.code 2 (some .int), Cond.arrayClass .byte, Cond.fieldLink RX6 13 "BlorbRows$Row" "octets" "[B", Cond.fieldLink RX6 19 "BlorbRows$Row" "length" "I", Cond.methodLink RX9 23 yX0_init, Cond.instanceMethod yX0_init, Cond.code yX0_init cX0_init 1 none, Cond.methodLink RX0 3 objectInit, Cond.classLink RX0 9 RX6, Cond.fieldLink RX0 14 "BlorbRows$House" "data" "LBlorbRows$Row;", Cond.arrayClass .int, Cond.fieldLink RX0 20 "BlorbRows$House" "kinds" "[I", Cond.fieldLink RX0 24 "BlorbRows$House" "starts" "[I", Cond.fieldLink RX0 27 "BlorbRows$House" "chunks" "I", Cond.fieldLink RX0 31 "BlorbRows$House" "uses" "[I", Cond.arrayClass .long, Cond.fieldLink RX0 34 "BlorbRows$House" "numbers" "[J", Cond.fieldLink RX0 38 "BlorbRows$House" "targets" "[I", Cond.fieldLink RX0 41 "BlorbRows$House" "entries" "I", Cond.methodLink RX0 11 yX6_init, Cond.methodLink RX9 30 yX1_init, Cond.instanceMethod yX1_init, Cond.code yX1_init cX1_init 1 none, Cond.methodLink RX1 3 objectInit]
def wsX9_init_r3 : List Cond := [Cond.fieldLink RX1 9 "BlorbRows$Judge" "places" "[I", Cond.fieldLink RX1 15 "BlorbRows$Judge" "pieces" "I", Cond.fieldLink RX1 19 "BlorbRows$Judge" "faultAt" "I"]
def wsX9_init : List Cond := .code yX9_init cX9_init 1 none :: ((wsX9_init_r1 ++ (wsX9_init_r2 ++ wsX9_init_r3)) ++ wsX60 ++ wsX90 ++ wsX00 ++ wsX10)
def wsX9_feed : List Cond := .code yX9_feed cX9_feed 4 (some .int) :: ([.fieldLink RX9 14 "BlorbRows" "tape" "LBlorbRows$Row;", .fieldLink RX9 47 "BlorbRows$Row" "length" "I", .methodLink RX9 39 yX6_room, .instanceMethod yX6_room, .selects RX6 yX6_room yX6_room, .initialized RX6, .code yX6_room cX6_room 1 (some .int), .fieldLink RX6 13 "BlorbRows$Row" "octets" "[B", .fieldLink RX6 19 "BlorbRows$Row" "length" "I", .methodLink RX9 43 yX6_append, .instanceMethod yX6_append, .selects RX6 yX6_append yX6_append, .code yX6_append cX6_append 5 none, .methodLink RX6 28 yX6_room] ++ wsX90 ++ wsX60)
def wsX9_cut : List Cond := .code yX9_cut cX9_cut 3 (some .int) :: ([.fieldLink RX9 14 "BlorbRows" "tape" "LBlorbRows$Row;", .fieldLink RX9 47 "BlorbRows$Row" "length" "I", .methodLink RX9 50 yX6_keep, .instanceMethod yX6_keep, .selects RX6 yX6_keep yX6_keep, .initialized RX6, .code yX6_keep cX6_keep 2 none, .fieldLink RX6 19 "BlorbRows$Row" "length" "I"] ++ wsX90 ++ wsX60)
def wsX9_read_r1 : List Cond := [Cond.fieldLink RX9 14 "BlorbRows" "tape" "LBlorbRows$Row;", Cond.fieldLink RX9 31 "BlorbRows" "judge" "LBlorbRows$Judge;", Cond.fieldLink RX9 35 "BlorbRows" "faultPlace" "I", Cond.fieldLink RX9 24 "BlorbRows" "house" "LBlorbRows$House;", Cond.fieldLink RX9 65 "BlorbRows$Judge" "faultAt" "I", Cond.fieldLink RX9 68 "BlorbRows$House" "chunks" "I", Cond.methodLink RX9 53 yX6_whole, Cond.instanceMethod yX6_whole, Cond.selects RX6 yX6_whole yX6_whole, Cond.initialized RX6, Cond.code yX6_whole cX6_whole 1 (some (.object "BlorbRows$Part")), Cond.classLink RX6 23 RX3, Cond.instantiable RX3 3, Cond.initialized RX3, Cond.fieldLink RX6 19 "BlorbRows$Row" "length" "I", Cond.methodLink RX6 25 yX3_init, Cond.instanceMethod yX3_init, Cond.code yX3_init cX3_init 5 none, Cond.methodLink RX3 1 objectInit, Cond.instanceMethod objectInit, Cond.code objectInit ⟨#[0xb1]⟩ 1 none, Cond.fieldLink RX3 7 "BlorbRows$Row" "length" "I", Cond.fieldLink RX3 13 "BlorbRows$Part" "row" "LBlorbRows$Row;", Cond.fieldLink RX3 19 "BlorbRows$Part" "from" "I"]
def wsX9_read_r2 : List Cond := [Cond.fieldLink RX3 22 "BlorbRows$Part" "length" "I", Cond.methodLink RX9 57 yX1_faultOf, Cond.instanceMethod yX1_faultOf, Cond.selects RX1 yX1_faultOf yX1_faultOf, Cond.initialized RX1, Cond.code yX1_faultOf cX1_faultOf 3 (some .int), Cond.fieldLink RX1 15 "BlorbRows$Judge" "pieces" "I", Cond.fieldLink RX1 19 "BlorbRows$Judge" "faultAt" "I", Cond.methodLink RX1 22 yX1_faultOfHead, Cond.instanceMethod yX1_faultOfHead, Cond.selects RX1 yX1_faultOfHead yX1_faultOfHead, Cond.code yX1_faultOfHead cX1_faultOfHead 2 (some .int), Cond.fieldLink RX1 32 "BlorbRows$Part" "length" "I", Cond.constantLong RX1 47 (1179603533), Cond.constantLong RX1 49 (1229345363), Cond.methodLink RX1 37 yX1_fail, Cond.instanceMethod yX1_fail, Cond.selects RX1 yX1_fail yX1_fail, Cond.code yX1_fail cX1_fail 3 (some .int), Cond.methodLink RX1 41 yX3_u4, Cond.instanceMethod yX3_u4, Cond.selects RX3 yX3_u4 yX3_u4, Cond.code yX3_u4 cX3_u4 2 (some .long), Cond.methodLink RX3 23 yX3_number]
def wsX9_read_r3 : List Cond := [Cond.instanceMethod yX3_number, Cond.selects RX3 yX3_number yX3_number, Cond.code yX3_number cX3_number 6 (some .long), Cond.constantLong RX3 31 (-1), Cond.fieldLink RX3 33 "BlorbRows$Row" "octets" "[B", Cond.methodLink RX3 27 yX3_holds, Cond.instanceMethod yX3_holds, Cond.selects RX3 yX3_holds yX3_holds, Cond.code yX3_holds cX3_holds 3 (some .boolean), Cond.methodLink RX1 26 yX1_faultOfPieces, Cond.instanceMethod yX1_faultOfPieces, Cond.selects RX1 yX1_faultOfPieces yX1_faultOfPieces, Cond.code yX1_faultOfPieces cX1_faultOfPieces 5 (some .int), Cond.fieldLink RX1 9 "BlorbRows$Judge" "places" "[I", Cond.methodLink RX1 51 yX1_faultOfPiece, Cond.instanceMethod yX1_faultOfPiece, Cond.selects RX1 yX1_faultOfPiece yX1_faultOfPiece, Cond.code yX1_faultOfPiece cX1_faultOfPiece 10 (some .int), Cond.constant RX1 62 (1380541560), Cond.methodLink RX1 58 yX3_holds, Cond.methodLink RX1 63 yX2_isKind, Cond.static yX2_isKind, Cond.initialized RX2, Cond.code yX2_isKind cX2_isKind 1 (some .boolean)]
def wsX9_read_r4 : List Cond := [Cond.methodLink RX2 7 yX2_isLetter, Cond.static yX2_isLetter, Cond.code yX2_isLetter cX2_isLetter 1 (some .boolean), Cond.methodLink RX1 67 yX3_at, Cond.instanceMethod yX3_at, Cond.selects RX3 yX3_at yX3_at, Cond.code yX3_at cX3_at 2 (some .int), Cond.methodLink RX1 55 yX1_behindPiece, Cond.instanceMethod yX1_behindPiece, Cond.selects RX1 yX1_behindPiece yX1_behindPiece, Cond.code yX1_behindPiece cX1_behindPiece 4 (some .int), Cond.methodLink RX1 29 yX1_faultOfIndex, Cond.instanceMethod yX1_faultOfIndex, Cond.selects RX1 yX1_faultOfIndex yX1_faultOfIndex, Cond.code yX1_faultOfIndex cX1_faultOfIndex 8 (some .int), Cond.constantLong RX1 71 (4), Cond.constantLong RX1 73 (12), Cond.methodLink RX1 75 yX1_faultOfEntry, Cond.instanceMethod yX1_faultOfEntry, Cond.selects RX1 yX1_faultOfEntry yX1_faultOfEntry, Cond.code yX1_faultOfEntry cX1_faultOfEntry 6 (some .int), Cond.methodLink RX1 78 yX2_isUse, Cond.static yX2_isUse, Cond.code yX2_isUse cX2_isUse 1 (some .boolean)]
def wsX9_read_r5 : List Cond := [Cond.constant RX2 13 (1349084020), Cond.constant RX2 14 (1399743520), Cond.constant RX2 15 (1147237473), Cond.constant RX2 16 (1165518179), Cond.methodLink RX1 81 yX1_pieceAt, Cond.instanceMethod yX1_pieceAt, Cond.selects RX1 yX1_pieceAt yX1_pieceAt, Cond.code yX1_pieceAt cX1_pieceAt 4 (some .int), Cond.methodLink RX9 61 yX1_moveInto, Cond.instanceMethod yX1_moveInto, Cond.selects RX1 yX1_moveInto yX1_moveInto, Cond.code yX1_moveInto cX1_moveInto 7 none, Cond.classLink RX1 33 RX3, Cond.fieldLink RX1 90 "BlorbRows$Part" "row" "LBlorbRows$Row;", Cond.fieldLink RX1 94 "BlorbRows$Part" "from" "I", Cond.methodLink RX1 85 yX0_empty, Cond.instanceMethod yX0_empty, Cond.selects RX0 yX0_empty yX0_empty, Cond.initialized RX0, Cond.code yX0_empty cX0_empty 1 none, Cond.fieldLink RX0 14 "BlorbRows$House" "data" "LBlorbRows$Row;", Cond.fieldLink RX0 27 "BlorbRows$House" "chunks" "I", Cond.fieldLink RX0 41 "BlorbRows$House" "entries" "I", Cond.methodLink RX0 44 yX6_keep]
def wsX9_read_r6 : List Cond := [Cond.instanceMethod yX6_keep, Cond.selects RX6 yX6_keep yX6_keep, Cond.code yX6_keep cX6_keep 2 none, Cond.methodLink RX1 97 yX3_init, Cond.methodLink RX1 100 yX0_addChunk, Cond.instanceMethod yX0_addChunk, Cond.selects RX0 yX0_addChunk yX0_addChunk, Cond.code yX0_addChunk cX0_addChunk 3 none, Cond.fieldLink RX0 80 "BlorbRows$Part" "length" "I", Cond.fieldLink RX0 20 "BlorbRows$House" "kinds" "[I", Cond.fieldLink RX0 24 "BlorbRows$House" "starts" "[I", Cond.fieldLink RX0 86 "BlorbRows$Row" "length" "I", Cond.methodLink RX0 83 yX0_hasChunkRoom, Cond.instanceMethod yX0_hasChunkRoom, Cond.selects RX0 yX0_hasChunkRoom yX0_hasChunkRoom, Cond.code yX0_hasChunkRoom cX0_hasChunkRoom 2 (some .boolean), Cond.methodLink RX0 47 yX6_room, Cond.instanceMethod yX6_room, Cond.selects RX6 yX6_room yX6_room, Cond.code yX6_room cX6_room 1 (some .int), Cond.fieldLink RX6 13 "BlorbRows$Row" "octets" "[B", Cond.methodLink RX0 87 yX6_splice, Cond.instanceMethod yX6_splice, Cond.selects RX6 yX6_splice yX6_splice]
def wsX9_read_r7 : List Cond := [Cond.code yX6_splice cX6_splice 5 none, Cond.fieldLink RX6 32 "BlorbRows$Part" "length" "I", Cond.methodLink RX6 33 arraycopyName, Cond.native arraycopyName, Cond.static arraycopyName, Cond.initialized "java/lang/System", Cond.fieldLink RX6 39 "BlorbRows$Part" "row" "LBlorbRows$Row;", Cond.fieldLink RX6 43 "BlorbRows$Part" "from" "I", Cond.methodLink RX6 28 yX6_room, Cond.methodLink RX1 104 yX0_addEntry, Cond.instanceMethod yX0_addEntry, Cond.selects RX0 yX0_addEntry yX0_addEntry, Cond.code yX0_addEntry cX0_addEntry 5 none, Cond.fieldLink RX0 31 "BlorbRows$House" "uses" "[I", Cond.fieldLink RX0 34 "BlorbRows$House" "numbers" "[J", Cond.fieldLink RX0 38 "BlorbRows$House" "targets" "[I", Cond.methodLink RX9 50 yX6_keep]
def wsX9_read : List Cond := .code yX9_read cX9_read 3 (some .int) :: ((wsX9_read_r1 ++ (wsX9_read_r2 ++ (wsX9_read_r3 ++ (wsX9_read_r4 ++ (wsX9_read_r5 ++ (wsX9_read_r6 ++ wsX9_read_r7)))))) ++ wsX90 ++ wsX10 ++ wsX00 ++ wsX30 ++ wsX60)
def wsX9_place : List Cond := .code yX9_place cX9_place 1 (some .int) :: ([.fieldLink RX9 35 "BlorbRows" "faultPlace" "I"] ++ wsX90)
def wsX9_told : List Cond := .code yX9_told cX9_told 2 (some .int) :: ([.fieldLink RX9 24 "BlorbRows" "house" "LBlorbRows$House;", .fieldLink RX9 68 "BlorbRows$House" "chunks" "I", .fieldLink RX9 71 "BlorbRows$House" "entries" "I", .fieldLink RX9 74 "BlorbRows$House" "data" "LBlorbRows$Row;", .fieldLink RX9 47 "BlorbRows$Row" "length" "I", .fieldLink RX9 14 "BlorbRows" "tape" "LBlorbRows$Row;", .fieldLink RX9 18 "BlorbRows" "outRow" "LBlorbRows$Row;"] ++ wsX90 ++ wsX00 ++ wsX60)
def wsX9_chunk_r1 : List Cond := [Cond.fieldLink RX9 24 "BlorbRows" "house" "LBlorbRows$House;", Cond.methodLink RX9 77 yX0_hasChunk, Cond.instanceMethod yX0_hasChunk, Cond.selects RX0 yX0_hasChunk yX0_hasChunk, Cond.initialized RX0, Cond.code yX0_hasChunk cX0_hasChunk 2 (some .boolean), Cond.fieldLink RX0 27 "BlorbRows$House" "chunks" "I", Cond.methodLink RX9 81 yX0_kindOf, Cond.instanceMethod yX0_kindOf, Cond.selects RX0 yX0_kindOf yX0_kindOf, Cond.code yX0_kindOf cX0_kindOf 2 (some .int), Cond.fieldLink RX0 20 "BlorbRows$House" "kinds" "[I", Cond.methodLink RX0 51 yX0_hasChunk, Cond.methodLink RX9 85 yX0_lengthOf, Cond.instanceMethod yX0_lengthOf, Cond.selects RX0 yX0_lengthOf yX0_lengthOf, Cond.code yX0_lengthOf cX0_lengthOf 2 (some .int), Cond.fieldLink RX0 24 "BlorbRows$House" "starts" "[I", Cond.methodLink RX9 88 yX0_placeOf, Cond.instanceMethod yX0_placeOf, Cond.selects RX0 yX0_placeOf yX0_placeOf, Cond.code yX0_placeOf cX0_placeOf 4 (some .int), Cond.fieldLink RX0 41 "BlorbRows$House" "entries" "I", Cond.methodLink RX0 57 yX0_lengthOf]
def wsX9_chunk_r2 : List Cond := [Cond.methodLink RX9 91 yX0_meaningsOf, Cond.instanceMethod yX0_meaningsOf, Cond.selects RX0 yX0_meaningsOf yX0_meaningsOf, Cond.code yX0_meaningsOf cX0_meaningsOf 4 (some .int), Cond.fieldLink RX0 38 "BlorbRows$House" "targets" "[I"]
def wsX9_chunk : List Cond := .code yX9_chunk cX9_chunk 3 (some .int) :: ((wsX9_chunk_r1 ++ wsX9_chunk_r2) ++ wsX90 ++ wsX00)
def wsX9_octet_r1 : List Cond := [Cond.fieldLink RX9 24 "BlorbRows" "house" "LBlorbRows$House;", Cond.methodLink RX9 94 yX0_dataOf, Cond.instanceMethod yX0_dataOf, Cond.selects RX0 yX0_dataOf yX0_dataOf, Cond.initialized RX0, Cond.code yX0_dataOf cX0_dataOf 2 (some (.object "BlorbRows$Part")), Cond.classLink RX0 55 RX3, Cond.instantiable RX3 3, Cond.initialized RX3, Cond.fieldLink RX0 14 "BlorbRows$House" "data" "LBlorbRows$Row;", Cond.fieldLink RX0 24 "BlorbRows$House" "starts" "[I", Cond.methodLink RX0 51 yX0_hasChunk, Cond.instanceMethod yX0_hasChunk, Cond.selects RX0 yX0_hasChunk yX0_hasChunk, Cond.code yX0_hasChunk cX0_hasChunk 2 (some .boolean), Cond.fieldLink RX0 27 "BlorbRows$House" "chunks" "I", Cond.methodLink RX0 57 yX0_lengthOf, Cond.instanceMethod yX0_lengthOf, Cond.selects RX0 yX0_lengthOf yX0_lengthOf, Cond.code yX0_lengthOf cX0_lengthOf 2 (some .int), Cond.methodLink RX0 61 yX3_init, Cond.instanceMethod yX3_init, Cond.code yX3_init cX3_init 5 none, Cond.methodLink RX3 1 objectInit]
def wsX9_octet_r2 : List Cond := [Cond.instanceMethod objectInit, Cond.code objectInit ⟨#[0xb1]⟩ 1 none, Cond.fieldLink RX3 7 "BlorbRows$Row" "length" "I", Cond.fieldLink RX3 13 "BlorbRows$Part" "row" "LBlorbRows$Row;", Cond.fieldLink RX3 19 "BlorbRows$Part" "from" "I", Cond.fieldLink RX3 22 "BlorbRows$Part" "length" "I", Cond.methodLink RX9 98 yX3_holds, Cond.instanceMethod yX3_holds, Cond.selects RX3 yX3_holds yX3_holds, Cond.code yX3_holds cX3_holds 3 (some .boolean), Cond.methodLink RX9 104 yX3_at, Cond.instanceMethod yX3_at, Cond.selects RX3 yX3_at yX3_at, Cond.code yX3_at cX3_at 2 (some .int), Cond.methodLink RX3 23 yX3_number, Cond.instanceMethod yX3_number, Cond.selects RX3 yX3_number yX3_number, Cond.code yX3_number cX3_number 6 (some .long), Cond.constantLong RX3 31 (-1), Cond.fieldLink RX3 33 "BlorbRows$Row" "octets" "[B", Cond.methodLink RX3 27 yX3_holds]
def wsX9_octet : List Cond := .code yX9_octet cX9_octet 4 (some .int) :: ((wsX9_octet_r1 ++ wsX9_octet_r2) ++ wsX90 ++ wsX30 ++ wsX00 ++ wsX60)
def wsX9_entry_r1 : List Cond := [Cond.fieldLink RX9 24 "BlorbRows" "house" "LBlorbRows$House;", Cond.constantLong RX9 110 (-1), Cond.fieldLink RX9 112 "BlorbRows$House" "uses" "[I", Cond.fieldLink RX9 116 "BlorbRows$House" "numbers" "[J", Cond.fieldLink RX9 120 "BlorbRows$House" "targets" "[I", Cond.methodLink RX9 107 yX0_hasEntry, Cond.instanceMethod yX0_hasEntry, Cond.selects RX0 yX0_hasEntry yX0_hasEntry, Cond.initialized RX0, Cond.code yX0_hasEntry cX0_hasEntry 2 (some .boolean), Cond.fieldLink RX0 41 "BlorbRows$House" "entries" "I", Cond.methodLink RX9 123 yX0_goes, Cond.instanceMethod yX0_goes, Cond.selects RX0 yX0_goes yX0_goes, Cond.code yX0_goes cX0_goes 3 (some .boolean), Cond.fieldLink RX0 38 "BlorbRows$House" "targets" "[I", Cond.fieldLink RX0 31 "BlorbRows$House" "uses" "[I", Cond.methodLink RX0 64 yX0_hasEntry, Cond.methodLink RX0 67 yX0_kindOf, Cond.instanceMethod yX0_kindOf, Cond.selects RX0 yX0_kindOf yX0_kindOf, Cond.code yX0_kindOf cX0_kindOf 2 (some .int), Cond.fieldLink RX0 20 "BlorbRows$House" "kinds" "[I", Cond.methodLink RX0 51 yX0_hasChunk]
def wsX9_entry_r2 : List Cond := [Cond.instanceMethod yX0_hasChunk, Cond.selects RX0 yX0_hasChunk yX0_hasChunk, Cond.code yX0_hasChunk cX0_hasChunk 2 (some .boolean), Cond.fieldLink RX0 27 "BlorbRows$House" "chunks" "I", Cond.methodLink RX0 70 yX0_dataOf, Cond.instanceMethod yX0_dataOf, Cond.selects RX0 yX0_dataOf yX0_dataOf, Cond.code yX0_dataOf cX0_dataOf 2 (some (.object "BlorbRows$Part")), Cond.classLink RX0 55 RX3, Cond.instantiable RX3 3, Cond.initialized RX3, Cond.fieldLink RX0 14 "BlorbRows$House" "data" "LBlorbRows$Row;", Cond.fieldLink RX0 24 "BlorbRows$House" "starts" "[I", Cond.methodLink RX0 57 yX0_lengthOf, Cond.instanceMethod yX0_lengthOf, Cond.selects RX0 yX0_lengthOf yX0_lengthOf, Cond.code yX0_lengthOf cX0_lengthOf 2 (some .int), Cond.methodLink RX0 61 yX3_init, Cond.instanceMethod yX3_init, Cond.code yX3_init cX3_init 5 none, Cond.methodLink RX3 1 objectInit, Cond.instanceMethod objectInit, Cond.code objectInit ⟨#[0xb1]⟩ 1 none, Cond.fieldLink RX3 7 "BlorbRows$Row" "length" "I"]
def wsX9_entry_r3 : List Cond := [Cond.fieldLink RX3 13 "BlorbRows$Part" "row" "LBlorbRows$Row;", Cond.fieldLink RX3 19 "BlorbRows$Part" "from" "I", Cond.fieldLink RX3 22 "BlorbRows$Part" "length" "I", Cond.methodLink RX0 74 yX2_goTogether, Cond.static yX2_goTogether, Cond.initialized RX2, Cond.code yX2_goTogether cX2_goTogether 3 (some .boolean), Cond.constant RX2 17 (1347307296), Cond.constant RX2 18 (1246774599), Cond.constant RX2 19 (1382376308), Cond.constant RX2 20 (1330071382), Cond.constant RX2 21 (1297040416), Cond.constant RX2 22 (1397706311), Cond.constant RX2 23 (1179603533), Cond.constantLong RX2 30 (1095321158), Cond.constant RX2 32 (1413830740), Cond.constant RX2 33 (1112100417), Cond.constant RX2 34 (1514360644), Cond.constant RX2 35 (1196184908), Cond.methodLink RX2 24 yX3_u4, Cond.instanceMethod yX3_u4, Cond.selects RX3 yX3_u4 yX3_u4, Cond.code yX3_u4 cX3_u4 2 (some .long), Cond.methodLink RX3 23 yX3_number]
def wsX9_entry_r4 : List Cond := [Cond.instanceMethod yX3_number, Cond.selects RX3 yX3_number yX3_number, Cond.code yX3_number cX3_number 6 (some .long), Cond.constantLong RX3 31 (-1), Cond.fieldLink RX3 33 "BlorbRows$Row" "octets" "[B", Cond.methodLink RX3 27 yX3_holds, Cond.instanceMethod yX3_holds, Cond.selects RX3 yX3_holds yX3_holds, Cond.code yX3_holds cX3_holds 3 (some .boolean)]
def wsX9_entry : List Cond := .code yX9_entry cX9_entry 3 (some .long) :: ((wsX9_entry_r1 ++ (wsX9_entry_r2 ++ (wsX9_entry_r3 ++ wsX9_entry_r4))) ++ wsX90 ++ wsX00 ++ wsX30 ++ wsX60)
def wsX9_isNumber : List Cond := .code yX9_isNumber cX9_isNumber 2 (some .boolean) :: ([.constantLong RX9 234 (4294967295)])
def wsX9_isName : List Cond := .code yX9_isName cX9_isName 3 (some .boolean) :: ([.methodLink RX9 236 yX2_isUse, .static yX2_isUse, .initialized RX2, .code yX2_isUse cX2_isUse 1 (some .boolean), .constant RX2 13 (1349084020), .constant RX2 14 (1399743520), .constant RX2 15 (1147237473), .constant RX2 16 (1165518179), .methodLink RX9 171 yX9_isNumber, .static yX9_isNumber, .initialized RX9, .code yX9_isNumber cX9_isNumber 2 (some .boolean), .constantLong RX9 234 (4294967295)])
def wsX9_find_r1 : List Cond := [Cond.fieldLink RX9 24 "BlorbRows" "house" "LBlorbRows$House;", Cond.fieldLink RX9 120 "BlorbRows$House" "targets" "[I", Cond.methodLink RX9 126 yX9_isName, Cond.static yX9_isName, Cond.initialized RX9, Cond.code yX9_isName cX9_isName 3 (some .boolean), Cond.methodLink RX9 236 yX2_isUse, Cond.static yX2_isUse, Cond.initialized RX2, Cond.code yX2_isUse cX2_isUse 1 (some .boolean), Cond.constant RX2 13 (1349084020), Cond.constant RX2 14 (1399743520), Cond.constant RX2 15 (1147237473), Cond.constant RX2 16 (1165518179), Cond.methodLink RX9 171 yX9_isNumber, Cond.static yX9_isNumber, Cond.code yX9_isNumber cX9_isNumber 2 (some .boolean), Cond.constantLong RX9 234 (4294967295), Cond.methodLink RX9 130 yX0_entryOf, Cond.instanceMethod yX0_entryOf, Cond.selects RX0 yX0_entryOf yX0_entryOf, Cond.initialized RX0, Cond.code yX0_entryOf cX0_entryOf 5 (some .int), Cond.fieldLink RX0 41 "BlorbRows$House" "entries" "I"]
def wsX9_find_r2 : List Cond := [Cond.fieldLink RX0 31 "BlorbRows$House" "uses" "[I", Cond.fieldLink RX0 34 "BlorbRows$House" "numbers" "[J", Cond.methodLink RX9 107 yX0_hasEntry, Cond.instanceMethod yX0_hasEntry, Cond.selects RX0 yX0_hasEntry yX0_hasEntry, Cond.code yX0_hasEntry cX0_hasEntry 2 (some .boolean)]
def wsX9_find : List Cond := .code yX9_find cX9_find 5 (some .int) :: ((wsX9_find_r1 ++ wsX9_find_r2) ++ wsX90 ++ wsX00)
def wsX9_isAxis : List Cond := .code yX9_isAxis cX9_isAxis 1 (some .boolean) :: ([])
def wsX9_size_r1 : List Cond := [Cond.fieldLink RX9 24 "BlorbRows" "house" "LBlorbRows$House;", Cond.constantLong RX9 110 (-1), Cond.methodLink RX9 77 yX0_hasChunk, Cond.instanceMethod yX0_hasChunk, Cond.selects RX0 yX0_hasChunk yX0_hasChunk, Cond.initialized RX0, Cond.code yX0_hasChunk cX0_hasChunk 2 (some .boolean), Cond.fieldLink RX0 27 "BlorbRows$House" "chunks" "I", Cond.methodLink RX9 134 yX9_isAxis, Cond.static yX9_isAxis, Cond.initialized RX9, Cond.code yX9_isAxis cX9_isAxis 1 (some .boolean), Cond.methodLink RX9 81 yX0_kindOf, Cond.instanceMethod yX0_kindOf, Cond.selects RX0 yX0_kindOf yX0_kindOf, Cond.code yX0_kindOf cX0_kindOf 2 (some .int), Cond.fieldLink RX0 20 "BlorbRows$House" "kinds" "[I", Cond.methodLink RX0 51 yX0_hasChunk, Cond.methodLink RX9 94 yX0_dataOf, Cond.instanceMethod yX0_dataOf, Cond.selects RX0 yX0_dataOf yX0_dataOf, Cond.code yX0_dataOf cX0_dataOf 2 (some (.object "BlorbRows$Part")), Cond.classLink RX0 55 RX3, Cond.instantiable RX3 3]
def wsX9_size_r2 : List Cond := [Cond.initialized RX3, Cond.fieldLink RX0 14 "BlorbRows$House" "data" "LBlorbRows$Row;", Cond.fieldLink RX0 24 "BlorbRows$House" "starts" "[I", Cond.methodLink RX0 57 yX0_lengthOf, Cond.instanceMethod yX0_lengthOf, Cond.selects RX0 yX0_lengthOf yX0_lengthOf, Cond.code yX0_lengthOf cX0_lengthOf 2 (some .int), Cond.methodLink RX0 61 yX3_init, Cond.instanceMethod yX3_init, Cond.code yX3_init cX3_init 5 none, Cond.methodLink RX3 1 objectInit, Cond.instanceMethod objectInit, Cond.code objectInit ⟨#[0xb1]⟩ 1 none, Cond.fieldLink RX3 7 "BlorbRows$Row" "length" "I", Cond.fieldLink RX3 13 "BlorbRows$Part" "row" "LBlorbRows$Row;", Cond.fieldLink RX3 19 "BlorbRows$Part" "from" "I", Cond.fieldLink RX3 22 "BlorbRows$Part" "length" "I", Cond.methodLink RX9 137 yX4_measure, Cond.static yX4_measure, Cond.initialized RX4, Cond.code yX4_measure cX4_measure 3 (some .long), Cond.constantLong RX4 21 (-2), Cond.methodLink RX4 9 yX4_ofRect, Cond.static yX4_ofRect]
def wsX9_size_r3 : List Cond := [Cond.code yX4_ofRect cX4_ofRect 2 (some .long), Cond.fieldLink RX4 23 "BlorbRows$Part" "length" "I", Cond.methodLink RX4 29 yX3_u4, Cond.instanceMethod yX3_u4, Cond.selects RX3 yX3_u4 yX3_u4, Cond.code yX3_u4 cX3_u4 2 (some .long), Cond.methodLink RX3 23 yX3_number, Cond.instanceMethod yX3_number, Cond.selects RX3 yX3_number yX3_number, Cond.code yX3_number cX3_number 6 (some .long), Cond.constantLong RX3 31 (-1), Cond.fieldLink RX3 33 "BlorbRows$Row" "octets" "[B", Cond.methodLink RX3 27 yX3_holds, Cond.instanceMethod yX3_holds, Cond.selects RX3 yX3_holds yX3_holds, Cond.code yX3_holds cX3_holds 3 (some .boolean), Cond.methodLink RX4 15 yX4_ofPng, Cond.static yX4_ofPng, Cond.code yX4_ofPng cX4_ofPng 3 (some .long), Cond.constantLong RX4 33 (2303741511), Cond.constantLong RX4 35 (218765834), Cond.constantLong RX4 39 (1229472850), Cond.methodLink RX4 18 yX4_ofJpeg, Cond.static yX4_ofJpeg]
def wsX9_size_r4 : List Cond := [Cond.code yX4_ofJpeg cX4_ofJpeg 6 (some .long), Cond.constant RX4 45 (65496), Cond.methodLink RX4 41 yX3_u2, Cond.instanceMethod yX3_u2, Cond.selects RX3 yX3_u2 yX3_u2, Cond.code yX3_u2 cX3_u2 2 (some .int), Cond.methodLink RX4 46 yX3_at, Cond.instanceMethod yX3_at, Cond.selects RX3 yX3_at yX3_at, Cond.code yX3_at cX3_at 2 (some .int), Cond.methodLink RX4 49 yX4_behindFill, Cond.static yX4_behindFill, Cond.code yX4_behindFill cX4_behindFill 3 (some .int), Cond.methodLink RX4 53 yX4_standsAlone, Cond.static yX4_standsAlone, Cond.code yX4_standsAlone cX4_standsAlone 1 (some .boolean), Cond.methodLink RX4 57 yX4_hasNoMeasure, Cond.static yX4_hasNoMeasure, Cond.code yX4_hasNoMeasure cX4_hasNoMeasure 1 (some .boolean), Cond.methodLink RX4 60 yX4_isFrame, Cond.static yX4_isFrame, Cond.code yX4_isFrame cX4_isFrame 1 (some .boolean), Cond.methodLink RX4 63 yX4_ofFrame, Cond.static yX4_ofFrame]
def wsX9_size_r5 : List Cond := [Cond.code yX4_ofFrame cX4_ofFrame 3 (some .long), Cond.methodLink RX4 67 yX3_holds]
def wsX9_size : List Cond := .code yX9_size cX9_size 3 (some .long) :: ((wsX9_size_r1 ++ (wsX9_size_r2 ++ (wsX9_size_r3 ++ (wsX9_size_r4 ++ wsX9_size_r5)))) ++ wsX90 ++ wsX00 ++ wsX30 ++ wsX60)
def wsX9_sound_r1 : List Cond := [Cond.fieldLink RX9 24 "BlorbRows" "house" "LBlorbRows$House;", Cond.constantLong RX9 110 (-1), Cond.constant RX9 145 (1179603533), Cond.constantLong RX9 151 (-2), Cond.methodLink RX9 77 yX0_hasChunk, Cond.instanceMethod yX0_hasChunk, Cond.selects RX0 yX0_hasChunk yX0_hasChunk, Cond.initialized RX0, Cond.code yX0_hasChunk cX0_hasChunk 2 (some .boolean), Cond.fieldLink RX0 27 "BlorbRows$House" "chunks" "I", Cond.methodLink RX9 81 yX0_kindOf, Cond.instanceMethod yX0_kindOf, Cond.selects RX0 yX0_kindOf yX0_kindOf, Cond.code yX0_kindOf cX0_kindOf 2 (some .int), Cond.fieldLink RX0 20 "BlorbRows$House" "kinds" "[I", Cond.methodLink RX0 51 yX0_hasChunk, Cond.methodLink RX9 94 yX0_dataOf, Cond.instanceMethod yX0_dataOf, Cond.selects RX0 yX0_dataOf yX0_dataOf, Cond.code yX0_dataOf cX0_dataOf 2 (some (.object "BlorbRows$Part")), Cond.classLink RX0 55 RX3, Cond.instantiable RX3 3, Cond.initialized RX3, Cond.fieldLink RX0 14 "BlorbRows$House" "data" "LBlorbRows$Row;"]
def wsX9_sound_r2 : List Cond := [Cond.fieldLink RX0 24 "BlorbRows$House" "starts" "[I", Cond.methodLink RX0 57 yX0_lengthOf, Cond.instanceMethod yX0_lengthOf, Cond.selects RX0 yX0_lengthOf yX0_lengthOf, Cond.code yX0_lengthOf cX0_lengthOf 2 (some .int), Cond.methodLink RX0 61 yX3_init, Cond.instanceMethod yX3_init, Cond.code yX3_init cX3_init 5 none, Cond.methodLink RX3 1 objectInit, Cond.instanceMethod objectInit, Cond.code objectInit ⟨#[0xb1]⟩ 1 none, Cond.fieldLink RX3 7 "BlorbRows$Row" "length" "I", Cond.fieldLink RX3 13 "BlorbRows$Part" "row" "LBlorbRows$Row;", Cond.fieldLink RX3 19 "BlorbRows$Part" "from" "I", Cond.fieldLink RX3 22 "BlorbRows$Part" "length" "I", Cond.methodLink RX9 146 yX7_measure, Cond.static yX7_measure, Cond.initialized RX7, Cond.code yX7_measure cX7_measure 6 (some .long), Cond.constantLong RX7 17 (1095321158), Cond.constantLong RX7 19 (-2), Cond.fieldLink RX7 21 "BlorbRows$Part" "length" "I", Cond.constantLong RX7 29 (1129270605), Cond.constantLong RX7 33 (18)]
def wsX9_sound_r3 : List Cond := [Cond.methodLink RX7 9 yX3_u4, Cond.instanceMethod yX3_u4, Cond.selects RX3 yX3_u4 yX3_u4, Cond.code yX3_u4 cX3_u4 2 (some .long), Cond.methodLink RX3 23 yX3_number, Cond.instanceMethod yX3_number, Cond.selects RX3 yX3_number yX3_number, Cond.code yX3_number cX3_number 6 (some .long), Cond.constantLong RX3 31 (-1), Cond.fieldLink RX3 33 "BlorbRows$Row" "octets" "[B", Cond.methodLink RX3 27 yX3_holds, Cond.instanceMethod yX3_holds, Cond.selects RX3 yX3_holds yX3_holds, Cond.code yX3_holds cX3_holds 3 (some .boolean), Cond.methodLink RX7 25 yX3_holds, Cond.methodLink RX7 35 yX7_ofComm, Cond.static yX7_ofComm, Cond.code yX7_ofComm cX7_ofComm 3 (some .long), Cond.methodLink RX7 39 yX3_u2, Cond.instanceMethod yX3_u2, Cond.selects RX3 yX3_u2 yX3_u2, Cond.code yX3_u2 cX3_u2 2 (some .int), Cond.methodLink RX7 43 yX7_rate, Cond.static yX7_rate]
def wsX9_sound_r4 : List Cond := [Cond.code yX7_rate cX7_rate 6 (some .long)]
def wsX9_sound : List Cond := .code yX9_sound cX9_sound 3 (some .long) :: ((wsX9_sound_r1 ++ (wsX9_sound_r2 ++ (wsX9_sound_r3 ++ wsX9_sound_r4))) ++ wsX90 ++ wsX00 ++ wsX30 ++ wsX60)
def wsX9_front_r1 : List Cond := [Cond.fieldLink RX9 24 "BlorbRows" "house" "LBlorbRows$House;", Cond.constant RX9 153 (1181970531), Cond.constantLong RX9 151 (-2), Cond.methodLink RX9 154 yX0_firstWith, Cond.instanceMethod yX0_firstWith, Cond.selects RX0 yX0_firstWith yX0_firstWith, Cond.initialized RX0, Cond.code yX0_firstWith cX0_firstWith 4 (some .int), Cond.fieldLink RX0 27 "BlorbRows$House" "chunks" "I", Cond.fieldLink RX0 20 "BlorbRows$House" "kinds" "[I", Cond.methodLink RX0 57 yX0_lengthOf, Cond.instanceMethod yX0_lengthOf, Cond.selects RX0 yX0_lengthOf yX0_lengthOf, Cond.code yX0_lengthOf cX0_lengthOf 2 (some .int), Cond.fieldLink RX0 24 "BlorbRows$House" "starts" "[I", Cond.methodLink RX0 51 yX0_hasChunk, Cond.instanceMethod yX0_hasChunk, Cond.selects RX0 yX0_hasChunk yX0_hasChunk, Cond.code yX0_hasChunk cX0_hasChunk 2 (some .boolean), Cond.methodLink RX9 77 yX0_hasChunk, Cond.methodLink RX9 94 yX0_dataOf, Cond.instanceMethod yX0_dataOf, Cond.selects RX0 yX0_dataOf yX0_dataOf, Cond.code yX0_dataOf cX0_dataOf 2 (some (.object "BlorbRows$Part"))]
def wsX9_front_r2 : List Cond := [Cond.classLink RX0 55 RX3, Cond.instantiable RX3 3, Cond.initialized RX3, Cond.fieldLink RX0 14 "BlorbRows$House" "data" "LBlorbRows$Row;", Cond.methodLink RX0 61 yX3_init, Cond.instanceMethod yX3_init, Cond.code yX3_init cX3_init 5 none, Cond.methodLink RX3 1 objectInit, Cond.instanceMethod objectInit, Cond.code objectInit ⟨#[0xb1]⟩ 1 none, Cond.fieldLink RX3 7 "BlorbRows$Row" "length" "I", Cond.fieldLink RX3 13 "BlorbRows$Part" "row" "LBlorbRows$Row;", Cond.fieldLink RX3 19 "BlorbRows$Part" "from" "I", Cond.fieldLink RX3 22 "BlorbRows$Part" "length" "I", Cond.methodLink RX9 158 yX3_u4, Cond.instanceMethod yX3_u4, Cond.selects RX3 yX3_u4 yX3_u4, Cond.code yX3_u4 cX3_u4 2 (some .long), Cond.methodLink RX3 23 yX3_number, Cond.instanceMethod yX3_number, Cond.selects RX3 yX3_number yX3_number, Cond.code yX3_number cX3_number 6 (some .long), Cond.constantLong RX3 31 (-1), Cond.fieldLink RX3 33 "BlorbRows$Row" "octets" "[B"]
def wsX9_front_r3 : List Cond := [Cond.methodLink RX3 27 yX3_holds, Cond.instanceMethod yX3_holds, Cond.selects RX3 yX3_holds yX3_holds, Cond.code yX3_holds cX3_holds 3 (some .boolean)]
def wsX9_front : List Cond := .code yX9_front cX9_front 2 (some .long) :: ((wsX9_front_r1 ++ (wsX9_front_r2 ++ wsX9_front_r3)) ++ wsX90 ++ wsX00 ++ wsX30 ++ wsX60)
def wsX9_release_r1 : List Cond := [Cond.fieldLink RX9 24 "BlorbRows" "house" "LBlorbRows$House;", Cond.constant RX9 162 (1382378574), Cond.methodLink RX9 154 yX0_firstWith, Cond.instanceMethod yX0_firstWith, Cond.selects RX0 yX0_firstWith yX0_firstWith, Cond.initialized RX0, Cond.code yX0_firstWith cX0_firstWith 4 (some .int), Cond.fieldLink RX0 27 "BlorbRows$House" "chunks" "I", Cond.fieldLink RX0 20 "BlorbRows$House" "kinds" "[I", Cond.methodLink RX0 57 yX0_lengthOf, Cond.instanceMethod yX0_lengthOf, Cond.selects RX0 yX0_lengthOf yX0_lengthOf, Cond.code yX0_lengthOf cX0_lengthOf 2 (some .int), Cond.fieldLink RX0 24 "BlorbRows$House" "starts" "[I", Cond.methodLink RX0 51 yX0_hasChunk, Cond.instanceMethod yX0_hasChunk, Cond.selects RX0 yX0_hasChunk yX0_hasChunk, Cond.code yX0_hasChunk cX0_hasChunk 2 (some .boolean), Cond.methodLink RX9 77 yX0_hasChunk, Cond.methodLink RX9 94 yX0_dataOf, Cond.instanceMethod yX0_dataOf, Cond.selects RX0 yX0_dataOf yX0_dataOf, Cond.code yX0_dataOf cX0_dataOf 2 (some (.object "BlorbRows$Part")), Cond.classLink RX0 55 RX3]
def wsX9_release_r2 : List Cond := [Cond.instantiable RX3 3, Cond.initialized RX3, Cond.fieldLink RX0 14 "BlorbRows$House" "data" "LBlorbRows$Row;", Cond.methodLink RX0 61 yX3_init, Cond.instanceMethod yX3_init, Cond.code yX3_init cX3_init 5 none, Cond.methodLink RX3 1 objectInit, Cond.instanceMethod objectInit, Cond.code objectInit ⟨#[0xb1]⟩ 1 none, Cond.fieldLink RX3 7 "BlorbRows$Row" "length" "I", Cond.fieldLink RX3 13 "BlorbRows$Part" "row" "LBlorbRows$Row;", Cond.fieldLink RX3 19 "BlorbRows$Part" "from" "I", Cond.fieldLink RX3 22 "BlorbRows$Part" "length" "I", Cond.methodLink RX9 163 yX3_u2, Cond.instanceMethod yX3_u2, Cond.selects RX3 yX3_u2 yX3_u2, Cond.code yX3_u2 cX3_u2 2 (some .int), Cond.methodLink RX3 23 yX3_number, Cond.instanceMethod yX3_number, Cond.selects RX3 yX3_number yX3_number, Cond.code yX3_number cX3_number 6 (some .long), Cond.constantLong RX3 31 (-1), Cond.fieldLink RX3 33 "BlorbRows$Row" "octets" "[B", Cond.methodLink RX3 27 yX3_holds]
def wsX9_release_r3 : List Cond := [Cond.instanceMethod yX3_holds, Cond.selects RX3 yX3_holds yX3_holds, Cond.code yX3_holds cX3_holds 3 (some .boolean)]
def wsX9_release : List Cond := .code yX9_release cX9_release 2 (some .int) :: ((wsX9_release_r1 ++ (wsX9_release_r2 ++ wsX9_release_r3)) ++ wsX90 ++ wsX00 ++ wsX30 ++ wsX60)
def wsX9_colour_r1 : List Cond := [Cond.fieldLink RX9 24 "BlorbRows" "house" "LBlorbRows$House;", Cond.constant RX9 166 (1349284965), Cond.fieldLink RX9 170 "BlorbRows$Part" "length" "I", Cond.methodLink RX9 167 yX0_firstOf, Cond.instanceMethod yX0_firstOf, Cond.selects RX0 yX0_firstOf yX0_firstOf, Cond.initialized RX0, Cond.code yX0_firstOf cX0_firstOf 3 (some .int), Cond.fieldLink RX0 27 "BlorbRows$House" "chunks" "I", Cond.fieldLink RX0 20 "BlorbRows$House" "kinds" "[I", Cond.methodLink RX9 94 yX0_dataOf, Cond.instanceMethod yX0_dataOf, Cond.selects RX0 yX0_dataOf yX0_dataOf, Cond.code yX0_dataOf cX0_dataOf 2 (some (.object "BlorbRows$Part")), Cond.classLink RX0 55 RX3, Cond.instantiable RX3 3, Cond.initialized RX3, Cond.fieldLink RX0 14 "BlorbRows$House" "data" "LBlorbRows$Row;", Cond.fieldLink RX0 24 "BlorbRows$House" "starts" "[I", Cond.methodLink RX0 51 yX0_hasChunk, Cond.instanceMethod yX0_hasChunk, Cond.selects RX0 yX0_hasChunk yX0_hasChunk, Cond.code yX0_hasChunk cX0_hasChunk 2 (some .boolean), Cond.methodLink RX0 57 yX0_lengthOf]
def wsX9_colour_r2 : List Cond := [Cond.instanceMethod yX0_lengthOf, Cond.selects RX0 yX0_lengthOf yX0_lengthOf, Cond.code yX0_lengthOf cX0_lengthOf 2 (some .int), Cond.methodLink RX0 61 yX3_init, Cond.instanceMethod yX3_init, Cond.code yX3_init cX3_init 5 none, Cond.methodLink RX3 1 objectInit, Cond.instanceMethod objectInit, Cond.code objectInit ⟨#[0xb1]⟩ 1 none, Cond.fieldLink RX3 7 "BlorbRows$Row" "length" "I", Cond.fieldLink RX3 13 "BlorbRows$Part" "row" "LBlorbRows$Row;", Cond.fieldLink RX3 19 "BlorbRows$Part" "from" "I", Cond.fieldLink RX3 22 "BlorbRows$Part" "length" "I", Cond.methodLink RX9 163 yX3_u2, Cond.instanceMethod yX3_u2, Cond.selects RX3 yX3_u2 yX3_u2, Cond.code yX3_u2 cX3_u2 2 (some .int), Cond.methodLink RX3 23 yX3_number, Cond.instanceMethod yX3_number, Cond.selects RX3 yX3_number yX3_number, Cond.code yX3_number cX3_number 6 (some .long), Cond.constantLong RX3 31 (-1), Cond.fieldLink RX3 33 "BlorbRows$Row" "octets" "[B", Cond.methodLink RX3 27 yX3_holds]
def wsX9_colour_r3 : List Cond := [Cond.instanceMethod yX3_holds, Cond.selects RX3 yX3_holds yX3_holds, Cond.code yX3_holds cX3_holds 3 (some .boolean), Cond.methodLink RX9 104 yX3_at, Cond.instanceMethod yX3_at, Cond.selects RX3 yX3_at yX3_at, Cond.code yX3_at cX3_at 2 (some .int)]
def wsX9_colour : List Cond := .code yX9_colour cX9_colour 3 (some .int) :: ((wsX9_colour_r1 ++ (wsX9_colour_r2 ++ wsX9_colour_r3)) ++ wsX90 ++ wsX30 ++ wsX00 ++ wsX60)
def wsX9_isSide : List Cond := .code yX9_isSide cX9_isSide 2 (some .boolean) :: ([.constantLong RX9 186 (65535)])
def wsX9_scaled_r1 : List Cond := [Cond.constantLong RX9 110 (-1), Cond.fieldLink RX9 24 "BlorbRows" "house" "LBlorbRows$House;", Cond.constant RX9 178 (1349084020), Cond.constantLong RX9 151 (-2), Cond.fieldLink RX9 120 "BlorbRows$House" "targets" "[I", Cond.constant RX9 179 (1382380399), Cond.constantLong RX9 186 (65535), Cond.methodLink RX9 171 yX9_isNumber, Cond.static yX9_isNumber, Cond.initialized RX9, Cond.code yX9_isNumber cX9_isNumber 2 (some .boolean), Cond.constantLong RX9 234 (4294967295), Cond.methodLink RX9 175 yX9_isSide, Cond.static yX9_isSide, Cond.code yX9_isSide cX9_isSide 2 (some .boolean), Cond.methodLink RX9 134 yX9_isAxis, Cond.static yX9_isAxis, Cond.code yX9_isAxis cX9_isAxis 1 (some .boolean), Cond.methodLink RX9 130 yX0_entryOf, Cond.instanceMethod yX0_entryOf, Cond.selects RX0 yX0_entryOf yX0_entryOf, Cond.initialized RX0, Cond.code yX0_entryOf cX0_entryOf 5 (some .int), Cond.fieldLink RX0 41 "BlorbRows$House" "entries" "I"]
def wsX9_scaled_r2 : List Cond := [Cond.fieldLink RX0 31 "BlorbRows$House" "uses" "[I", Cond.fieldLink RX0 34 "BlorbRows$House" "numbers" "[J", Cond.methodLink RX9 107 yX0_hasEntry, Cond.instanceMethod yX0_hasEntry, Cond.selects RX0 yX0_hasEntry yX0_hasEntry, Cond.code yX0_hasEntry cX0_hasEntry 2 (some .boolean), Cond.methodLink RX9 81 yX0_kindOf, Cond.instanceMethod yX0_kindOf, Cond.selects RX0 yX0_kindOf yX0_kindOf, Cond.code yX0_kindOf cX0_kindOf 2 (some .int), Cond.fieldLink RX0 20 "BlorbRows$House" "kinds" "[I", Cond.methodLink RX0 51 yX0_hasChunk, Cond.instanceMethod yX0_hasChunk, Cond.selects RX0 yX0_hasChunk yX0_hasChunk, Cond.code yX0_hasChunk cX0_hasChunk 2 (some .boolean), Cond.fieldLink RX0 27 "BlorbRows$House" "chunks" "I", Cond.methodLink RX9 94 yX0_dataOf, Cond.instanceMethod yX0_dataOf, Cond.selects RX0 yX0_dataOf yX0_dataOf, Cond.code yX0_dataOf cX0_dataOf 2 (some (.object "BlorbRows$Part")), Cond.classLink RX0 55 RX3, Cond.instantiable RX3 3, Cond.initialized RX3, Cond.fieldLink RX0 14 "BlorbRows$House" "data" "LBlorbRows$Row;"]
def wsX9_scaled_r3 : List Cond := [Cond.fieldLink RX0 24 "BlorbRows$House" "starts" "[I", Cond.methodLink RX0 57 yX0_lengthOf, Cond.instanceMethod yX0_lengthOf, Cond.selects RX0 yX0_lengthOf yX0_lengthOf, Cond.code yX0_lengthOf cX0_lengthOf 2 (some .int), Cond.methodLink RX0 61 yX3_init, Cond.instanceMethod yX3_init, Cond.code yX3_init cX3_init 5 none, Cond.methodLink RX3 1 objectInit, Cond.instanceMethod objectInit, Cond.code objectInit ⟨#[0xb1]⟩ 1 none, Cond.fieldLink RX3 7 "BlorbRows$Row" "length" "I", Cond.fieldLink RX3 13 "BlorbRows$Part" "row" "LBlorbRows$Row;", Cond.fieldLink RX3 19 "BlorbRows$Part" "from" "I", Cond.fieldLink RX3 22 "BlorbRows$Part" "length" "I", Cond.methodLink RX9 137 yX4_measure, Cond.static yX4_measure, Cond.initialized RX4, Cond.code yX4_measure cX4_measure 3 (some .long), Cond.constantLong RX4 21 (-2), Cond.methodLink RX4 9 yX4_ofRect, Cond.static yX4_ofRect, Cond.code yX4_ofRect cX4_ofRect 2 (some .long), Cond.fieldLink RX4 23 "BlorbRows$Part" "length" "I"]
def wsX9_scaled_r4 : List Cond := [Cond.methodLink RX4 29 yX3_u4, Cond.instanceMethod yX3_u4, Cond.selects RX3 yX3_u4 yX3_u4, Cond.code yX3_u4 cX3_u4 2 (some .long), Cond.methodLink RX3 23 yX3_number, Cond.instanceMethod yX3_number, Cond.selects RX3 yX3_number yX3_number, Cond.code yX3_number cX3_number 6 (some .long), Cond.constantLong RX3 31 (-1), Cond.fieldLink RX3 33 "BlorbRows$Row" "octets" "[B", Cond.methodLink RX3 27 yX3_holds, Cond.instanceMethod yX3_holds, Cond.selects RX3 yX3_holds yX3_holds, Cond.code yX3_holds cX3_holds 3 (some .boolean), Cond.methodLink RX4 15 yX4_ofPng, Cond.static yX4_ofPng, Cond.code yX4_ofPng cX4_ofPng 3 (some .long), Cond.constantLong RX4 33 (2303741511), Cond.constantLong RX4 35 (218765834), Cond.constantLong RX4 39 (1229472850), Cond.methodLink RX4 18 yX4_ofJpeg, Cond.static yX4_ofJpeg, Cond.code yX4_ofJpeg cX4_ofJpeg 6 (some .long), Cond.constant RX4 45 (65496)]
def wsX9_scaled_r5 : List Cond := [Cond.methodLink RX4 41 yX3_u2, Cond.instanceMethod yX3_u2, Cond.selects RX3 yX3_u2 yX3_u2, Cond.code yX3_u2 cX3_u2 2 (some .int), Cond.methodLink RX4 46 yX3_at, Cond.instanceMethod yX3_at, Cond.selects RX3 yX3_at yX3_at, Cond.code yX3_at cX3_at 2 (some .int), Cond.methodLink RX4 49 yX4_behindFill, Cond.static yX4_behindFill, Cond.code yX4_behindFill cX4_behindFill 3 (some .int), Cond.methodLink RX4 53 yX4_standsAlone, Cond.static yX4_standsAlone, Cond.code yX4_standsAlone cX4_standsAlone 1 (some .boolean), Cond.methodLink RX4 57 yX4_hasNoMeasure, Cond.static yX4_hasNoMeasure, Cond.code yX4_hasNoMeasure cX4_hasNoMeasure 1 (some .boolean), Cond.methodLink RX4 60 yX4_isFrame, Cond.static yX4_isFrame, Cond.code yX4_isFrame cX4_isFrame 1 (some .boolean), Cond.methodLink RX4 63 yX4_ofFrame, Cond.static yX4_ofFrame, Cond.code yX4_ofFrame cX4_ofFrame 3 (some .long), Cond.methodLink RX4 67 yX3_holds]
def wsX9_scaled_r6 : List Cond := [Cond.methodLink RX9 167 yX0_firstOf, Cond.instanceMethod yX0_firstOf, Cond.selects RX0 yX0_firstOf yX0_firstOf, Cond.code yX0_firstOf cX0_firstOf 3 (some .int), Cond.methodLink RX9 180 yX8_rowOf, Cond.static yX8_rowOf, Cond.initialized RX8, Cond.code yX8_rowOf cX8_rowOf 4 (some .int), Cond.fieldLink RX8 9 "BlorbRows$Part" "length" "I", Cond.methodLink RX8 17 yX3_u4, Cond.methodLink RX9 188 yX8_ratioOn, Cond.static yX8_ratioOn, Cond.code yX8_ratioOn cX8_ratioOn 11 (some (.object "BlorbRows$Ratio")), Cond.classLink RX8 21 RX5, Cond.instantiable RX5 2, Cond.initialized RX5, Cond.methodLink RX8 23 yX5_init, Cond.instanceMethod yX5_init, Cond.code yX5_init cX5_init 5 none, Cond.methodLink RX5 3 objectInit, Cond.fieldLink RX5 9 "BlorbRows$Ratio" "above" "J", Cond.fieldLink RX5 15 "BlorbRows$Ratio" "below" "J", Cond.methodLink RX8 26 yX8_ratioAt, Cond.static yX8_ratioAt]
def wsX9_scaled_r7 : List Cond := [Cond.code yX8_ratioAt cX8_ratioAt 2 (some (.object "BlorbRows$Ratio")), Cond.methodLink RX8 30 yX5_isUsable, Cond.instanceMethod yX5_isUsable, Cond.selects RX5 yX5_isUsable yX5_isUsable, Cond.code yX5_isUsable cX5_isUsable 1 (some .boolean), Cond.constantLong RX5 22 (65535), Cond.methodLink RX5 18 yX5_isProper, Cond.instanceMethod yX5_isProper, Cond.selects RX5 yX5_isProper yX5_isProper, Cond.code yX5_isProper cX5_isProper 1 (some .boolean), Cond.methodLink RX8 34 yX5_isLimit, Cond.instanceMethod yX5_isLimit, Cond.selects RX5 yX5_isLimit yX5_isLimit, Cond.code yX5_isLimit cX5_isLimit 1 (some .boolean), Cond.methodLink RX5 24 yX5_isNothing, Cond.instanceMethod yX5_isNothing, Cond.selects RX5 yX5_isNothing yX5_isNothing, Cond.code yX5_isNothing cX5_isNothing 1 (some .boolean), Cond.methodLink RX5 27 yX5_isUsable, Cond.methodLink RX8 37 yX5_isBelow, Cond.instanceMethod yX5_isBelow, Cond.selects RX5 yX5_isBelow yX5_isBelow, Cond.code yX5_isBelow cX5_isBelow 2 (some .boolean), Cond.methodLink RX8 41 yX5_times]
def wsX9_scaled_r8 : List Cond := [Cond.instanceMethod yX5_times, Cond.selects RX5 yX5_times yX5_times, Cond.code yX5_times cX5_times 2 (some (.object "BlorbRows$Ratio")), Cond.classLink RX5 10 RX5, Cond.methodLink RX5 30 yX5_init, Cond.methodLink RX8 45 yX5_isNothing, Cond.methodLink RX9 192 yX5_isProper, Cond.methodLink RX9 198 yX5_of, Cond.instanceMethod yX5_of, Cond.selects RX5 yX5_of yX5_of, Cond.code yX5_of cX5_of 3 (some .long), Cond.constantLong RX5 33 (-2)]
def wsX9_scaled : List Cond := .code yX9_scaled cX9_scaled 17 (some .long) :: ((wsX9_scaled_r1 ++ (wsX9_scaled_r2 ++ (wsX9_scaled_r3 ++ (wsX9_scaled_r4 ++ (wsX9_scaled_r5 ++ (wsX9_scaled_r6 ++ (wsX9_scaled_r7 ++ wsX9_scaled_r8))))))) ++ wsX90 ++ wsX00 ++ wsX30 ++ wsX60 ++ wsX50)
def wsX9_add_r1 : List Cond := [Cond.constant RX9 205 (1380541560), Cond.fieldLink RX9 24 "BlorbRows" "house" "LBlorbRows$House;", Cond.fieldLink RX9 14 "BlorbRows" "tape" "LBlorbRows$Row;", Cond.fieldLink RX9 47 "BlorbRows$Row" "length" "I", Cond.fieldLink RX9 68 "BlorbRows$House" "chunks" "I", Cond.methodLink RX9 202 yX2_isKind, Cond.static yX2_isKind, Cond.initialized RX2, Cond.code yX2_isKind cX2_isKind 1 (some .boolean), Cond.methodLink RX2 7 yX2_isLetter, Cond.static yX2_isLetter, Cond.code yX2_isLetter cX2_isLetter 1 (some .boolean), Cond.methodLink RX9 206 yX0_hasChunkRoom, Cond.instanceMethod yX0_hasChunkRoom, Cond.selects RX0 yX0_hasChunkRoom yX0_hasChunkRoom, Cond.initialized RX0, Cond.code yX0_hasChunkRoom cX0_hasChunkRoom 2 (some .boolean), Cond.fieldLink RX0 27 "BlorbRows$House" "chunks" "I", Cond.fieldLink RX0 14 "BlorbRows$House" "data" "LBlorbRows$Row;", Cond.methodLink RX0 47 yX6_room, Cond.instanceMethod yX6_room, Cond.selects RX6 yX6_room yX6_room, Cond.initialized RX6, Cond.code yX6_room cX6_room 1 (some .int)]
def wsX9_add_r2 : List Cond := [Cond.fieldLink RX6 13 "BlorbRows$Row" "octets" "[B", Cond.fieldLink RX6 19 "BlorbRows$Row" "length" "I", Cond.methodLink RX9 53 yX6_whole, Cond.instanceMethod yX6_whole, Cond.selects RX6 yX6_whole yX6_whole, Cond.code yX6_whole cX6_whole 1 (some (.object "BlorbRows$Part")), Cond.classLink RX6 23 RX3, Cond.instantiable RX3 3, Cond.initialized RX3, Cond.methodLink RX6 25 yX3_init, Cond.instanceMethod yX3_init, Cond.code yX3_init cX3_init 5 none, Cond.methodLink RX3 1 objectInit, Cond.instanceMethod objectInit, Cond.code objectInit ⟨#[0xb1]⟩ 1 none, Cond.fieldLink RX3 7 "BlorbRows$Row" "length" "I", Cond.fieldLink RX3 13 "BlorbRows$Part" "row" "LBlorbRows$Row;", Cond.fieldLink RX3 19 "BlorbRows$Part" "from" "I", Cond.fieldLink RX3 22 "BlorbRows$Part" "length" "I", Cond.methodLink RX9 209 yX0_addChunk, Cond.instanceMethod yX0_addChunk, Cond.selects RX0 yX0_addChunk yX0_addChunk, Cond.code yX0_addChunk cX0_addChunk 3 none, Cond.fieldLink RX0 80 "BlorbRows$Part" "length" "I"]
def wsX9_add_r3 : List Cond := [Cond.fieldLink RX0 20 "BlorbRows$House" "kinds" "[I", Cond.fieldLink RX0 24 "BlorbRows$House" "starts" "[I", Cond.fieldLink RX0 86 "BlorbRows$Row" "length" "I", Cond.methodLink RX0 83 yX0_hasChunkRoom, Cond.methodLink RX0 87 yX6_splice, Cond.instanceMethod yX6_splice, Cond.selects RX6 yX6_splice yX6_splice, Cond.code yX6_splice cX6_splice 5 none, Cond.fieldLink RX6 32 "BlorbRows$Part" "length" "I", Cond.methodLink RX6 33 arraycopyName, Cond.native arraycopyName, Cond.static arraycopyName, Cond.initialized "java/lang/System", Cond.fieldLink RX6 39 "BlorbRows$Part" "row" "LBlorbRows$Row;", Cond.fieldLink RX6 43 "BlorbRows$Part" "from" "I", Cond.methodLink RX6 28 yX6_room, Cond.methodLink RX9 50 yX6_keep, Cond.instanceMethod yX6_keep, Cond.selects RX6 yX6_keep yX6_keep, Cond.code yX6_keep cX6_keep 2 none]
def wsX9_add : List Cond := .code yX9_add cX9_add 2 (some .int) :: ((wsX9_add_r1 ++ (wsX9_add_r2 ++ wsX9_add_r3)) ++ wsX90 ++ wsX60 ++ wsX00 ++ wsX30)
def wsX9_mean_r1 : List Cond := [Cond.fieldLink RX9 24 "BlorbRows" "house" "LBlorbRows$House;", Cond.fieldLink RX9 71 "BlorbRows$House" "entries" "I", Cond.methodLink RX9 126 yX9_isName, Cond.static yX9_isName, Cond.initialized RX9, Cond.code yX9_isName cX9_isName 3 (some .boolean), Cond.methodLink RX9 236 yX2_isUse, Cond.static yX2_isUse, Cond.initialized RX2, Cond.code yX2_isUse cX2_isUse 1 (some .boolean), Cond.constant RX2 13 (1349084020), Cond.constant RX2 14 (1399743520), Cond.constant RX2 15 (1147237473), Cond.constant RX2 16 (1165518179), Cond.methodLink RX9 171 yX9_isNumber, Cond.static yX9_isNumber, Cond.code yX9_isNumber cX9_isNumber 2 (some .boolean), Cond.constantLong RX9 234 (4294967295), Cond.methodLink RX9 77 yX0_hasChunk, Cond.instanceMethod yX0_hasChunk, Cond.selects RX0 yX0_hasChunk yX0_hasChunk, Cond.initialized RX0, Cond.code yX0_hasChunk cX0_hasChunk 2 (some .boolean), Cond.fieldLink RX0 27 "BlorbRows$House" "chunks" "I"]
def wsX9_mean_r2 : List Cond := [Cond.methodLink RX9 130 yX0_entryOf, Cond.instanceMethod yX0_entryOf, Cond.selects RX0 yX0_entryOf yX0_entryOf, Cond.code yX0_entryOf cX0_entryOf 5 (some .int), Cond.fieldLink RX0 41 "BlorbRows$House" "entries" "I", Cond.fieldLink RX0 31 "BlorbRows$House" "uses" "[I", Cond.fieldLink RX0 34 "BlorbRows$House" "numbers" "[J", Cond.methodLink RX9 107 yX0_hasEntry, Cond.instanceMethod yX0_hasEntry, Cond.selects RX0 yX0_hasEntry yX0_hasEntry, Cond.code yX0_hasEntry cX0_hasEntry 2 (some .boolean), Cond.methodLink RX9 213 yX0_addEntry, Cond.instanceMethod yX0_addEntry, Cond.selects RX0 yX0_addEntry yX0_addEntry, Cond.code yX0_addEntry cX0_addEntry 5 none, Cond.fieldLink RX0 38 "BlorbRows$House" "targets" "[I"]
def wsX9_mean : List Cond := .code yX9_mean cX9_mean 5 (some .int) :: ((wsX9_mean_r1 ++ wsX9_mean_r2) ++ wsX90 ++ wsX00)
def wsX9_change_r1 : List Cond := [Cond.fieldLink RX9 24 "BlorbRows" "house" "LBlorbRows$House;", Cond.fieldLink RX9 14 "BlorbRows" "tape" "LBlorbRows$Row;", Cond.fieldLink RX9 47 "BlorbRows$Row" "length" "I", Cond.fieldLink RX9 74 "BlorbRows$House" "data" "LBlorbRows$Row;", Cond.methodLink RX9 77 yX0_hasChunk, Cond.instanceMethod yX0_hasChunk, Cond.selects RX0 yX0_hasChunk yX0_hasChunk, Cond.initialized RX0, Cond.code yX0_hasChunk cX0_hasChunk 2 (some .boolean), Cond.fieldLink RX0 27 "BlorbRows$House" "chunks" "I", Cond.methodLink RX9 85 yX0_lengthOf, Cond.instanceMethod yX0_lengthOf, Cond.selects RX0 yX0_lengthOf yX0_lengthOf, Cond.code yX0_lengthOf cX0_lengthOf 2 (some .int), Cond.fieldLink RX0 24 "BlorbRows$House" "starts" "[I", Cond.methodLink RX0 51 yX0_hasChunk, Cond.methodLink RX9 39 yX6_room, Cond.instanceMethod yX6_room, Cond.selects RX6 yX6_room yX6_room, Cond.initialized RX6, Cond.code yX6_room cX6_room 1 (some .int), Cond.fieldLink RX6 13 "BlorbRows$Row" "octets" "[B", Cond.fieldLink RX6 19 "BlorbRows$Row" "length" "I", Cond.methodLink RX9 53 yX6_whole]
def wsX9_change_r2 : List Cond := [Cond.instanceMethod yX6_whole, Cond.selects RX6 yX6_whole yX6_whole, Cond.code yX6_whole cX6_whole 1 (some (.object "BlorbRows$Part")), Cond.classLink RX6 23 RX3, Cond.instantiable RX3 3, Cond.initialized RX3, Cond.methodLink RX6 25 yX3_init, Cond.instanceMethod yX3_init, Cond.code yX3_init cX3_init 5 none, Cond.methodLink RX3 1 objectInit, Cond.instanceMethod objectInit, Cond.code objectInit ⟨#[0xb1]⟩ 1 none, Cond.fieldLink RX3 7 "BlorbRows$Row" "length" "I", Cond.fieldLink RX3 13 "BlorbRows$Part" "row" "LBlorbRows$Row;", Cond.fieldLink RX3 19 "BlorbRows$Part" "from" "I", Cond.fieldLink RX3 22 "BlorbRows$Part" "length" "I", Cond.methodLink RX9 217 yX0_setData, Cond.instanceMethod yX0_setData, Cond.selects RX0 yX0_setData yX0_setData, Cond.code yX0_setData cX0_setData 5 none, Cond.fieldLink RX0 80 "BlorbRows$Part" "length" "I", Cond.fieldLink RX0 14 "BlorbRows$House" "data" "LBlorbRows$Row;", Cond.methodLink RX0 57 yX0_lengthOf, Cond.methodLink RX0 47 yX6_room]
def wsX9_change_r3 : List Cond := [Cond.methodLink RX0 87 yX6_splice, Cond.instanceMethod yX6_splice, Cond.selects RX6 yX6_splice yX6_splice, Cond.code yX6_splice cX6_splice 5 none, Cond.fieldLink RX6 32 "BlorbRows$Part" "length" "I", Cond.methodLink RX6 33 arraycopyName, Cond.native arraycopyName, Cond.static arraycopyName, Cond.initialized "java/lang/System", Cond.fieldLink RX6 39 "BlorbRows$Part" "row" "LBlorbRows$Row;", Cond.fieldLink RX6 43 "BlorbRows$Part" "from" "I", Cond.methodLink RX6 28 yX6_room, Cond.methodLink RX9 50 yX6_keep, Cond.instanceMethod yX6_keep, Cond.selects RX6 yX6_keep yX6_keep, Cond.code yX6_keep cX6_keep 2 none]
def wsX9_change : List Cond := .code yX9_change cX9_change 3 (some .int) :: ((wsX9_change_r1 ++ (wsX9_change_r2 ++ wsX9_change_r3)) ++ wsX90 ++ wsX60 ++ wsX00 ++ wsX30)
def wsX9_drop_r1 : List Cond := [Cond.fieldLink RX9 24 "BlorbRows" "house" "LBlorbRows$House;", Cond.fieldLink RX9 120 "BlorbRows$House" "targets" "[I", Cond.methodLink RX9 126 yX9_isName, Cond.static yX9_isName, Cond.initialized RX9, Cond.code yX9_isName cX9_isName 3 (some .boolean), Cond.methodLink RX9 236 yX2_isUse, Cond.static yX2_isUse, Cond.initialized RX2, Cond.code yX2_isUse cX2_isUse 1 (some .boolean), Cond.constant RX2 13 (1349084020), Cond.constant RX2 14 (1399743520), Cond.constant RX2 15 (1147237473), Cond.constant RX2 16 (1165518179), Cond.methodLink RX9 171 yX9_isNumber, Cond.static yX9_isNumber, Cond.code yX9_isNumber cX9_isNumber 2 (some .boolean), Cond.constantLong RX9 234 (4294967295), Cond.methodLink RX9 130 yX0_entryOf, Cond.instanceMethod yX0_entryOf, Cond.selects RX0 yX0_entryOf yX0_entryOf, Cond.initialized RX0, Cond.code yX0_entryOf cX0_entryOf 5 (some .int), Cond.fieldLink RX0 41 "BlorbRows$House" "entries" "I"]
def wsX9_drop_r2 : List Cond := [Cond.fieldLink RX0 31 "BlorbRows$House" "uses" "[I", Cond.fieldLink RX0 34 "BlorbRows$House" "numbers" "[J", Cond.methodLink RX9 107 yX0_hasEntry, Cond.instanceMethod yX0_hasEntry, Cond.selects RX0 yX0_hasEntry yX0_hasEntry, Cond.code yX0_hasEntry cX0_hasEntry 2 (some .boolean), Cond.methodLink RX9 220 yX0_takeEntry, Cond.instanceMethod yX0_takeEntry, Cond.selects RX0 yX0_takeEntry yX0_takeEntry, Cond.code yX0_takeEntry cX0_takeEntry 3 none, Cond.fieldLink RX0 38 "BlorbRows$House" "targets" "[I", Cond.methodLink RX0 64 yX0_hasEntry, Cond.methodLink RX9 91 yX0_meaningsOf, Cond.instanceMethod yX0_meaningsOf, Cond.selects RX0 yX0_meaningsOf yX0_meaningsOf, Cond.code yX0_meaningsOf cX0_meaningsOf 4 (some .int), Cond.methodLink RX9 223 yX0_takeChunk, Cond.instanceMethod yX0_takeChunk, Cond.selects RX0 yX0_takeChunk yX0_takeChunk, Cond.code yX0_takeChunk cX0_takeChunk 3 none, Cond.classLink RX0 55 RX3, Cond.instantiable RX3 3, Cond.initialized RX3, Cond.fieldLink RX0 14 "BlorbRows$House" "data" "LBlorbRows$Row;"]
def wsX9_drop_r3 : List Cond := [Cond.fieldLink RX0 27 "BlorbRows$House" "chunks" "I", Cond.fieldLink RX0 20 "BlorbRows$House" "kinds" "[I", Cond.fieldLink RX0 24 "BlorbRows$House" "starts" "[I", Cond.fieldLink RX0 86 "BlorbRows$Row" "length" "I", Cond.methodLink RX0 51 yX0_hasChunk, Cond.instanceMethod yX0_hasChunk, Cond.selects RX0 yX0_hasChunk yX0_hasChunk, Cond.code yX0_hasChunk cX0_hasChunk 2 (some .boolean), Cond.methodLink RX0 61 yX3_init, Cond.instanceMethod yX3_init, Cond.code yX3_init cX3_init 5 none, Cond.methodLink RX3 1 objectInit, Cond.instanceMethod objectInit, Cond.code objectInit ⟨#[0xb1]⟩ 1 none, Cond.fieldLink RX3 7 "BlorbRows$Row" "length" "I", Cond.fieldLink RX3 13 "BlorbRows$Part" "row" "LBlorbRows$Row;", Cond.fieldLink RX3 19 "BlorbRows$Part" "from" "I", Cond.fieldLink RX3 22 "BlorbRows$Part" "length" "I", Cond.methodLink RX0 91 yX0_setData, Cond.instanceMethod yX0_setData, Cond.selects RX0 yX0_setData yX0_setData, Cond.code yX0_setData cX0_setData 5 none, Cond.fieldLink RX0 80 "BlorbRows$Part" "length" "I", Cond.methodLink RX0 57 yX0_lengthOf]
def wsX9_drop_r4 : List Cond := [Cond.instanceMethod yX0_lengthOf, Cond.selects RX0 yX0_lengthOf yX0_lengthOf, Cond.code yX0_lengthOf cX0_lengthOf 2 (some .int), Cond.methodLink RX0 47 yX6_room, Cond.instanceMethod yX6_room, Cond.selects RX6 yX6_room yX6_room, Cond.initialized RX6, Cond.code yX6_room cX6_room 1 (some .int), Cond.fieldLink RX6 13 "BlorbRows$Row" "octets" "[B", Cond.fieldLink RX6 19 "BlorbRows$Row" "length" "I", Cond.methodLink RX0 87 yX6_splice, Cond.instanceMethod yX6_splice, Cond.selects RX6 yX6_splice yX6_splice, Cond.code yX6_splice cX6_splice 5 none, Cond.fieldLink RX6 32 "BlorbRows$Part" "length" "I", Cond.methodLink RX6 33 arraycopyName, Cond.native arraycopyName, Cond.static arraycopyName, Cond.initialized "java/lang/System", Cond.fieldLink RX6 39 "BlorbRows$Part" "row" "LBlorbRows$Row;", Cond.fieldLink RX6 43 "BlorbRows$Part" "from" "I", Cond.methodLink RX6 28 yX6_room]
def wsX9_drop : List Cond := .code yX9_drop cX9_drop 6 (some .int) :: ((wsX9_drop_r1 ++ (wsX9_drop_r2 ++ (wsX9_drop_r3 ++ wsX9_drop_r4))) ++ wsX90 ++ wsX00 ++ wsX30 ++ wsX60)
def wsX9_remove_r1 : List Cond := [Cond.fieldLink RX9 24 "BlorbRows" "house" "LBlorbRows$House;", Cond.methodLink RX9 77 yX0_hasChunk, Cond.instanceMethod yX0_hasChunk, Cond.selects RX0 yX0_hasChunk yX0_hasChunk, Cond.initialized RX0, Cond.code yX0_hasChunk cX0_hasChunk 2 (some .boolean), Cond.fieldLink RX0 27 "BlorbRows$House" "chunks" "I", Cond.methodLink RX9 91 yX0_meaningsOf, Cond.instanceMethod yX0_meaningsOf, Cond.selects RX0 yX0_meaningsOf yX0_meaningsOf, Cond.code yX0_meaningsOf cX0_meaningsOf 4 (some .int), Cond.fieldLink RX0 41 "BlorbRows$House" "entries" "I", Cond.fieldLink RX0 38 "BlorbRows$House" "targets" "[I", Cond.methodLink RX9 85 yX0_lengthOf, Cond.instanceMethod yX0_lengthOf, Cond.selects RX0 yX0_lengthOf yX0_lengthOf, Cond.code yX0_lengthOf cX0_lengthOf 2 (some .int), Cond.fieldLink RX0 24 "BlorbRows$House" "starts" "[I", Cond.methodLink RX0 51 yX0_hasChunk, Cond.methodLink RX9 223 yX0_takeChunk, Cond.instanceMethod yX0_takeChunk, Cond.selects RX0 yX0_takeChunk yX0_takeChunk, Cond.code yX0_takeChunk cX0_takeChunk 3 none, Cond.classLink RX0 55 RX3]
def wsX9_remove_r2 : List Cond := [Cond.instantiable RX3 3, Cond.initialized RX3, Cond.fieldLink RX0 14 "BlorbRows$House" "data" "LBlorbRows$Row;", Cond.fieldLink RX0 20 "BlorbRows$House" "kinds" "[I", Cond.fieldLink RX0 86 "BlorbRows$Row" "length" "I", Cond.methodLink RX0 61 yX3_init, Cond.instanceMethod yX3_init, Cond.code yX3_init cX3_init 5 none, Cond.methodLink RX3 1 objectInit, Cond.instanceMethod objectInit, Cond.code objectInit ⟨#[0xb1]⟩ 1 none, Cond.fieldLink RX3 7 "BlorbRows$Row" "length" "I", Cond.fieldLink RX3 13 "BlorbRows$Part" "row" "LBlorbRows$Row;", Cond.fieldLink RX3 19 "BlorbRows$Part" "from" "I", Cond.fieldLink RX3 22 "BlorbRows$Part" "length" "I", Cond.methodLink RX0 91 yX0_setData, Cond.instanceMethod yX0_setData, Cond.selects RX0 yX0_setData yX0_setData, Cond.code yX0_setData cX0_setData 5 none, Cond.fieldLink RX0 80 "BlorbRows$Part" "length" "I", Cond.methodLink RX0 57 yX0_lengthOf, Cond.methodLink RX0 47 yX6_room, Cond.instanceMethod yX6_room, Cond.selects RX6 yX6_room yX6_room]
def wsX9_remove_r3 : List Cond := [Cond.initialized RX6, Cond.code yX6_room cX6_room 1 (some .int), Cond.fieldLink RX6 13 "BlorbRows$Row" "octets" "[B", Cond.fieldLink RX6 19 "BlorbRows$Row" "length" "I", Cond.methodLink RX0 87 yX6_splice, Cond.instanceMethod yX6_splice, Cond.selects RX6 yX6_splice yX6_splice, Cond.code yX6_splice cX6_splice 5 none, Cond.fieldLink RX6 32 "BlorbRows$Part" "length" "I", Cond.methodLink RX6 33 arraycopyName, Cond.native arraycopyName, Cond.static arraycopyName, Cond.initialized "java/lang/System", Cond.fieldLink RX6 39 "BlorbRows$Part" "row" "LBlorbRows$Row;", Cond.fieldLink RX6 43 "BlorbRows$Part" "from" "I", Cond.methodLink RX6 28 yX6_room]
def wsX9_remove : List Cond := .code yX9_remove cX9_remove 3 (some .int) :: ((wsX9_remove_r1 ++ (wsX9_remove_r2 ++ wsX9_remove_r3)) ++ wsX90 ++ wsX00 ++ wsX30 ++ wsX60)
def wsX9_write_r1 : List Cond := [Cond.fieldLink RX9 18 "BlorbRows" "outRow" "LBlorbRows$Row;", Cond.fieldLink RX9 24 "BlorbRows" "house" "LBlorbRows$House;", Cond.fieldLink RX9 47 "BlorbRows$Row" "length" "I", Cond.methodLink RX9 50 yX6_keep, Cond.instanceMethod yX6_keep, Cond.selects RX6 yX6_keep yX6_keep, Cond.initialized RX6, Cond.code yX6_keep cX6_keep 2 none, Cond.fieldLink RX6 19 "BlorbRows$Row" "length" "I", Cond.methodLink RX9 226 yX0_writeTo, Cond.instanceMethod yX0_writeTo, Cond.selects RX0 yX0_writeTo yX0_writeTo, Cond.initialized RX0, Cond.code yX0_writeTo cX0_writeTo 3 none, Cond.constantLong RX0 95 (1179603533), Cond.fieldLink RX0 27 "BlorbRows$House" "chunks" "I", Cond.constantLong RX0 104 (1229345363), Cond.constantLong RX0 106 (1380541560), Cond.fieldLink RX0 41 "BlorbRows$House" "entries" "I", Cond.fieldLink RX0 31 "BlorbRows$House" "uses" "[I", Cond.fieldLink RX0 34 "BlorbRows$House" "numbers" "[J", Cond.fieldLink RX0 38 "BlorbRows$House" "targets" "[I", Cond.fieldLink RX0 20 "BlorbRows$House" "kinds" "[I", Cond.fieldLink RX0 86 "BlorbRows$Row" "length" "I"]
def wsX9_write_r2 : List Cond := [Cond.methodLink RX0 97 yX6_append, Cond.instanceMethod yX6_append, Cond.selects RX6 yX6_append yX6_append, Cond.code yX6_append cX6_append 5 none, Cond.fieldLink RX6 13 "BlorbRows$Row" "octets" "[B", Cond.methodLink RX6 28 yX6_room, Cond.instanceMethod yX6_room, Cond.selects RX6 yX6_room yX6_room, Cond.code yX6_room cX6_room 1 (some .int), Cond.methodLink RX0 101 yX0_placeOf, Cond.instanceMethod yX0_placeOf, Cond.selects RX0 yX0_placeOf yX0_placeOf, Cond.code yX0_placeOf cX0_placeOf 4 (some .int), Cond.methodLink RX0 57 yX0_lengthOf, Cond.instanceMethod yX0_lengthOf, Cond.selects RX0 yX0_lengthOf yX0_lengthOf, Cond.code yX0_lengthOf cX0_lengthOf 2 (some .int), Cond.fieldLink RX0 24 "BlorbRows$House" "starts" "[I", Cond.methodLink RX0 51 yX0_hasChunk, Cond.instanceMethod yX0_hasChunk, Cond.selects RX0 yX0_hasChunk yX0_hasChunk, Cond.code yX0_hasChunk cX0_hasChunk 2 (some .boolean), Cond.methodLink RX0 70 yX0_dataOf, Cond.instanceMethod yX0_dataOf]
def wsX9_write_r3 : List Cond := [Cond.selects RX0 yX0_dataOf yX0_dataOf, Cond.code yX0_dataOf cX0_dataOf 2 (some (.object "BlorbRows$Part")), Cond.classLink RX0 55 RX3, Cond.instantiable RX3 3, Cond.initialized RX3, Cond.fieldLink RX0 14 "BlorbRows$House" "data" "LBlorbRows$Row;", Cond.methodLink RX0 61 yX3_init, Cond.instanceMethod yX3_init, Cond.code yX3_init cX3_init 5 none, Cond.methodLink RX3 1 objectInit, Cond.instanceMethod objectInit, Cond.code objectInit ⟨#[0xb1]⟩ 1 none, Cond.fieldLink RX3 7 "BlorbRows$Row" "length" "I", Cond.fieldLink RX3 13 "BlorbRows$Part" "row" "LBlorbRows$Row;", Cond.fieldLink RX3 19 "BlorbRows$Part" "from" "I", Cond.fieldLink RX3 22 "BlorbRows$Part" "length" "I", Cond.methodLink RX0 87 yX6_splice, Cond.instanceMethod yX6_splice, Cond.selects RX6 yX6_splice yX6_splice, Cond.code yX6_splice cX6_splice 5 none, Cond.fieldLink RX6 32 "BlorbRows$Part" "length" "I", Cond.methodLink RX6 33 arraycopyName, Cond.native arraycopyName, Cond.static arraycopyName]
def wsX9_write_r4 : List Cond := [Cond.initialized "java/lang/System", Cond.fieldLink RX6 39 "BlorbRows$Part" "row" "LBlorbRows$Row;", Cond.fieldLink RX6 43 "BlorbRows$Part" "from" "I"]
def wsX9_write : List Cond := .code yX9_write cX9_write 1 (some .int) :: ((wsX9_write_r1 ++ (wsX9_write_r2 ++ (wsX9_write_r3 ++ wsX9_write_r4))) ++ wsX90 ++ wsX60 ++ wsX00 ++ wsX30)
def wsX9_out_r1 : List Cond := [Cond.fieldLink RX9 18 "BlorbRows" "outRow" "LBlorbRows$Row;", Cond.methodLink RX9 53 yX6_whole, Cond.instanceMethod yX6_whole, Cond.selects RX6 yX6_whole yX6_whole, Cond.initialized RX6, Cond.code yX6_whole cX6_whole 1 (some (.object "BlorbRows$Part")), Cond.classLink RX6 23 RX3, Cond.instantiable RX3 3, Cond.initialized RX3, Cond.fieldLink RX6 19 "BlorbRows$Row" "length" "I", Cond.methodLink RX6 25 yX3_init, Cond.instanceMethod yX3_init, Cond.code yX3_init cX3_init 5 none, Cond.methodLink RX3 1 objectInit, Cond.instanceMethod objectInit, Cond.code objectInit ⟨#[0xb1]⟩ 1 none, Cond.fieldLink RX3 7 "BlorbRows$Row" "length" "I", Cond.fieldLink RX3 13 "BlorbRows$Part" "row" "LBlorbRows$Row;", Cond.fieldLink RX3 19 "BlorbRows$Part" "from" "I", Cond.fieldLink RX3 22 "BlorbRows$Part" "length" "I", Cond.methodLink RX9 98 yX3_holds, Cond.instanceMethod yX3_holds, Cond.selects RX3 yX3_holds yX3_holds, Cond.code yX3_holds cX3_holds 3 (some .boolean)]
def wsX9_out_r2 : List Cond := [Cond.methodLink RX9 104 yX3_at, Cond.instanceMethod yX3_at, Cond.selects RX3 yX3_at yX3_at, Cond.code yX3_at cX3_at 2 (some .int), Cond.methodLink RX3 23 yX3_number, Cond.instanceMethod yX3_number, Cond.selects RX3 yX3_number yX3_number, Cond.code yX3_number cX3_number 6 (some .long), Cond.constantLong RX3 31 (-1), Cond.fieldLink RX3 33 "BlorbRows$Row" "octets" "[B", Cond.methodLink RX3 27 yX3_holds]
def wsX9_out : List Cond := .code yX9_out cX9_out 3 (some .int) :: ((wsX9_out_r1 ++ wsX9_out_r2) ++ wsX90 ++ wsX30 ++ wsX60)
def wsX9_back_r1 : List Cond := [Cond.fieldLink RX9 18 "BlorbRows" "outRow" "LBlorbRows$Row;", Cond.fieldLink RX9 47 "BlorbRows$Row" "length" "I", Cond.fieldLink RX9 14 "BlorbRows" "tape" "LBlorbRows$Row;", Cond.methodLink RX9 50 yX6_keep, Cond.instanceMethod yX6_keep, Cond.selects RX6 yX6_keep yX6_keep, Cond.initialized RX6, Cond.code yX6_keep cX6_keep 2 none, Cond.fieldLink RX6 19 "BlorbRows$Row" "length" "I", Cond.methodLink RX9 53 yX6_whole, Cond.instanceMethod yX6_whole, Cond.selects RX6 yX6_whole yX6_whole, Cond.code yX6_whole cX6_whole 1 (some (.object "BlorbRows$Part")), Cond.classLink RX6 23 RX3, Cond.instantiable RX3 3, Cond.initialized RX3, Cond.methodLink RX6 25 yX3_init, Cond.instanceMethod yX3_init, Cond.code yX3_init cX3_init 5 none, Cond.methodLink RX3 1 objectInit, Cond.instanceMethod objectInit, Cond.code objectInit ⟨#[0xb1]⟩ 1 none, Cond.fieldLink RX3 7 "BlorbRows$Row" "length" "I", Cond.fieldLink RX3 13 "BlorbRows$Part" "row" "LBlorbRows$Row;"]
def wsX9_back_r2 : List Cond := [Cond.fieldLink RX3 19 "BlorbRows$Part" "from" "I", Cond.fieldLink RX3 22 "BlorbRows$Part" "length" "I", Cond.methodLink RX9 230 yX6_splice, Cond.instanceMethod yX6_splice, Cond.selects RX6 yX6_splice yX6_splice, Cond.code yX6_splice cX6_splice 5 none, Cond.fieldLink RX6 32 "BlorbRows$Part" "length" "I", Cond.fieldLink RX6 13 "BlorbRows$Row" "octets" "[B", Cond.methodLink RX6 33 arraycopyName, Cond.native arraycopyName, Cond.static arraycopyName, Cond.initialized "java/lang/System", Cond.fieldLink RX6 39 "BlorbRows$Part" "row" "LBlorbRows$Row;", Cond.fieldLink RX6 43 "BlorbRows$Part" "from" "I", Cond.methodLink RX6 28 yX6_room, Cond.instanceMethod yX6_room, Cond.selects RX6 yX6_room yX6_room, Cond.code yX6_room cX6_room 1 (some .int)]
def wsX9_back : List Cond := .code yX9_back cX9_back 1 (some .int) :: ((wsX9_back_r1 ++ wsX9_back_r2) ++ wsX90 ++ wsX60 ++ wsX30)
def wsX10_init : List Cond := .code yX10_init cX10_init 1 none :: ([.methodLink RX10 1 objectInit, .instanceMethod objectInit, .code objectInit ⟨#[0xb1]⟩ 1 none, .arrayClass .int, .fieldLink RX10 7 "BlorbRowsModel" "tape" "[I", .fieldLink RX10 13 "BlorbRowsModel" "data" "[I", .fieldLink RX10 16 "BlorbRowsModel" "kind" "[I", .fieldLink RX10 19 "BlorbRowsModel" "size" "[I", .fieldLink RX10 22 "BlorbRowsModel" "use" "[I", .arrayClass .long, .fieldLink RX10 25 "BlorbRowsModel" "number" "[J", .fieldLink RX10 29 "BlorbRowsModel" "means" "[I", .fieldLink RX10 32 "BlorbRowsModel" "outRow" "[I", .fieldLink RX10 35 "BlorbRowsModel" "faultAt" "I", .fieldLink RX10 39 "BlorbRowsModel" "where" "[I"] ++ wsX100)
def wsX10_in : List Cond := .code yX10_in cX10_in 6 (some .boolean) :: ([])
def wsX10_isNumber : List Cond := .code yX10_isNumber cX10_isNumber 2 (some .boolean) :: ([.constantLong RX10 42 (4294967295), .methodLink RX10 44 yX10_in, .static yX10_in, .initialized RX10, .code yX10_in cX10_in 6 (some .boolean)])
def wsX10_isUse : List Cond := .code yX10_isUse cX10_isUse 1 (some .boolean) :: ([.constant RX10 48 (1349084020), .constant RX10 49 (1399743520), .constant RX10 50 (1147237473), .constant RX10 51 (1165518179)])
def wsX10_isKind : List Cond := .code yX10_isKind cX10_isKind 1 (some .boolean) :: ([.constantLong RX10 52 (32), .constantLong RX10 54 (126), .methodLink RX10 44 yX10_in, .static yX10_in, .initialized RX10, .code yX10_in cX10_in 6 (some .boolean)])
def wsX10_feed : List Cond := .code yX10_feed cX10_feed 5 (some .int) :: ([.constantLong RX10 56 (8), .fieldLink RX10 58 "BlorbRowsModel" "taped" "I", .fieldLink RX10 7 "BlorbRowsModel" "tape" "[I", .constantLong RX10 61 (255), .methodLink RX10 44 yX10_in, .static yX10_in, .initialized RX10, .code yX10_in cX10_in 6 (some .boolean)] ++ wsX100)
def wsX10_cut : List Cond := .code yX10_cut cX10_cut 3 (some .int) :: ([.fieldLink RX10 58 "BlorbRowsModel" "taped" "I", .methodLink RX10 44 yX10_in, .static yX10_in, .initialized RX10, .code yX10_in cX10_in 6 (some .boolean)] ++ wsX100)
def wsX10_kindIn : List Cond := .code yX10_kindIn cX10_kindIn 2 (some .int) :: ([])
def wsX10_four : List Cond := .code yX10_four cX10_four 2 (some .long) :: ([.constantLong RX10 42 (4294967295), .methodLink RX10 63 yX10_kindIn, .static yX10_kindIn, .initialized RX10, .code yX10_kindIn cX10_kindIn 2 (some .int)])
def wsX10_two : List Cond := .code yX10_two cX10_two 2 (some .int) :: ([])
def wsX10_stop : List Cond := .code yX10_stop cX10_stop 3 none :: ([.fieldLink RX10 67 "BlorbRowsModel" "fault" "I", .fieldLink RX10 35 "BlorbRowsModel" "faultAt" "I"] ++ wsX100)
def wsX10_piece_r1 : List Cond := [Cond.fieldLink RX10 58 "BlorbRowsModel" "taped" "I", Cond.fieldLink RX10 7 "BlorbRowsModel" "tape" "[I", Cond.fieldLink RX10 80 "BlorbRowsModel" "pieces" "I", Cond.constant RX10 97 (1380541560), Cond.constantLong RX10 56 (8), Cond.constantLong RX10 102 (2), Cond.fieldLink RX10 67 "BlorbRowsModel" "fault" "I", Cond.fieldLink RX10 87 "BlorbRowsModel" "indexSize" "I", Cond.fieldLink RX10 39 "BlorbRowsModel" "where" "[I", Cond.methodLink RX10 70 yX10_stop, Cond.instanceMethod yX10_stop, Cond.selects RX10 yX10_stop yX10_stop, Cond.initialized RX10, Cond.code yX10_stop cX10_stop 3 none, Cond.fieldLink RX10 35 "BlorbRowsModel" "faultAt" "I", Cond.methodLink RX10 63 yX10_kindIn, Cond.static yX10_kindIn, Cond.code yX10_kindIn cX10_kindIn 2 (some .int), Cond.methodLink RX10 98 yX10_isKind, Cond.static yX10_isKind, Cond.code yX10_isKind cX10_isKind 1 (some .boolean), Cond.constantLong RX10 52 (32), Cond.constantLong RX10 54 (126), Cond.methodLink RX10 44 yX10_in]
def wsX10_piece_r2 : List Cond := [Cond.static yX10_in, Cond.code yX10_in cX10_in 6 (some .boolean), Cond.methodLink RX10 75 yX10_four, Cond.static yX10_four, Cond.code yX10_four cX10_four 2 (some .long), Cond.constantLong RX10 42 (4294967295)]
def wsX10_piece : List Cond := .code yX10_piece cX10_piece 7 (some .int) :: ((wsX10_piece_r1 ++ wsX10_piece_r2) ++ wsX100)
def wsX10_entryOf : List Cond := .code yX10_entryOf cX10_entryOf 6 none :: ([.fieldLink RX10 7 "BlorbRowsModel" "tape" "[I", .fieldLink RX10 80 "BlorbRowsModel" "pieces" "I", .fieldLink RX10 39 "BlorbRowsModel" "where" "[I", .methodLink RX10 70 yX10_stop, .instanceMethod yX10_stop, .selects RX10 yX10_stop yX10_stop, .initialized RX10, .code yX10_stop cX10_stop 3 none, .fieldLink RX10 67 "BlorbRowsModel" "fault" "I", .fieldLink RX10 35 "BlorbRowsModel" "faultAt" "I", .methodLink RX10 63 yX10_kindIn, .static yX10_kindIn, .code yX10_kindIn cX10_kindIn 2 (some .int), .methodLink RX10 104 yX10_isUse, .static yX10_isUse, .code yX10_isUse cX10_isUse 1 (some .boolean), .constant RX10 48 (1349084020), .constant RX10 49 (1399743520), .constant RX10 50 (1147237473), .constant RX10 51 (1165518179), .methodLink RX10 75 yX10_four, .static yX10_four, .code yX10_four cX10_four 2 (some .long), .constantLong RX10 42 (4294967295)] ++ wsX100)
def wsX10_goOver_r1 : List Cond := [Cond.fieldLink RX10 58 "BlorbRowsModel" "taped" "I", Cond.fieldLink RX10 7 "BlorbRowsModel" "tape" "[I", Cond.constant RX10 74 (1179603533), Cond.constant RX10 79 (1229345363), Cond.fieldLink RX10 80 "BlorbRowsModel" "pieces" "I", Cond.fieldLink RX10 67 "BlorbRowsModel" "fault" "I", Cond.fieldLink RX10 87 "BlorbRowsModel" "indexSize" "I", Cond.constantLong RX10 90 (4), Cond.constantLong RX10 92 (12), Cond.methodLink RX10 70 yX10_stop, Cond.instanceMethod yX10_stop, Cond.selects RX10 yX10_stop yX10_stop, Cond.initialized RX10, Cond.code yX10_stop cX10_stop 3 none, Cond.fieldLink RX10 35 "BlorbRowsModel" "faultAt" "I", Cond.methodLink RX10 63 yX10_kindIn, Cond.static yX10_kindIn, Cond.code yX10_kindIn cX10_kindIn 2 (some .int), Cond.methodLink RX10 75 yX10_four, Cond.static yX10_four, Cond.code yX10_four cX10_four 2 (some .long), Cond.constantLong RX10 42 (4294967295), Cond.methodLink RX10 83 yX10_piece, Cond.instanceMethod yX10_piece]
def wsX10_goOver_r2 : List Cond := [Cond.selects RX10 yX10_piece yX10_piece, Cond.code yX10_piece cX10_piece 7 (some .int), Cond.constant RX10 97 (1380541560), Cond.constantLong RX10 56 (8), Cond.constantLong RX10 102 (2), Cond.fieldLink RX10 39 "BlorbRowsModel" "where" "[I", Cond.methodLink RX10 98 yX10_isKind, Cond.static yX10_isKind, Cond.code yX10_isKind cX10_isKind 1 (some .boolean), Cond.constantLong RX10 52 (32), Cond.constantLong RX10 54 (126), Cond.methodLink RX10 44 yX10_in, Cond.static yX10_in, Cond.code yX10_in cX10_in 6 (some .boolean), Cond.methodLink RX10 94 yX10_entryOf, Cond.instanceMethod yX10_entryOf, Cond.selects RX10 yX10_entryOf yX10_entryOf, Cond.code yX10_entryOf cX10_entryOf 6 none, Cond.methodLink RX10 104 yX10_isUse, Cond.static yX10_isUse, Cond.code yX10_isUse cX10_isUse 1 (some .boolean), Cond.constant RX10 48 (1349084020), Cond.constant RX10 49 (1399743520), Cond.constant RX10 50 (1147237473)]
def wsX10_goOver_r3 : List Cond := [Cond.constant RX10 51 (1165518179)]
def wsX10_goOver : List Cond := .code yX10_goOver cX10_goOver 4 none :: ((wsX10_goOver_r1 ++ (wsX10_goOver_r2 ++ wsX10_goOver_r3)) ++ wsX100)
def wsX10_take : List Cond := .code yX10_take cX10_take 4 none :: ([.fieldLink RX10 80 "BlorbRowsModel" "pieces" "I", .fieldLink RX10 113 "BlorbRowsModel" "chunks" "I", .fieldLink RX10 116 "BlorbRowsModel" "used" "I", .fieldLink RX10 16 "BlorbRowsModel" "kind" "[I", .fieldLink RX10 7 "BlorbRowsModel" "tape" "[I", .fieldLink RX10 39 "BlorbRowsModel" "where" "[I", .fieldLink RX10 19 "BlorbRowsModel" "size" "[I", .fieldLink RX10 13 "BlorbRowsModel" "data" "[I", .fieldLink RX10 87 "BlorbRowsModel" "indexSize" "I", .fieldLink RX10 119 "BlorbRowsModel" "entries" "I", .fieldLink RX10 22 "BlorbRowsModel" "use" "[I", .fieldLink RX10 25 "BlorbRowsModel" "number" "[J", .fieldLink RX10 29 "BlorbRowsModel" "means" "[I", .methodLink RX10 63 yX10_kindIn, .static yX10_kindIn, .initialized RX10, .code yX10_kindIn cX10_kindIn 2 (some .int), .methodLink RX10 75 yX10_four, .static yX10_four, .code yX10_four cX10_four 2 (some .long), .constantLong RX10 42 (4294967295)] ++ wsX100)
def wsX10_read_r1 : List Cond := [Cond.fieldLink RX10 67 "BlorbRowsModel" "fault" "I", Cond.fieldLink RX10 35 "BlorbRowsModel" "faultAt" "I", Cond.fieldLink RX10 58 "BlorbRowsModel" "taped" "I", Cond.fieldLink RX10 113 "BlorbRowsModel" "chunks" "I", Cond.methodLink RX10 107 yX10_goOver, Cond.instanceMethod yX10_goOver, Cond.selects RX10 yX10_goOver yX10_goOver, Cond.initialized RX10, Cond.code yX10_goOver cX10_goOver 4 none, Cond.fieldLink RX10 7 "BlorbRowsModel" "tape" "[I", Cond.constant RX10 74 (1179603533), Cond.constant RX10 79 (1229345363), Cond.fieldLink RX10 80 "BlorbRowsModel" "pieces" "I", Cond.fieldLink RX10 87 "BlorbRowsModel" "indexSize" "I", Cond.constantLong RX10 90 (4), Cond.constantLong RX10 92 (12), Cond.methodLink RX10 70 yX10_stop, Cond.instanceMethod yX10_stop, Cond.selects RX10 yX10_stop yX10_stop, Cond.code yX10_stop cX10_stop 3 none, Cond.methodLink RX10 63 yX10_kindIn, Cond.static yX10_kindIn, Cond.code yX10_kindIn cX10_kindIn 2 (some .int), Cond.methodLink RX10 75 yX10_four]
def wsX10_read_r2 : List Cond := [Cond.static yX10_four, Cond.code yX10_four cX10_four 2 (some .long), Cond.constantLong RX10 42 (4294967295), Cond.methodLink RX10 83 yX10_piece, Cond.instanceMethod yX10_piece, Cond.selects RX10 yX10_piece yX10_piece, Cond.code yX10_piece cX10_piece 7 (some .int), Cond.constant RX10 97 (1380541560), Cond.constantLong RX10 56 (8), Cond.constantLong RX10 102 (2), Cond.fieldLink RX10 39 "BlorbRowsModel" "where" "[I", Cond.methodLink RX10 98 yX10_isKind, Cond.static yX10_isKind, Cond.code yX10_isKind cX10_isKind 1 (some .boolean), Cond.constantLong RX10 52 (32), Cond.constantLong RX10 54 (126), Cond.methodLink RX10 44 yX10_in, Cond.static yX10_in, Cond.code yX10_in cX10_in 6 (some .boolean), Cond.methodLink RX10 94 yX10_entryOf, Cond.instanceMethod yX10_entryOf, Cond.selects RX10 yX10_entryOf yX10_entryOf, Cond.code yX10_entryOf cX10_entryOf 6 none, Cond.methodLink RX10 104 yX10_isUse]
def wsX10_read_r3 : List Cond := [Cond.static yX10_isUse, Cond.code yX10_isUse cX10_isUse 1 (some .boolean), Cond.constant RX10 48 (1349084020), Cond.constant RX10 49 (1399743520), Cond.constant RX10 50 (1147237473), Cond.constant RX10 51 (1165518179), Cond.methodLink RX10 110 yX10_take, Cond.instanceMethod yX10_take, Cond.selects RX10 yX10_take yX10_take, Cond.code yX10_take cX10_take 4 none, Cond.fieldLink RX10 116 "BlorbRowsModel" "used" "I", Cond.fieldLink RX10 16 "BlorbRowsModel" "kind" "[I", Cond.fieldLink RX10 19 "BlorbRowsModel" "size" "[I", Cond.fieldLink RX10 13 "BlorbRowsModel" "data" "[I", Cond.fieldLink RX10 119 "BlorbRowsModel" "entries" "I", Cond.fieldLink RX10 22 "BlorbRowsModel" "use" "[I", Cond.fieldLink RX10 25 "BlorbRowsModel" "number" "[J", Cond.fieldLink RX10 29 "BlorbRowsModel" "means" "[I"]
def wsX10_read : List Cond := .code yX10_read cX10_read 1 (some .int) :: ((wsX10_read_r1 ++ (wsX10_read_r2 ++ wsX10_read_r3)) ++ wsX100)
def wsX10_place : List Cond := .code yX10_place cX10_place 1 (some .int) :: ([.fieldLink RX10 35 "BlorbRowsModel" "faultAt" "I"] ++ wsX100)
def wsX10_told : List Cond := .code yX10_told cX10_told 2 (some .int) :: ([.fieldLink RX10 113 "BlorbRowsModel" "chunks" "I", .fieldLink RX10 119 "BlorbRowsModel" "entries" "I", .fieldLink RX10 116 "BlorbRowsModel" "used" "I", .fieldLink RX10 58 "BlorbRowsModel" "taped" "I", .fieldLink RX10 122 "BlorbRowsModel" "outSize" "I"] ++ wsX100)
def wsX10_isChunk : List Cond := .code yX10_isChunk cX10_isChunk 2 (some .boolean) :: ([.fieldLink RX10 113 "BlorbRowsModel" "chunks" "I", .methodLink RX10 44 yX10_in, .static yX10_in, .initialized RX10, .code yX10_in cX10_in 6 (some .boolean)] ++ wsX100)
def wsX10_fromOf : List Cond := .code yX10_fromOf cX10_fromOf 4 (some .int) :: ([.fieldLink RX10 19 "BlorbRowsModel" "size" "[I"] ++ wsX100)
def wsX10_placeOf : List Cond := .code yX10_placeOf cX10_placeOf 4 (some .int) :: ([.fieldLink RX10 119 "BlorbRowsModel" "entries" "I", .fieldLink RX10 19 "BlorbRowsModel" "size" "[I"] ++ wsX100)
def wsX10_meant : List Cond := .code yX10_meant cX10_meant 4 (some .int) :: ([.fieldLink RX10 119 "BlorbRowsModel" "entries" "I", .fieldLink RX10 29 "BlorbRowsModel" "means" "[I"] ++ wsX100)
def wsX10_chunk : List Cond := .code yX10_chunk cX10_chunk 3 (some .int) :: ([.constantLong RX10 128 (3), .fieldLink RX10 16 "BlorbRowsModel" "kind" "[I", .fieldLink RX10 19 "BlorbRowsModel" "size" "[I", .methodLink RX10 125 yX10_isChunk, .instanceMethod yX10_isChunk, .selects RX10 yX10_isChunk yX10_isChunk, .initialized RX10, .code yX10_isChunk cX10_isChunk 2 (some .boolean), .fieldLink RX10 113 "BlorbRowsModel" "chunks" "I", .methodLink RX10 44 yX10_in, .static yX10_in, .code yX10_in cX10_in 6 (some .boolean), .methodLink RX10 130 yX10_placeOf, .instanceMethod yX10_placeOf, .selects RX10 yX10_placeOf yX10_placeOf, .code yX10_placeOf cX10_placeOf 4 (some .int), .fieldLink RX10 119 "BlorbRowsModel" "entries" "I", .methodLink RX10 133 yX10_meant, .instanceMethod yX10_meant, .selects RX10 yX10_meant yX10_meant, .code yX10_meant cX10_meant 4 (some .int), .fieldLink RX10 29 "BlorbRowsModel" "means" "[I"] ++ wsX100)
def wsX10_octet : List Cond := .code yX10_octet cX10_octet 3 (some .int) :: ([.fieldLink RX10 19 "BlorbRowsModel" "size" "[I", .fieldLink RX10 13 "BlorbRowsModel" "data" "[I", .methodLink RX10 125 yX10_isChunk, .instanceMethod yX10_isChunk, .selects RX10 yX10_isChunk yX10_isChunk, .initialized RX10, .code yX10_isChunk cX10_isChunk 2 (some .boolean), .fieldLink RX10 113 "BlorbRowsModel" "chunks" "I", .methodLink RX10 44 yX10_in, .static yX10_in, .code yX10_in cX10_in 6 (some .boolean), .methodLink RX10 136 yX10_fromOf, .instanceMethod yX10_fromOf, .selects RX10 yX10_fromOf yX10_fromOf, .code yX10_fromOf cX10_fromOf 4 (some .int)] ++ wsX100)
def wsX10_goes_r1 : List Cond := [Cond.fieldLink RX10 16 "BlorbRowsModel" "kind" "[I", Cond.constant RX10 48 (1349084020), Cond.constant RX10 139 (1347307296), Cond.constant RX10 140 (1246774599), Cond.constant RX10 141 (1382376308), Cond.constant RX10 49 (1399743520), Cond.constant RX10 74 (1179603533), Cond.fieldLink RX10 19 "BlorbRowsModel" "size" "[I", Cond.fieldLink RX10 13 "BlorbRowsModel" "data" "[I", Cond.constant RX10 142 (1095321158), Cond.constant RX10 143 (1330071382), Cond.constant RX10 144 (1297040416), Cond.constant RX10 145 (1397706311), Cond.constant RX10 50 (1147237473), Cond.constant RX10 146 (1413830740), Cond.constant RX10 147 (1112100417), Cond.constant RX10 148 (1514360644), Cond.constant RX10 149 (1196184908), Cond.methodLink RX10 136 yX10_fromOf, Cond.instanceMethod yX10_fromOf, Cond.selects RX10 yX10_fromOf yX10_fromOf, Cond.initialized RX10, Cond.code yX10_fromOf cX10_fromOf 4 (some .int), Cond.methodLink RX10 63 yX10_kindIn]
def wsX10_goes_r2 : List Cond := [Cond.static yX10_kindIn, Cond.code yX10_kindIn cX10_kindIn 2 (some .int)]
def wsX10_goes : List Cond := .code yX10_goes cX10_goes 4 (some .boolean) :: ((wsX10_goes_r1 ++ wsX10_goes_r2) ++ wsX100)
def wsX10_entry_r1 : List Cond := [Cond.fieldLink RX10 119 "BlorbRowsModel" "entries" "I", Cond.constantLong RX10 128 (3), Cond.constantLong RX10 150 (-1), Cond.fieldLink RX10 22 "BlorbRowsModel" "use" "[I", Cond.fieldLink RX10 25 "BlorbRowsModel" "number" "[J", Cond.fieldLink RX10 29 "BlorbRowsModel" "means" "[I", Cond.methodLink RX10 44 yX10_in, Cond.static yX10_in, Cond.initialized RX10, Cond.code yX10_in cX10_in 6 (some .boolean), Cond.methodLink RX10 152 yX10_goes, Cond.instanceMethod yX10_goes, Cond.selects RX10 yX10_goes yX10_goes, Cond.code yX10_goes cX10_goes 4 (some .boolean), Cond.fieldLink RX10 16 "BlorbRowsModel" "kind" "[I", Cond.constant RX10 48 (1349084020), Cond.constant RX10 139 (1347307296), Cond.constant RX10 140 (1246774599), Cond.constant RX10 141 (1382376308), Cond.constant RX10 49 (1399743520), Cond.constant RX10 74 (1179603533), Cond.fieldLink RX10 19 "BlorbRowsModel" "size" "[I", Cond.fieldLink RX10 13 "BlorbRowsModel" "data" "[I", Cond.constant RX10 142 (1095321158)]
def wsX10_entry_r2 : List Cond := [Cond.constant RX10 143 (1330071382), Cond.constant RX10 144 (1297040416), Cond.constant RX10 145 (1397706311), Cond.constant RX10 50 (1147237473), Cond.constant RX10 146 (1413830740), Cond.constant RX10 147 (1112100417), Cond.constant RX10 148 (1514360644), Cond.constant RX10 149 (1196184908), Cond.methodLink RX10 136 yX10_fromOf, Cond.instanceMethod yX10_fromOf, Cond.selects RX10 yX10_fromOf yX10_fromOf, Cond.code yX10_fromOf cX10_fromOf 4 (some .int), Cond.methodLink RX10 63 yX10_kindIn, Cond.static yX10_kindIn, Cond.code yX10_kindIn cX10_kindIn 2 (some .int)]
def wsX10_entry : List Cond := .code yX10_entry cX10_entry 3 (some .long) :: ((wsX10_entry_r1 ++ wsX10_entry_r2) ++ wsX100)
def wsX10_entryFor : List Cond := .code yX10_entryFor cX10_entryFor 6 (some .int) :: ([.fieldLink RX10 119 "BlorbRowsModel" "entries" "I", .fieldLink RX10 22 "BlorbRowsModel" "use" "[I", .fieldLink RX10 25 "BlorbRowsModel" "number" "[J"] ++ wsX100)
def wsX10_find : List Cond := .code yX10_find cX10_find 5 (some .int) :: ([.fieldLink RX10 29 "BlorbRowsModel" "means" "[I", .methodLink RX10 104 yX10_isUse, .static yX10_isUse, .initialized RX10, .code yX10_isUse cX10_isUse 1 (some .boolean), .constant RX10 48 (1349084020), .constant RX10 49 (1399743520), .constant RX10 50 (1147237473), .constant RX10 51 (1165518179), .methodLink RX10 156 yX10_isNumber, .static yX10_isNumber, .code yX10_isNumber cX10_isNumber 2 (some .boolean), .constantLong RX10 42 (4294967295), .methodLink RX10 44 yX10_in, .static yX10_in, .code yX10_in cX10_in 6 (some .boolean), .methodLink RX10 160 yX10_entryFor, .instanceMethod yX10_entryFor, .selects RX10 yX10_entryFor yX10_entryFor, .code yX10_entryFor cX10_entryFor 6 (some .int), .fieldLink RX10 119 "BlorbRowsModel" "entries" "I", .fieldLink RX10 22 "BlorbRowsModel" "use" "[I", .fieldLink RX10 25 "BlorbRowsModel" "number" "[J"] ++ wsX100)
def wsX10_jpeg : List Cond := .code yX10_jpeg cX10_jpeg 7 (some .long) :: ([.fieldLink RX10 13 "BlorbRowsModel" "data" "[I", .constantLong RX10 164 (-2), .constantLong RX10 166 (208), .constantLong RX10 168 (215), .constantLong RX10 173 (192), .constantLong RX10 175 (207), .methodLink RX10 44 yX10_in, .static yX10_in, .initialized RX10, .code yX10_in cX10_in 6 (some .boolean), .methodLink RX10 170 yX10_two, .static yX10_two, .code yX10_two cX10_two 2 (some .int)] ++ wsX100)
def wsX10_isPng : List Cond := .code yX10_isPng cX10_isPng 3 (some .boolean) :: ([.fieldLink RX10 13 "BlorbRowsModel" "data" "[I", .constant RX10 177 (-1991225785), .constant RX10 178 (218765834), .constant RX10 179 (1229472850), .methodLink RX10 63 yX10_kindIn, .static yX10_kindIn, .initialized RX10, .code yX10_kindIn cX10_kindIn 2 (some .int)] ++ wsX100)
def wsX10_sizeOf_r1 : List Cond := [Cond.fieldLink RX10 16 "BlorbRowsModel" "kind" "[I", Cond.constant RX10 141 (1382376308), Cond.fieldLink RX10 19 "BlorbRowsModel" "size" "[I", Cond.fieldLink RX10 13 "BlorbRowsModel" "data" "[I", Cond.constantLong RX10 164 (-2), Cond.constant RX10 139 (1347307296), Cond.constant RX10 140 (1246774599), Cond.methodLink RX10 136 yX10_fromOf, Cond.instanceMethod yX10_fromOf, Cond.selects RX10 yX10_fromOf yX10_fromOf, Cond.initialized RX10, Cond.code yX10_fromOf cX10_fromOf 4 (some .int), Cond.methodLink RX10 75 yX10_four, Cond.static yX10_four, Cond.code yX10_four cX10_four 2 (some .long), Cond.constantLong RX10 42 (4294967295), Cond.methodLink RX10 63 yX10_kindIn, Cond.static yX10_kindIn, Cond.code yX10_kindIn cX10_kindIn 2 (some .int), Cond.methodLink RX10 180 yX10_isPng, Cond.instanceMethod yX10_isPng, Cond.selects RX10 yX10_isPng yX10_isPng, Cond.code yX10_isPng cX10_isPng 3 (some .boolean), Cond.constant RX10 177 (-1991225785)]
def wsX10_sizeOf_r2 : List Cond := [Cond.constant RX10 178 (218765834), Cond.constant RX10 179 (1229472850), Cond.methodLink RX10 183 yX10_jpeg, Cond.instanceMethod yX10_jpeg, Cond.selects RX10 yX10_jpeg yX10_jpeg, Cond.code yX10_jpeg cX10_jpeg 7 (some .long), Cond.constantLong RX10 166 (208), Cond.constantLong RX10 168 (215), Cond.constantLong RX10 173 (192), Cond.constantLong RX10 175 (207), Cond.methodLink RX10 44 yX10_in, Cond.static yX10_in, Cond.code yX10_in cX10_in 6 (some .boolean), Cond.methodLink RX10 170 yX10_two, Cond.static yX10_two, Cond.code yX10_two cX10_two 2 (some .int)]
def wsX10_sizeOf : List Cond := .code yX10_sizeOf cX10_sizeOf 4 (some .long) :: ((wsX10_sizeOf_r1 ++ wsX10_sizeOf_r2) ++ wsX100)
def wsX10_size_r1 : List Cond := [Cond.constantLong RX10 150 (-1), Cond.methodLink RX10 125 yX10_isChunk, Cond.instanceMethod yX10_isChunk, Cond.selects RX10 yX10_isChunk yX10_isChunk, Cond.initialized RX10, Cond.code yX10_isChunk cX10_isChunk 2 (some .boolean), Cond.fieldLink RX10 113 "BlorbRowsModel" "chunks" "I", Cond.methodLink RX10 44 yX10_in, Cond.static yX10_in, Cond.code yX10_in cX10_in 6 (some .boolean), Cond.methodLink RX10 187 yX10_sizeOf, Cond.instanceMethod yX10_sizeOf, Cond.selects RX10 yX10_sizeOf yX10_sizeOf, Cond.code yX10_sizeOf cX10_sizeOf 4 (some .long), Cond.fieldLink RX10 16 "BlorbRowsModel" "kind" "[I", Cond.constant RX10 141 (1382376308), Cond.fieldLink RX10 19 "BlorbRowsModel" "size" "[I", Cond.fieldLink RX10 13 "BlorbRowsModel" "data" "[I", Cond.constantLong RX10 164 (-2), Cond.constant RX10 139 (1347307296), Cond.constant RX10 140 (1246774599), Cond.methodLink RX10 136 yX10_fromOf, Cond.instanceMethod yX10_fromOf, Cond.selects RX10 yX10_fromOf yX10_fromOf]
def wsX10_size_r2 : List Cond := [Cond.code yX10_fromOf cX10_fromOf 4 (some .int), Cond.methodLink RX10 75 yX10_four, Cond.static yX10_four, Cond.code yX10_four cX10_four 2 (some .long), Cond.constantLong RX10 42 (4294967295), Cond.methodLink RX10 63 yX10_kindIn, Cond.static yX10_kindIn, Cond.code yX10_kindIn cX10_kindIn 2 (some .int), Cond.methodLink RX10 180 yX10_isPng, Cond.instanceMethod yX10_isPng, Cond.selects RX10 yX10_isPng yX10_isPng, Cond.code yX10_isPng cX10_isPng 3 (some .boolean), Cond.constant RX10 177 (-1991225785), Cond.constant RX10 178 (218765834), Cond.constant RX10 179 (1229472850), Cond.methodLink RX10 183 yX10_jpeg, Cond.instanceMethod yX10_jpeg, Cond.selects RX10 yX10_jpeg yX10_jpeg, Cond.code yX10_jpeg cX10_jpeg 7 (some .long), Cond.constantLong RX10 166 (208), Cond.constantLong RX10 168 (215), Cond.constantLong RX10 173 (192), Cond.constantLong RX10 175 (207), Cond.methodLink RX10 170 yX10_two]
def wsX10_size_r3 : List Cond := [Cond.static yX10_two, Cond.code yX10_two cX10_two 2 (some .int)]
def wsX10_size : List Cond := .code yX10_size cX10_size 3 (some .long) :: ((wsX10_size_r1 ++ (wsX10_size_r2 ++ wsX10_size_r3)) ++ wsX100)
def wsX10_commOf : List Cond := .code yX10_commOf cX10_commOf 8 (some .int) :: ([.fieldLink RX10 16 "BlorbRowsModel" "kind" "[I", .constant RX10 74 (1179603533), .fieldLink RX10 19 "BlorbRowsModel" "size" "[I", .fieldLink RX10 13 "BlorbRowsModel" "data" "[I", .constant RX10 142 (1095321158), .constantLong RX10 90 (4), .constantLong RX10 56 (8), .constant RX10 191 (1129270605), .constantLong RX10 192 (18), .constantLong RX10 102 (2), .methodLink RX10 136 yX10_fromOf, .instanceMethod yX10_fromOf, .selects RX10 yX10_fromOf yX10_fromOf, .initialized RX10, .code yX10_fromOf cX10_fromOf 4 (some .int), .methodLink RX10 63 yX10_kindIn, .static yX10_kindIn, .code yX10_kindIn cX10_kindIn 2 (some .int), .methodLink RX10 75 yX10_four, .static yX10_four, .code yX10_four cX10_four 2 (some .long), .constantLong RX10 42 (4294967295)] ++ wsX100)
def wsX10_sound_r1 : List Cond := [Cond.constantLong RX10 128 (3), Cond.constantLong RX10 150 (-1), Cond.constantLong RX10 164 (-2), Cond.fieldLink RX10 13 "BlorbRowsModel" "data" "[I", Cond.methodLink RX10 125 yX10_isChunk, Cond.instanceMethod yX10_isChunk, Cond.selects RX10 yX10_isChunk yX10_isChunk, Cond.initialized RX10, Cond.code yX10_isChunk cX10_isChunk 2 (some .boolean), Cond.fieldLink RX10 113 "BlorbRowsModel" "chunks" "I", Cond.methodLink RX10 44 yX10_in, Cond.static yX10_in, Cond.code yX10_in cX10_in 6 (some .boolean), Cond.methodLink RX10 194 yX10_commOf, Cond.instanceMethod yX10_commOf, Cond.selects RX10 yX10_commOf yX10_commOf, Cond.code yX10_commOf cX10_commOf 8 (some .int), Cond.fieldLink RX10 16 "BlorbRowsModel" "kind" "[I", Cond.constant RX10 74 (1179603533), Cond.fieldLink RX10 19 "BlorbRowsModel" "size" "[I", Cond.constant RX10 142 (1095321158), Cond.constantLong RX10 90 (4), Cond.constantLong RX10 56 (8), Cond.constant RX10 191 (1129270605)]
def wsX10_sound_r2 : List Cond := [Cond.constantLong RX10 192 (18), Cond.constantLong RX10 102 (2), Cond.methodLink RX10 136 yX10_fromOf, Cond.instanceMethod yX10_fromOf, Cond.selects RX10 yX10_fromOf yX10_fromOf, Cond.code yX10_fromOf cX10_fromOf 4 (some .int), Cond.methodLink RX10 63 yX10_kindIn, Cond.static yX10_kindIn, Cond.code yX10_kindIn cX10_kindIn 2 (some .int), Cond.methodLink RX10 75 yX10_four, Cond.static yX10_four, Cond.code yX10_four cX10_four 2 (some .long), Cond.constantLong RX10 42 (4294967295), Cond.methodLink RX10 170 yX10_two, Cond.static yX10_two, Cond.code yX10_two cX10_two 2 (some .int)]
def wsX10_sound : List Cond := .code yX10_sound cX10_sound 8 (some .long) :: ((wsX10_sound_r1 ++ wsX10_sound_r2) ++ wsX100)
def wsX10_first : List Cond := .code yX10_first cX10_first 5 (some .int) :: ([.fieldLink RX10 113 "BlorbRowsModel" "chunks" "I", .fieldLink RX10 16 "BlorbRowsModel" "kind" "[I", .fieldLink RX10 19 "BlorbRowsModel" "size" "[I"] ++ wsX100)
def wsX10_front : List Cond := .code yX10_front cX10_front 2 (some .long) :: ([.constant RX10 197 (1181970531), .constantLong RX10 164 (-2), .fieldLink RX10 13 "BlorbRowsModel" "data" "[I", .methodLink RX10 198 yX10_first, .instanceMethod yX10_first, .selects RX10 yX10_first yX10_first, .initialized RX10, .code yX10_first cX10_first 5 (some .int), .fieldLink RX10 113 "BlorbRowsModel" "chunks" "I", .fieldLink RX10 16 "BlorbRowsModel" "kind" "[I", .fieldLink RX10 19 "BlorbRowsModel" "size" "[I", .methodLink RX10 136 yX10_fromOf, .instanceMethod yX10_fromOf, .selects RX10 yX10_fromOf yX10_fromOf, .code yX10_fromOf cX10_fromOf 4 (some .int), .methodLink RX10 75 yX10_four, .static yX10_four, .code yX10_four cX10_four 2 (some .long), .constantLong RX10 42 (4294967295), .methodLink RX10 63 yX10_kindIn, .static yX10_kindIn, .code yX10_kindIn cX10_kindIn 2 (some .int)] ++ wsX100)
def wsX10_release : List Cond := .code yX10_release cX10_release 2 (some .int) :: ([.constant RX10 202 (1382378574), .fieldLink RX10 13 "BlorbRowsModel" "data" "[I", .methodLink RX10 198 yX10_first, .instanceMethod yX10_first, .selects RX10 yX10_first yX10_first, .initialized RX10, .code yX10_first cX10_first 5 (some .int), .fieldLink RX10 113 "BlorbRowsModel" "chunks" "I", .fieldLink RX10 16 "BlorbRowsModel" "kind" "[I", .fieldLink RX10 19 "BlorbRowsModel" "size" "[I", .methodLink RX10 136 yX10_fromOf, .instanceMethod yX10_fromOf, .selects RX10 yX10_fromOf yX10_fromOf, .code yX10_fromOf cX10_fromOf 4 (some .int), .methodLink RX10 170 yX10_two, .static yX10_two, .code yX10_two cX10_two 2 (some .int)] ++ wsX100)
def wsX10_colour : List Cond := .code yX10_colour cX10_colour 4 (some .int) :: ([.constant RX10 203 (1349284965), .constantLong RX10 128 (3), .fieldLink RX10 19 "BlorbRowsModel" "size" "[I", .fieldLink RX10 13 "BlorbRowsModel" "data" "[I", .methodLink RX10 198 yX10_first, .instanceMethod yX10_first, .selects RX10 yX10_first yX10_first, .initialized RX10, .code yX10_first cX10_first 5 (some .int), .fieldLink RX10 113 "BlorbRowsModel" "chunks" "I", .fieldLink RX10 16 "BlorbRowsModel" "kind" "[I", .methodLink RX10 136 yX10_fromOf, .instanceMethod yX10_fromOf, .selects RX10 yX10_fromOf yX10_fromOf, .code yX10_fromOf cX10_fromOf 4 (some .int)] ++ wsX100)
def wsX10_ratiosOf : List Cond := .code yX10_ratiosOf cX10_ratiosOf 6 (some .int) :: ([.constant RX10 204 (1382380399), .fieldLink RX10 19 "BlorbRowsModel" "size" "[I", .fieldLink RX10 13 "BlorbRowsModel" "data" "[I", .methodLink RX10 198 yX10_first, .instanceMethod yX10_first, .selects RX10 yX10_first yX10_first, .initialized RX10, .code yX10_first cX10_first 5 (some .int), .fieldLink RX10 113 "BlorbRowsModel" "chunks" "I", .fieldLink RX10 16 "BlorbRowsModel" "kind" "[I", .methodLink RX10 136 yX10_fromOf, .instanceMethod yX10_fromOf, .selects RX10 yX10_fromOf yX10_fromOf, .code yX10_fromOf cX10_fromOf 4 (some .int), .methodLink RX10 75 yX10_four, .static yX10_four, .code yX10_four cX10_four 2 (some .long), .constantLong RX10 42 (4294967295), .methodLink RX10 63 yX10_kindIn, .static yX10_kindIn, .code yX10_kindIn cX10_kindIn 2 (some .int)] ++ wsX100)
def wsX10_scaled_r1 : List Cond := [Cond.constantLong RX10 205 (65535), Cond.constantLong RX10 150 (-1), Cond.constant RX10 48 (1349084020), Cond.constantLong RX10 164 (-2), Cond.fieldLink RX10 29 "BlorbRowsModel" "means" "[I", Cond.constant RX10 204 (1382380399), Cond.fieldLink RX10 13 "BlorbRowsModel" "data" "[I", Cond.methodLink RX10 156 yX10_isNumber, Cond.static yX10_isNumber, Cond.initialized RX10, Cond.code yX10_isNumber cX10_isNumber 2 (some .boolean), Cond.constantLong RX10 42 (4294967295), Cond.methodLink RX10 44 yX10_in, Cond.static yX10_in, Cond.code yX10_in cX10_in 6 (some .boolean), Cond.methodLink RX10 160 yX10_entryFor, Cond.instanceMethod yX10_entryFor, Cond.selects RX10 yX10_entryFor yX10_entryFor, Cond.code yX10_entryFor cX10_entryFor 6 (some .int), Cond.fieldLink RX10 119 "BlorbRowsModel" "entries" "I", Cond.fieldLink RX10 22 "BlorbRowsModel" "use" "[I", Cond.fieldLink RX10 25 "BlorbRowsModel" "number" "[J", Cond.methodLink RX10 187 yX10_sizeOf, Cond.instanceMethod yX10_sizeOf]
def wsX10_scaled_r2 : List Cond := [Cond.selects RX10 yX10_sizeOf yX10_sizeOf, Cond.code yX10_sizeOf cX10_sizeOf 4 (some .long), Cond.fieldLink RX10 16 "BlorbRowsModel" "kind" "[I", Cond.constant RX10 141 (1382376308), Cond.fieldLink RX10 19 "BlorbRowsModel" "size" "[I", Cond.constant RX10 139 (1347307296), Cond.constant RX10 140 (1246774599), Cond.methodLink RX10 136 yX10_fromOf, Cond.instanceMethod yX10_fromOf, Cond.selects RX10 yX10_fromOf yX10_fromOf, Cond.code yX10_fromOf cX10_fromOf 4 (some .int), Cond.methodLink RX10 75 yX10_four, Cond.static yX10_four, Cond.code yX10_four cX10_four 2 (some .long), Cond.methodLink RX10 63 yX10_kindIn, Cond.static yX10_kindIn, Cond.code yX10_kindIn cX10_kindIn 2 (some .int), Cond.methodLink RX10 180 yX10_isPng, Cond.instanceMethod yX10_isPng, Cond.selects RX10 yX10_isPng yX10_isPng, Cond.code yX10_isPng cX10_isPng 3 (some .boolean), Cond.constant RX10 177 (-1991225785), Cond.constant RX10 178 (218765834), Cond.constant RX10 179 (1229472850)]
def wsX10_scaled_r3 : List Cond := [Cond.methodLink RX10 183 yX10_jpeg, Cond.instanceMethod yX10_jpeg, Cond.selects RX10 yX10_jpeg yX10_jpeg, Cond.code yX10_jpeg cX10_jpeg 7 (some .long), Cond.constantLong RX10 166 (208), Cond.constantLong RX10 168 (215), Cond.constantLong RX10 173 (192), Cond.constantLong RX10 175 (207), Cond.methodLink RX10 170 yX10_two, Cond.static yX10_two, Cond.code yX10_two cX10_two 2 (some .int), Cond.methodLink RX10 207 yX10_ratiosOf, Cond.instanceMethod yX10_ratiosOf, Cond.selects RX10 yX10_ratiosOf yX10_ratiosOf, Cond.code yX10_ratiosOf cX10_ratiosOf 6 (some .int), Cond.methodLink RX10 198 yX10_first, Cond.instanceMethod yX10_first, Cond.selects RX10 yX10_first yX10_first, Cond.code yX10_first cX10_first 5 (some .int), Cond.fieldLink RX10 113 "BlorbRowsModel" "chunks" "I"]
def wsX10_scaled : List Cond := .code yX10_scaled cX10_scaled 35 (some .long) :: ((wsX10_scaled_r1 ++ (wsX10_scaled_r2 ++ wsX10_scaled_r3)) ++ wsX100)
def wsX10_replace : List Cond := .code yX10_replace cX10_replace 7 none :: ([.fieldLink RX10 58 "BlorbRowsModel" "taped" "I", .fieldLink RX10 19 "BlorbRowsModel" "size" "[I", .fieldLink RX10 116 "BlorbRowsModel" "used" "I", .fieldLink RX10 13 "BlorbRowsModel" "data" "[I", .fieldLink RX10 7 "BlorbRowsModel" "tape" "[I", .methodLink RX10 136 yX10_fromOf, .instanceMethod yX10_fromOf, .selects RX10 yX10_fromOf yX10_fromOf, .initialized RX10, .code yX10_fromOf cX10_fromOf 4 (some .int)] ++ wsX100)
def wsX10_add_r1 : List Cond := [Cond.constant RX10 97 (1380541560), Cond.fieldLink RX10 113 "BlorbRowsModel" "chunks" "I", Cond.fieldLink RX10 116 "BlorbRowsModel" "used" "I", Cond.fieldLink RX10 58 "BlorbRowsModel" "taped" "I", Cond.fieldLink RX10 16 "BlorbRowsModel" "kind" "[I", Cond.fieldLink RX10 19 "BlorbRowsModel" "size" "[I", Cond.methodLink RX10 98 yX10_isKind, Cond.static yX10_isKind, Cond.initialized RX10, Cond.code yX10_isKind cX10_isKind 1 (some .boolean), Cond.constantLong RX10 52 (32), Cond.constantLong RX10 54 (126), Cond.methodLink RX10 44 yX10_in, Cond.static yX10_in, Cond.code yX10_in cX10_in 6 (some .boolean), Cond.methodLink RX10 211 yX10_replace, Cond.instanceMethod yX10_replace, Cond.selects RX10 yX10_replace yX10_replace, Cond.code yX10_replace cX10_replace 7 none, Cond.fieldLink RX10 13 "BlorbRowsModel" "data" "[I", Cond.fieldLink RX10 7 "BlorbRowsModel" "tape" "[I", Cond.methodLink RX10 136 yX10_fromOf, Cond.instanceMethod yX10_fromOf, Cond.selects RX10 yX10_fromOf yX10_fromOf]
def wsX10_add_r2 : List Cond := [Cond.code yX10_fromOf cX10_fromOf 4 (some .int)]
def wsX10_add : List Cond := .code yX10_add cX10_add 2 (some .int) :: ((wsX10_add_r1 ++ wsX10_add_r2) ++ wsX100)
def wsX10_mean_r1 : List Cond := [Cond.fieldLink RX10 119 "BlorbRowsModel" "entries" "I", Cond.fieldLink RX10 22 "BlorbRowsModel" "use" "[I", Cond.fieldLink RX10 25 "BlorbRowsModel" "number" "[J", Cond.fieldLink RX10 29 "BlorbRowsModel" "means" "[I", Cond.methodLink RX10 104 yX10_isUse, Cond.static yX10_isUse, Cond.initialized RX10, Cond.code yX10_isUse cX10_isUse 1 (some .boolean), Cond.constant RX10 48 (1349084020), Cond.constant RX10 49 (1399743520), Cond.constant RX10 50 (1147237473), Cond.constant RX10 51 (1165518179), Cond.methodLink RX10 156 yX10_isNumber, Cond.static yX10_isNumber, Cond.code yX10_isNumber cX10_isNumber 2 (some .boolean), Cond.constantLong RX10 42 (4294967295), Cond.methodLink RX10 44 yX10_in, Cond.static yX10_in, Cond.code yX10_in cX10_in 6 (some .boolean), Cond.methodLink RX10 125 yX10_isChunk, Cond.instanceMethod yX10_isChunk, Cond.selects RX10 yX10_isChunk yX10_isChunk, Cond.code yX10_isChunk cX10_isChunk 2 (some .boolean), Cond.fieldLink RX10 113 "BlorbRowsModel" "chunks" "I"]
def wsX10_mean_r2 : List Cond := [Cond.methodLink RX10 160 yX10_entryFor, Cond.instanceMethod yX10_entryFor, Cond.selects RX10 yX10_entryFor yX10_entryFor, Cond.code yX10_entryFor cX10_entryFor 6 (some .int)]
def wsX10_mean : List Cond := .code yX10_mean cX10_mean 5 (some .int) :: ((wsX10_mean_r1 ++ wsX10_mean_r2) ++ wsX100)
def wsX10_change : List Cond := .code yX10_change cX10_change 3 (some .int) :: ([.fieldLink RX10 116 "BlorbRowsModel" "used" "I", .fieldLink RX10 19 "BlorbRowsModel" "size" "[I", .fieldLink RX10 58 "BlorbRowsModel" "taped" "I", .methodLink RX10 125 yX10_isChunk, .instanceMethod yX10_isChunk, .selects RX10 yX10_isChunk yX10_isChunk, .initialized RX10, .code yX10_isChunk cX10_isChunk 2 (some .boolean), .fieldLink RX10 113 "BlorbRowsModel" "chunks" "I", .methodLink RX10 44 yX10_in, .static yX10_in, .code yX10_in cX10_in 6 (some .boolean), .methodLink RX10 211 yX10_replace, .instanceMethod yX10_replace, .selects RX10 yX10_replace yX10_replace, .code yX10_replace cX10_replace 7 none, .fieldLink RX10 13 "BlorbRowsModel" "data" "[I", .fieldLink RX10 7 "BlorbRowsModel" "tape" "[I", .methodLink RX10 136 yX10_fromOf, .instanceMethod yX10_fromOf, .selects RX10 yX10_fromOf yX10_fromOf, .code yX10_fromOf cX10_fromOf 4 (some .int)] ++ wsX100)
def wsX10_goesAway : List Cond := .code yX10_goesAway cX10_goesAway 4 (some .int) :: ([.fieldLink RX10 19 "BlorbRowsModel" "size" "[I", .fieldLink RX10 113 "BlorbRowsModel" "chunks" "I", .fieldLink RX10 16 "BlorbRowsModel" "kind" "[I", .fieldLink RX10 119 "BlorbRowsModel" "entries" "I", .fieldLink RX10 29 "BlorbRowsModel" "means" "[I", .methodLink RX10 211 yX10_replace, .instanceMethod yX10_replace, .selects RX10 yX10_replace yX10_replace, .initialized RX10, .code yX10_replace cX10_replace 7 none, .fieldLink RX10 58 "BlorbRowsModel" "taped" "I", .fieldLink RX10 116 "BlorbRowsModel" "used" "I", .fieldLink RX10 13 "BlorbRowsModel" "data" "[I", .fieldLink RX10 7 "BlorbRowsModel" "tape" "[I", .methodLink RX10 136 yX10_fromOf, .instanceMethod yX10_fromOf, .selects RX10 yX10_fromOf yX10_fromOf, .code yX10_fromOf cX10_fromOf 4 (some .int)] ++ wsX100)
def wsX10_drop_r1 : List Cond := [Cond.fieldLink RX10 29 "BlorbRowsModel" "means" "[I", Cond.fieldLink RX10 119 "BlorbRowsModel" "entries" "I", Cond.fieldLink RX10 22 "BlorbRowsModel" "use" "[I", Cond.fieldLink RX10 25 "BlorbRowsModel" "number" "[J", Cond.methodLink RX10 104 yX10_isUse, Cond.static yX10_isUse, Cond.initialized RX10, Cond.code yX10_isUse cX10_isUse 1 (some .boolean), Cond.constant RX10 48 (1349084020), Cond.constant RX10 49 (1399743520), Cond.constant RX10 50 (1147237473), Cond.constant RX10 51 (1165518179), Cond.methodLink RX10 156 yX10_isNumber, Cond.static yX10_isNumber, Cond.code yX10_isNumber cX10_isNumber 2 (some .boolean), Cond.constantLong RX10 42 (4294967295), Cond.methodLink RX10 44 yX10_in, Cond.static yX10_in, Cond.code yX10_in cX10_in 6 (some .boolean), Cond.methodLink RX10 160 yX10_entryFor, Cond.instanceMethod yX10_entryFor, Cond.selects RX10 yX10_entryFor yX10_entryFor, Cond.code yX10_entryFor cX10_entryFor 6 (some .int), Cond.methodLink RX10 133 yX10_meant]
def wsX10_drop_r2 : List Cond := [Cond.instanceMethod yX10_meant, Cond.selects RX10 yX10_meant yX10_meant, Cond.code yX10_meant cX10_meant 4 (some .int), Cond.methodLink RX10 215 yX10_goesAway, Cond.instanceMethod yX10_goesAway, Cond.selects RX10 yX10_goesAway yX10_goesAway, Cond.code yX10_goesAway cX10_goesAway 4 (some .int), Cond.fieldLink RX10 19 "BlorbRowsModel" "size" "[I", Cond.fieldLink RX10 113 "BlorbRowsModel" "chunks" "I", Cond.fieldLink RX10 16 "BlorbRowsModel" "kind" "[I", Cond.methodLink RX10 211 yX10_replace, Cond.instanceMethod yX10_replace, Cond.selects RX10 yX10_replace yX10_replace, Cond.code yX10_replace cX10_replace 7 none, Cond.fieldLink RX10 58 "BlorbRowsModel" "taped" "I", Cond.fieldLink RX10 116 "BlorbRowsModel" "used" "I", Cond.fieldLink RX10 13 "BlorbRowsModel" "data" "[I", Cond.fieldLink RX10 7 "BlorbRowsModel" "tape" "[I", Cond.methodLink RX10 136 yX10_fromOf, Cond.instanceMethod yX10_fromOf, Cond.selects RX10 yX10_fromOf yX10_fromOf, Cond.code yX10_fromOf cX10_fromOf 4 (some .int)]
def wsX10_drop : List Cond := .code yX10_drop cX10_drop 7 (some .int) :: ((wsX10_drop_r1 ++ wsX10_drop_r2) ++ wsX100)
def wsX10_remove_r1 : List Cond := [Cond.methodLink RX10 125 yX10_isChunk, Cond.instanceMethod yX10_isChunk, Cond.selects RX10 yX10_isChunk yX10_isChunk, Cond.initialized RX10, Cond.code yX10_isChunk cX10_isChunk 2 (some .boolean), Cond.fieldLink RX10 113 "BlorbRowsModel" "chunks" "I", Cond.methodLink RX10 44 yX10_in, Cond.static yX10_in, Cond.code yX10_in cX10_in 6 (some .boolean), Cond.methodLink RX10 133 yX10_meant, Cond.instanceMethod yX10_meant, Cond.selects RX10 yX10_meant yX10_meant, Cond.code yX10_meant cX10_meant 4 (some .int), Cond.fieldLink RX10 119 "BlorbRowsModel" "entries" "I", Cond.fieldLink RX10 29 "BlorbRowsModel" "means" "[I", Cond.methodLink RX10 215 yX10_goesAway, Cond.instanceMethod yX10_goesAway, Cond.selects RX10 yX10_goesAway yX10_goesAway, Cond.code yX10_goesAway cX10_goesAway 4 (some .int), Cond.fieldLink RX10 19 "BlorbRowsModel" "size" "[I", Cond.fieldLink RX10 16 "BlorbRowsModel" "kind" "[I", Cond.methodLink RX10 211 yX10_replace, Cond.instanceMethod yX10_replace, Cond.selects RX10 yX10_replace yX10_replace]
def wsX10_remove_r2 : List Cond := [Cond.code yX10_replace cX10_replace 7 none, Cond.fieldLink RX10 58 "BlorbRowsModel" "taped" "I", Cond.fieldLink RX10 116 "BlorbRowsModel" "used" "I", Cond.fieldLink RX10 13 "BlorbRowsModel" "data" "[I", Cond.fieldLink RX10 7 "BlorbRowsModel" "tape" "[I", Cond.methodLink RX10 136 yX10_fromOf, Cond.instanceMethod yX10_fromOf, Cond.selects RX10 yX10_fromOf yX10_fromOf, Cond.code yX10_fromOf cX10_fromOf 4 (some .int)]
def wsX10_remove : List Cond := .code yX10_remove cX10_remove 2 (some .int) :: ((wsX10_remove_r1 ++ wsX10_remove_r2) ++ wsX100)
def wsX10_put : List Cond := .code yX10_put cX10_put 5 none :: ([.fieldLink RX10 32 "BlorbRowsModel" "outRow" "[I", .fieldLink RX10 122 "BlorbRowsModel" "outSize" "I", .constantLong RX10 61 (255)] ++ wsX100)
def wsX10_write : List Cond := .code yX10_write cX10_write 4 (some .int) :: ([.fieldLink RX10 122 "BlorbRowsModel" "outSize" "I", .constantLong RX10 218 (1179603533), .fieldLink RX10 113 "BlorbRowsModel" "chunks" "I", .constantLong RX10 224 (1229345363), .constantLong RX10 226 (1380541560), .fieldLink RX10 119 "BlorbRowsModel" "entries" "I", .fieldLink RX10 22 "BlorbRowsModel" "use" "[I", .fieldLink RX10 25 "BlorbRowsModel" "number" "[J", .fieldLink RX10 29 "BlorbRowsModel" "means" "[I", .fieldLink RX10 16 "BlorbRowsModel" "kind" "[I", .fieldLink RX10 19 "BlorbRowsModel" "size" "[I", .fieldLink RX10 13 "BlorbRowsModel" "data" "[I", .methodLink RX10 220 yX10_put, .instanceMethod yX10_put, .selects RX10 yX10_put yX10_put, .initialized RX10, .code yX10_put cX10_put 5 none, .fieldLink RX10 32 "BlorbRowsModel" "outRow" "[I", .constantLong RX10 61 (255), .methodLink RX10 130 yX10_placeOf, .instanceMethod yX10_placeOf, .selects RX10 yX10_placeOf yX10_placeOf, .code yX10_placeOf cX10_placeOf 4 (some .int)] ++ wsX100)
def wsX10_out : List Cond := .code yX10_out cX10_out 2 (some .int) :: ([.fieldLink RX10 122 "BlorbRowsModel" "outSize" "I", .fieldLink RX10 32 "BlorbRowsModel" "outRow" "[I", .methodLink RX10 44 yX10_in, .static yX10_in, .initialized RX10, .code yX10_in cX10_in 6 (some .boolean)] ++ wsX100)
def wsX10_back : List Cond := .code yX10_back cX10_back 2 (some .int) :: ([.fieldLink RX10 122 "BlorbRowsModel" "outSize" "I", .fieldLink RX10 7 "BlorbRowsModel" "tape" "[I", .fieldLink RX10 32 "BlorbRowsModel" "outRow" "[I", .fieldLink RX10 58 "BlorbRowsModel" "taped" "I"] ++ wsX100)
def wsJ9_max_7cf53 : List Cond := .code yJ9_max_7cf53 cJ9_max_7cf53 2 (some .int) :: ([])
abbrev vwCl : List vw_C := [(RX0, TX0, 8), (RX1, TX1, 3), (RX3, TX3, 3), (RX5, TX5, 2), (RX6, TX6, 2), (RX9, TX9, 5), (RX10, TX10, 18)]
end
section
/-! bundled walk: J, contracts C -/
abbrev JC : Type := Program × Launch × Env × Room × State × MethodId × Array Value × List Frame × Method × Code × va_G × (Nat → Prop) × ClassId × ClassId × ClassId
abbrev JG : Type := Launch × va_G × ClassId × ClassId × ClassId
def Kt (cB cI cJ : ClassId) : List (ClassId × FieldType) := [(cB, .byte), (cI, .int), (cJ, .long)]
def bI (b : Bool) : Int32 := match b with | true => 1 | false => 0
def b8 (f : Nat → Int8) : Nat → Int32 := fun j => (f j).toInt32
def up8 (f : Nat → Int8) (k : Nat) (x : Int8) : Nat → Int8 := fun j => if j = k then x else f j
def ix (i : Int32) (n : Nat) : Bool := decide (¬ (i < 0 ∨ n ≤ i.toNatClampNeg))
theorem ix_in {i : Int32} {n : Nat} (h : ix i n = true) : vp_in i n := (of_decide_eq_true (p := ¬ (i < 0 ∨ n ≤ i.toNatClampNeg)) h : ¬ (i < 0 ∨ n ≤ i.toNatClampNeg))
theorem jt_t {α : Type} {c : Prop} {i : Decidable c} {a b : Option α} {o : α} (h : c) (hf : (@ite _ c i a b) = some o) : a = some o := by rw [if_pos h] at hf; exact hf
theorem jt_f {α : Type} {c : Prop} {i : Decidable c} {a b : Option α} {o : α} (h : ¬ c) (hf : (@ite _ c i a b) = some o) : b = some o := by rw [if_neg h] at hf; exact hf
theorem jt_g {α : Type} {c : Prop} {i : Decidable c} {a : Option α} {o : α} (hf : (@ite _ c i a none) = some o) : c ∧ a = some o := by
  by_cases h : c
  · rw [if_pos h] at hf; exact ⟨h, hf⟩
  · rw [if_neg h] at hf; cases hf
theorem jt_b {α β : Type} {a : Option α} {f : α → Option β} {z : β} (h : a.bind f = some z) : ∃ y, a = some y ∧ f y = some z := by
  cases a with
  | none => cases h
  | some y => exact ⟨y, rfl, h⟩
theorem jt_n {α : Type} {z : α} {C : Prop} (h : (none : Option α) = some z) : C := by cases h
def J (X : JC) (nL : Nat) (Q : State → Prop) (ws : va_W) (cells slots pc : Nat) (lv : List (Nat × Value)) (st : List Value) : Prop := match X with
  | (p, l, e, R, s, m, args, below, meth, c, D, A, _, _, _) => ∀ (H : Heap) (locs : List Loc) (ls : Array Slot), va_P D vwCl ws H → va_D A ws → va_S A s.heap H locs → lv_has ls nL lv → W p l e R s m args below meth c H locs cells slots Q (F0 m pc ls st)
def Jo (X : JC) (g : JG) (cc : ByteArray) (nL : Nat) (own : String) (Ts : List Cond) (R0 : Room) (ret : Option FieldType) : Prop := match X with
  | (p, l, e, R, s, m, args, below, meth, c, D, A, cB, cI, cJ) => p.tables.exec = Jvm.exec ∧ c.code = cc ∧ c.maxLocals = nL ∧ s.vm.findClass own = some m.cls ∧ (∀ w ∈ Ts, w.before args s = true) ∧ (∀ q, s.heap.size ≤ q → A q) ∧ va_K D vwCl (Kt cB cI cJ) s ∧ meth.locks = false ∧ meth.sig.returnType = ret ∧ R = R0 ∧ (l, D, cB, cI, cJ) = g
def Jnm (X : JC) : Prop := match X with
  | (_, _, _, _, _, _, _, _, meth, _, _, _, _, _, _) => meth.name = "<init>"
theorem lc_eq (x y : Int64) : lg_cmp x y = 0 ↔ x = y := by
  unfold lg_cmp
  by_cases h : y < x
  · simp [h]; intro q; subst q; exact absurd h (Int64.lt_irrefl)
  · by_cases h2 : x = y
    · simp [h2]
    · simp [h, h2]
theorem lc_ne (x y : Int64) : ¬ lg_cmp x y = 0 ↔ ¬ x = y := not_congr (lc_eq x y)
theorem lc_gt (x y : Int64) : 0 < lg_cmp x y ↔ y < x := by
  unfold lg_cmp
  by_cases h : y < x
  · simp [h]
  · by_cases h2 : x = y
    · simp [h2]
    · simp [h, h2]
theorem lc_le (x y : Int64) : lg_cmp x y ≤ 0 ↔ x ≤ y := by
  rw [← Int64.not_lt, ← lc_gt x y, Int32.not_lt]
theorem lc_lt (x y : Int64) : lg_cmp x y < 0 ↔ x < y := by
  have h1 := lc_le x y
  have h2 := lc_eq x y
  constructor
  · intro h
    have h3 := h1.mp (Int32.le_of_lt h)
    have h4 : ¬ x = y := fun q => by rw [h2.mpr q] at h; exact absurd h (by decide)
    exact Int64.lt_of_le_of_ne h3 h4
  · intro h
    have h3 := h1.mpr (Int64.le_of_lt h)
    have h4 : ¬ lg_cmp x y = 0 := fun q => by rw [h2.mp q] at h; exact absurd h (Int64.lt_irrefl)
    exact Int32.lt_of_le_of_ne h3 h4
theorem lc_ge (x y : Int64) : 0 ≤ lg_cmp x y ↔ y ≤ x := by
  rw [← Int64.not_lt, ← lc_lt x y, Int32.not_lt]
section JR
variable {X : JC} {g : JG} {cc : ByteArray} {nL : Nat} {own : String} {Ts : List Cond} {R0 : Room} {ret : Option FieldType} {Q : State → Prop} {ws : va_W} {cells slots pc : Nat} {lv : List (Nat × Value)} {st : List Value}
theorem J_iconst (O : Jo X g cc nL own Ts R0 ret) {n : Int} {v : Int32} (hv : Int32.ofInt n = v) (d : decode cc pc = .ok (.iconst n, 1)) (k : J X nL Q ws cells slots (pc + 1) lv (.int v :: st)) : J X nL Q ws cells slots pc lv (st) := by
  obtain ⟨p, l, e, R, s, m, args, below, meth, c, D, A, cB, cI, cJ⟩ := X
  obtain ⟨hx, hb, hml, hown, hts, hA, hK, hlk, hrt, hR, hg⟩ := O; subst hg
  intro H locs ls hP hD hS hl
  exact lv_iconst hx hb d hv (k H locs ls hP hD hS hl)
theorem J_bipush (O : Jo X g cc nL own Ts R0 ret) {n : Int} {v : Int32} (hv : (Int8.ofInt n).toInt32 = v) (d : decode cc pc = .ok (.bipush n, 2)) (k : J X nL Q ws cells slots (pc + 2) lv (.int v :: st)) : J X nL Q ws cells slots pc lv (st) := by
  obtain ⟨p, l, e, R, s, m, args, below, meth, c, D, A, cB, cI, cJ⟩ := X
  obtain ⟨hx, hb, hml, hown, hts, hA, hK, hlk, hrt, hR, hg⟩ := O; subst hg
  intro H locs ls hP hD hS hl
  exact lv_bipush hx hb d hv (k H locs ls hP hD hS hl)
theorem J_sipush (O : Jo X g cc nL own Ts R0 ret) {n : Int} {v : Int32} (hv : (Int16.ofInt n).toInt32 = v) (d : decode cc pc = .ok (.sipush n, 3)) (k : J X nL Q ws cells slots (pc + 3) lv (.int v :: st)) : J X nL Q ws cells slots pc lv (st) := by
  obtain ⟨p, l, e, R, s, m, args, below, meth, c, D, A, cB, cI, cJ⟩ := X
  obtain ⟨hx, hb, hml, hown, hts, hA, hK, hlk, hrt, hR, hg⟩ := O; subst hg
  intro H locs ls hP hD hS hl
  exact lv_sipush hx hb d hv (k H locs ls hP hD hS hl)
theorem J_lconst (O : Jo X g cc nL own Ts R0 ret) {n : Fin 2} {v : Int64} (hv : Int64.ofNat n = v) (d : decode cc pc = .ok (.lconst n, 1)) (k : J X nL Q ws cells slots (pc + 1) lv (.long v :: st)) : J X nL Q ws cells slots pc lv (st) := by
  obtain ⟨p, l, e, R, s, m, args, below, meth, c, D, A, cB, cI, cJ⟩ := X
  obtain ⟨hx, hb, hml, hown, hts, hA, hK, hlk, hrt, hR, hg⟩ := O; subst hg
  intro H locs ls hP hD hS hl
  exact lv_lconst hx hb d hv (k H locs ls hP hD hS hl)
theorem J_ldc (O : Jo X g cc nL own Ts R0 ret) {i : Nat} {v : Int32} (hm : Cond.constant own i v ∈ Ts) (d : decode cc pc = .ok (.ldc i, 2)) (k : J X nL Q ws cells slots (pc + 2) lv (.int v :: st)) : J X nL Q ws cells slots pc lv (st) := by
  obtain ⟨p, l, e, R, s, m, args, below, meth, c, D, A, cB, cI, cJ⟩ := X
  obtain ⟨hx, hb, hml, hown, hts, hA, hK, hlk, hrt, hR, hg⟩ := O; subst hg
  intro H locs ls hP hD hS hl
  exact lv_ldc hx hb hown (hts _ hm) d (k H locs ls hP hD hS hl)
theorem J_ldc2 (O : Jo X g cc nL own Ts R0 ret) {i : Nat} {v : Int64} (hm : Cond.constantLong own i v ∈ Ts) (d : decode cc pc = .ok (.ldc2_w i, 3)) (k : J X nL Q ws cells slots (pc + 3) lv (.long v :: st)) : J X nL Q ws cells slots pc lv (st) := by
  obtain ⟨p, l, e, R, s, m, args, below, meth, c, D, A, cB, cI, cJ⟩ := X
  obtain ⟨hx, hb, hml, hown, hts, hA, hK, hlk, hrt, hR, hg⟩ := O; subst hg
  intro H locs ls hP hD hS hl
  exact lv_ldc2 hx hb hown (hts _ hm) d (k H locs ls hP hD hS hl)
theorem J_iload_n (O : Jo X g cc nL own Ts R0 ret) {k0 : Fin 4} {i : Nat} {x : Int32} (q : Nat) (hq : lv[q]? = some (i, .int x)) (hi : (k0 : Nat) = i) (d : decode cc pc = .ok (.iload_n k0, 1)) (k : J X nL Q ws cells slots (pc + 1) lv (.int x :: st)) : J X nL Q ws cells slots pc lv (st) := by
  obtain ⟨p, l, e, R, s, m, args, below, meth, c, D, A, cB, cI, cJ⟩ := X
  obtain ⟨hx, hb, hml, hown, hts, hA, hK, hlk, hrt, hR, hg⟩ := O; subst hg
  intro H locs ls hP hD hS hl
  exact lv_iload_n hx hb d hi (lv_at hl q hq) (k H locs ls hP hD hS hl)
theorem J_iload (O : Jo X g cc nL own Ts R0 ret) {i : Nat} {x : Int32} (q : Nat) (hq : lv[q]? = some (i, .int x)) (d : decode cc pc = .ok (.iload i, 2)) (k : J X nL Q ws cells slots (pc + 2) lv (.int x :: st)) : J X nL Q ws cells slots pc lv (st) := by
  obtain ⟨p, l, e, R, s, m, args, below, meth, c, D, A, cB, cI, cJ⟩ := X
  obtain ⟨hx, hb, hml, hown, hts, hA, hK, hlk, hrt, hR, hg⟩ := O; subst hg
  intro H locs ls hP hD hS hl
  exact lv_iload hx hb d (lv_at hl q hq) (k H locs ls hP hD hS hl)
theorem J_lload_n (O : Jo X g cc nL own Ts R0 ret) {k0 : Fin 4} {i : Nat} {x : Int64} (q : Nat) (hq : lv[q]? = some (i, .long x)) (hi : (k0 : Nat) = i) (d : decode cc pc = .ok (.lload_n k0, 1)) (k : J X nL Q ws cells slots (pc + 1) lv (.long x :: st)) : J X nL Q ws cells slots pc lv (st) := by
  obtain ⟨p, l, e, R, s, m, args, below, meth, c, D, A, cB, cI, cJ⟩ := X
  obtain ⟨hx, hb, hml, hown, hts, hA, hK, hlk, hrt, hR, hg⟩ := O; subst hg
  intro H locs ls hP hD hS hl
  exact lv_lload_n hx hb d hi (lv_at hl q hq) (k H locs ls hP hD hS hl)
theorem J_lload (O : Jo X g cc nL own Ts R0 ret) {i : Nat} {x : Int64} (q : Nat) (hq : lv[q]? = some (i, .long x)) (d : decode cc pc = .ok (.lload i, 2)) (k : J X nL Q ws cells slots (pc + 2) lv (.long x :: st)) : J X nL Q ws cells slots pc lv (st) := by
  obtain ⟨p, l, e, R, s, m, args, below, meth, c, D, A, cB, cI, cJ⟩ := X
  obtain ⟨hx, hb, hml, hown, hts, hA, hK, hlk, hrt, hR, hg⟩ := O; subst hg
  intro H locs ls hP hD hS hl
  exact lv_lload hx hb d (lv_at hl q hq) (k H locs ls hP hD hS hl)
theorem J_aload_n (O : Jo X g cc nL own Ts R0 ret) {k0 : Fin 4} {i : Nat} {x : Nat} (q : Nat) (hq : lv[q]? = some (i, .ref x)) (hi : (k0 : Nat) = i) (d : decode cc pc = .ok (.aload_n k0, 1)) (k : J X nL Q ws cells slots (pc + 1) lv (.ref x :: st)) : J X nL Q ws cells slots pc lv (st) := by
  obtain ⟨p, l, e, R, s, m, args, below, meth, c, D, A, cB, cI, cJ⟩ := X
  obtain ⟨hx, hb, hml, hown, hts, hA, hK, hlk, hrt, hR, hg⟩ := O; subst hg
  intro H locs ls hP hD hS hl
  exact lv_aload_n hx hb d hi (lv_at hl q hq) (k H locs ls hP hD hS hl)
theorem J_aload (O : Jo X g cc nL own Ts R0 ret) {i : Nat} {x : Nat} (q : Nat) (hq : lv[q]? = some (i, .ref x)) (d : decode cc pc = .ok (.aload i, 2)) (k : J X nL Q ws cells slots (pc + 2) lv (.ref x :: st)) : J X nL Q ws cells slots pc lv (st) := by
  obtain ⟨p, l, e, R, s, m, args, below, meth, c, D, A, cB, cI, cJ⟩ := X
  obtain ⟨hx, hb, hml, hown, hts, hA, hK, hlk, hrt, hR, hg⟩ := O; subst hg
  intro H locs ls hP hD hS hl
  exact lv_aload hx hb d (lv_at hl q hq) (k H locs ls hP hD hS hl)
theorem J_istore_n (O : Jo X g cc nL own Ts R0 ret) {i : Nat} {x : Int32} {k0 : Fin 4} (hi : (k0 : Nat) = i) (lv' : List (Nat × Value)) (hn : i < nL) (hv : (i, Value.int x) :: lv.filter (fun q => !(q.1 == i) && !(q.1 + 1 == i && q.2.category == 2)) = lv') (d : decode cc pc = .ok (.istore_n k0, 1)) (k : J X nL Q ws cells slots (pc + 1) lv' st) : J X nL Q ws cells slots pc lv (Value.int x :: st) := by
  obtain ⟨p, l, e, R, s, m, args, below, meth, c, D, A, cB, cI, cJ⟩ := X
  obtain ⟨hx, hb, hml, hown, hts, hA, hK, hlk, hrt, hR, hg⟩ := O; subst hg
  intro H locs ls hP hD hS hl
  exact lv_istore_n hx hb d hi hl hn hv (fun ls' hl' => k H locs ls' hP hD hS hl')
theorem J_istore (O : Jo X g cc nL own Ts R0 ret) {i : Nat} {x : Int32} (lv' : List (Nat × Value)) (hn : i < nL) (hv : (i, Value.int x) :: lv.filter (fun q => !(q.1 == i) && !(q.1 + 1 == i && q.2.category == 2)) = lv') (d : decode cc pc = .ok (.istore i, 2)) (k : J X nL Q ws cells slots (pc + 2) lv' st) : J X nL Q ws cells slots pc lv (Value.int x :: st) := by
  obtain ⟨p, l, e, R, s, m, args, below, meth, c, D, A, cB, cI, cJ⟩ := X
  obtain ⟨hx, hb, hml, hown, hts, hA, hK, hlk, hrt, hR, hg⟩ := O; subst hg
  intro H locs ls hP hD hS hl
  exact lv_istore hx hb d hl hn hv (fun ls' hl' => k H locs ls' hP hD hS hl')
theorem J_astore_n (O : Jo X g cc nL own Ts R0 ret) {i : Nat} {x : Nat} {k0 : Fin 4} (hi : (k0 : Nat) = i) (lv' : List (Nat × Value)) (hn : i < nL) (hv : (i, Value.ref x) :: lv.filter (fun q => !(q.1 == i) && !(q.1 + 1 == i && q.2.category == 2)) = lv') (d : decode cc pc = .ok (.astore_n k0, 1)) (k : J X nL Q ws cells slots (pc + 1) lv' st) : J X nL Q ws cells slots pc lv (Value.ref x :: st) := by
  obtain ⟨p, l, e, R, s, m, args, below, meth, c, D, A, cB, cI, cJ⟩ := X
  obtain ⟨hx, hb, hml, hown, hts, hA, hK, hlk, hrt, hR, hg⟩ := O; subst hg
  intro H locs ls hP hD hS hl
  exact lv_astore_n hx hb d hi hl hn hv (fun ls' hl' => k H locs ls' hP hD hS hl')
theorem J_astore (O : Jo X g cc nL own Ts R0 ret) {i : Nat} {x : Nat} (lv' : List (Nat × Value)) (hn : i < nL) (hv : (i, Value.ref x) :: lv.filter (fun q => !(q.1 == i) && !(q.1 + 1 == i && q.2.category == 2)) = lv') (d : decode cc pc = .ok (.astore i, 2)) (k : J X nL Q ws cells slots (pc + 2) lv' st) : J X nL Q ws cells slots pc lv (Value.ref x :: st) := by
  obtain ⟨p, l, e, R, s, m, args, below, meth, c, D, A, cB, cI, cJ⟩ := X
  obtain ⟨hx, hb, hml, hown, hts, hA, hK, hlk, hrt, hR, hg⟩ := O; subst hg
  intro H locs ls hP hD hS hl
  exact lv_astore hx hb d hl hn hv (fun ls' hl' => k H locs ls' hP hD hS hl')
theorem J_lstore_n (O : Jo X g cc nL own Ts R0 ret) {i : Nat} {x : Int64} {k0 : Fin 4} (hi : (k0 : Nat) = i) (lv' : List (Nat × Value)) (hn : i + 1 < nL) (hv : (i, Value.long x) :: lv.filter (fun q => !(q.1 == i) && (!(q.1 == i + 1) && !(q.1 + 1 == i && q.2.category == 2))) = lv') (d : decode cc pc = .ok (.lstore_n k0, 1)) (k : J X nL Q ws cells slots (pc + 1) lv' st) : J X nL Q ws cells slots pc lv (Value.long x :: st) := by
  obtain ⟨p, l, e, R, s, m, args, below, meth, c, D, A, cB, cI, cJ⟩ := X
  obtain ⟨hx, hb, hml, hown, hts, hA, hK, hlk, hrt, hR, hg⟩ := O; subst hg
  intro H locs ls hP hD hS hl
  exact lv_lstore_n hx hb d hi hl hn hv (fun ls' hl' => k H locs ls' hP hD hS hl')
theorem J_lstore (O : Jo X g cc nL own Ts R0 ret) {i : Nat} {x : Int64} (lv' : List (Nat × Value)) (hn : i + 1 < nL) (hv : (i, Value.long x) :: lv.filter (fun q => !(q.1 == i) && (!(q.1 == i + 1) && !(q.1 + 1 == i && q.2.category == 2))) = lv') (d : decode cc pc = .ok (.lstore i, 2)) (k : J X nL Q ws cells slots (pc + 2) lv' st) : J X nL Q ws cells slots pc lv (Value.long x :: st) := by
  obtain ⟨p, l, e, R, s, m, args, below, meth, c, D, A, cB, cI, cJ⟩ := X
  obtain ⟨hx, hb, hml, hown, hts, hA, hK, hlk, hrt, hR, hg⟩ := O; subst hg
  intro H locs ls hP hD hS hl
  exact lv_lstore hx hb d hl hn hv (fun ls' hl' => k H locs ls' hP hD hS hl')
theorem J_iinc (O : Jo X g cc nL own Ts R0 ret) {i : Nat} {n : Int} {x v : Int32} (q : Nat) (hq : lv[q]? = some (i, .int x)) (lv' : List (Nat × Value)) (hn : i < nL) (hv : x + Int32.ofInt n = v) (hv' : (i, Value.int v) :: lv.filter (fun q => !(q.1 == i) && !(q.1 + 1 == i && q.2.category == 2)) = lv') (d : decode cc pc = .ok (.iinc i n, 3)) (k : J X nL Q ws cells slots (pc + 3) lv' st) : J X nL Q ws cells slots pc lv st := by
  obtain ⟨p, l, e, R, s, m, args, below, meth, c, D, A, cB, cI, cJ⟩ := X
  obtain ⟨hx, hb, hml, hown, hts, hA, hK, hlk, hrt, hR, hg⟩ := O; subst hg
  intro H locs ls hP hD hS hl
  exact lv_iinc hx hb d hl hq hv hn hv' (fun ls' hl' => k H locs ls' hP hD hS hl')
theorem J_iadd (O : Jo X g cc nL own Ts R0 ret) {x y : Int32} (d : decode cc pc = .ok (.iadd, 1)) (k : J X nL Q ws cells slots (pc + 1) lv (.int (x + y) :: st)) : J X nL Q ws cells slots pc lv (.int y :: .int x :: st) := by
  obtain ⟨p, l, e, R, s, m, args, below, meth, c, D, A, cB, cI, cJ⟩ := X
  obtain ⟨hx, hb, hml, hown, hts, hA, hK, hlk, hrt, hR, hg⟩ := O; subst hg
  intro H locs ls hP hD hS hl
  exact lv_iadd hx hb d (k H locs ls hP hD hS hl)
theorem J_isub (O : Jo X g cc nL own Ts R0 ret) {x y : Int32} (d : decode cc pc = .ok (.isub, 1)) (k : J X nL Q ws cells slots (pc + 1) lv (.int (x - y) :: st)) : J X nL Q ws cells slots pc lv (.int y :: .int x :: st) := by
  obtain ⟨p, l, e, R, s, m, args, below, meth, c, D, A, cB, cI, cJ⟩ := X
  obtain ⟨hx, hb, hml, hown, hts, hA, hK, hlk, hrt, hR, hg⟩ := O; subst hg
  intro H locs ls hP hD hS hl
  exact lv_isub hx hb d (k H locs ls hP hD hS hl)
theorem J_imul (O : Jo X g cc nL own Ts R0 ret) {x y : Int32} (d : decode cc pc = .ok (.imul, 1)) (k : J X nL Q ws cells slots (pc + 1) lv (.int (x * y) :: st)) : J X nL Q ws cells slots pc lv (.int y :: .int x :: st) := by
  obtain ⟨p, l, e, R, s, m, args, below, meth, c, D, A, cB, cI, cJ⟩ := X
  obtain ⟨hx, hb, hml, hown, hts, hA, hK, hlk, hrt, hR, hg⟩ := O; subst hg
  intro H locs ls hP hD hS hl
  exact lv_imul hx hb d (k H locs ls hP hD hS hl)
theorem J_iand (O : Jo X g cc nL own Ts R0 ret) {x y : Int32} (d : decode cc pc = .ok (.iand, 1)) (k : J X nL Q ws cells slots (pc + 1) lv (.int (x &&& y) :: st)) : J X nL Q ws cells slots pc lv (.int y :: .int x :: st) := by
  obtain ⟨p, l, e, R, s, m, args, below, meth, c, D, A, cB, cI, cJ⟩ := X
  obtain ⟨hx, hb, hml, hown, hts, hA, hK, hlk, hrt, hR, hg⟩ := O; subst hg
  intro H locs ls hP hD hS hl
  exact lv_iand hx hb d (k H locs ls hP hD hS hl)
theorem J_ior (O : Jo X g cc nL own Ts R0 ret) {x y : Int32} (d : decode cc pc = .ok (.ior, 1)) (k : J X nL Q ws cells slots (pc + 1) lv (.int (x ||| y) :: st)) : J X nL Q ws cells slots pc lv (.int y :: .int x :: st) := by
  obtain ⟨p, l, e, R, s, m, args, below, meth, c, D, A, cB, cI, cJ⟩ := X
  obtain ⟨hx, hb, hml, hown, hts, hA, hK, hlk, hrt, hR, hg⟩ := O; subst hg
  intro H locs ls hP hD hS hl
  exact lv_ior hx hb d (k H locs ls hP hD hS hl)
theorem J_ishl (O : Jo X g cc nL own Ts R0 ret) {x y : Int32} (d : decode cc pc = .ok (.ishl, 1)) (k : J X nL Q ws cells slots (pc + 1) lv (.int (x <<< (y &&& 31)) :: st)) : J X nL Q ws cells slots pc lv (.int y :: .int x :: st) := by
  obtain ⟨p, l, e, R, s, m, args, below, meth, c, D, A, cB, cI, cJ⟩ := X
  obtain ⟨hx, hb, hml, hown, hts, hA, hK, hlk, hrt, hR, hg⟩ := O; subst hg
  intro H locs ls hP hD hS hl
  exact lv_ishl hx hb d (k H locs ls hP hD hS hl)
theorem J_ishr (O : Jo X g cc nL own Ts R0 ret) {x y : Int32} (d : decode cc pc = .ok (.ishr, 1)) (k : J X nL Q ws cells slots (pc + 1) lv (.int (x >>> (y &&& 31)) :: st)) : J X nL Q ws cells slots pc lv (.int y :: .int x :: st) := by
  obtain ⟨p, l, e, R, s, m, args, below, meth, c, D, A, cB, cI, cJ⟩ := X
  obtain ⟨hx, hb, hml, hown, hts, hA, hK, hlk, hrt, hR, hg⟩ := O; subst hg
  intro H locs ls hP hD hS hl
  exact lv_ishr hx hb d (k H locs ls hP hD hS hl)
theorem J_ladd (O : Jo X g cc nL own Ts R0 ret) {x y : Int64} (d : decode cc pc = .ok (.ladd, 1)) (k : J X nL Q ws cells slots (pc + 1) lv (.long (x + y) :: st)) : J X nL Q ws cells slots pc lv (.long y :: .long x :: st) := by
  obtain ⟨p, l, e, R, s, m, args, below, meth, c, D, A, cB, cI, cJ⟩ := X
  obtain ⟨hx, hb, hml, hown, hts, hA, hK, hlk, hrt, hR, hg⟩ := O; subst hg
  intro H locs ls hP hD hS hl
  exact lv_ladd hx hb d (k H locs ls hP hD hS hl)
theorem J_lsub (O : Jo X g cc nL own Ts R0 ret) {x y : Int64} (d : decode cc pc = .ok (.lsub, 1)) (k : J X nL Q ws cells slots (pc + 1) lv (.long (x - y) :: st)) : J X nL Q ws cells slots pc lv (.long y :: .long x :: st) := by
  obtain ⟨p, l, e, R, s, m, args, below, meth, c, D, A, cB, cI, cJ⟩ := X
  obtain ⟨hx, hb, hml, hown, hts, hA, hK, hlk, hrt, hR, hg⟩ := O; subst hg
  intro H locs ls hP hD hS hl
  exact lv_lsub hx hb d (k H locs ls hP hD hS hl)
theorem J_lmul (O : Jo X g cc nL own Ts R0 ret) {x y : Int64} (d : decode cc pc = .ok (.lmul, 1)) (k : J X nL Q ws cells slots (pc + 1) lv (.long (x * y) :: st)) : J X nL Q ws cells slots pc lv (.long y :: .long x :: st) := by
  obtain ⟨p, l, e, R, s, m, args, below, meth, c, D, A, cB, cI, cJ⟩ := X
  obtain ⟨hx, hb, hml, hown, hts, hA, hK, hlk, hrt, hR, hg⟩ := O; subst hg
  intro H locs ls hP hD hS hl
  exact lv_lmul hx hb d (k H locs ls hP hD hS hl)
theorem J_land (O : Jo X g cc nL own Ts R0 ret) {x y : Int64} (d : decode cc pc = .ok (.land, 1)) (k : J X nL Q ws cells slots (pc + 1) lv (.long (x &&& y) :: st)) : J X nL Q ws cells slots pc lv (.long y :: .long x :: st) := by
  obtain ⟨p, l, e, R, s, m, args, below, meth, c, D, A, cB, cI, cJ⟩ := X
  obtain ⟨hx, hb, hml, hown, hts, hA, hK, hlk, hrt, hR, hg⟩ := O; subst hg
  intro H locs ls hP hD hS hl
  exact lv_land hx hb d (k H locs ls hP hD hS hl)
theorem J_lor (O : Jo X g cc nL own Ts R0 ret) {x y : Int64} (d : decode cc pc = .ok (.lor, 1)) (k : J X nL Q ws cells slots (pc + 1) lv (.long (x ||| y) :: st)) : J X nL Q ws cells slots pc lv (.long y :: .long x :: st) := by
  obtain ⟨p, l, e, R, s, m, args, below, meth, c, D, A, cB, cI, cJ⟩ := X
  obtain ⟨hx, hb, hml, hown, hts, hA, hK, hlk, hrt, hR, hg⟩ := O; subst hg
  intro H locs ls hP hD hS hl
  exact lv_lor hx hb d (k H locs ls hP hD hS hl)
theorem J_idiv (O : Jo X g cc nL own Ts R0 ret) {x y : Int32} (hne : ¬ y = 0) (d : decode cc pc = .ok (.idiv, 1)) (k : J X nL Q ws cells slots (pc + 1) lv (.int (x / y) :: st)) : J X nL Q ws cells slots pc lv (.int y :: .int x :: st) := by
  obtain ⟨p, l, e, R, s, m, args, below, meth, c, D, A, cB, cI, cJ⟩ := X
  obtain ⟨hx, hb, hml, hown, hts, hA, hK, hlk, hrt, hR, hg⟩ := O; subst hg
  intro H locs ls hP hD hS hl
  exact lv_idiv hx hb d hne (k H locs ls hP hD hS hl)
theorem J_irem (O : Jo X g cc nL own Ts R0 ret) {x y : Int32} (hne : ¬ y = 0) (d : decode cc pc = .ok (.irem, 1)) (k : J X nL Q ws cells slots (pc + 1) lv (.int (x - x / y * y) :: st)) : J X nL Q ws cells slots pc lv (.int y :: .int x :: st) := by
  obtain ⟨p, l, e, R, s, m, args, below, meth, c, D, A, cB, cI, cJ⟩ := X
  obtain ⟨hx, hb, hml, hown, hts, hA, hK, hlk, hrt, hR, hg⟩ := O; subst hg
  intro H locs ls hP hD hS hl
  exact lv_irem hx hb d hne (k H locs ls hP hD hS hl)
theorem J_ldiv (O : Jo X g cc nL own Ts R0 ret) {x y : Int64} (hne : ¬ y = 0) (d : decode cc pc = .ok (.ldiv, 1)) (k : J X nL Q ws cells slots (pc + 1) lv (.long (x / y) :: st)) : J X nL Q ws cells slots pc lv (.long y :: .long x :: st) := by
  obtain ⟨p, l, e, R, s, m, args, below, meth, c, D, A, cB, cI, cJ⟩ := X
  obtain ⟨hx, hb, hml, hown, hts, hA, hK, hlk, hrt, hR, hg⟩ := O; subst hg
  intro H locs ls hP hD hS hl
  exact lv_ldiv hx hb d hne (k H locs ls hP hD hS hl)
theorem J_lrem (O : Jo X g cc nL own Ts R0 ret) {x y : Int64} (hne : ¬ y = 0) (d : decode cc pc = .ok (.lrem, 1)) (k : J X nL Q ws cells slots (pc + 1) lv (.long (x - x / y * y) :: st)) : J X nL Q ws cells slots pc lv (.long y :: .long x :: st) := by
  obtain ⟨p, l, e, R, s, m, args, below, meth, c, D, A, cB, cI, cJ⟩ := X
  obtain ⟨hx, hb, hml, hown, hts, hA, hK, hlk, hrt, hR, hg⟩ := O; subst hg
  intro H locs ls hP hD hS hl
  exact lv_lrem hx hb d hne (k H locs ls hP hD hS hl)
theorem J_iushr (O : Jo X g cc nL own Ts R0 ret) {x y : Int32} (d : decode cc pc = .ok (.iushr, 1)) (k : J X nL Q ws cells slots (pc + 1) lv (.int ((x.toUInt32 >>> (y.toUInt32 &&& Int32.toUInt32 31)).toInt32) :: st)) : J X nL Q ws cells slots pc lv (.int y :: .int x :: st) := by
  obtain ⟨p, l, e, R, s, m, args, below, meth, c, D, A, cB, cI, cJ⟩ := X
  obtain ⟨hx, hb, hml, hown, hts, hA, hK, hlk, hrt, hR, hg⟩ := O; subst hg
  intro H locs ls hP hD hS hl
  exact lv_iushr hx hb d rfl (k H locs ls hP hD hS hl)
theorem J_lushr (O : Jo X g cc nL own Ts R0 ret) {x : Int64} {y : Int32} (d : decode cc pc = .ok (.lushr, 1)) (k : J X nL Q ws cells slots (pc + 1) lv (.long ((x.toUInt64 >>> (y.toInt64.toUInt64 &&& Int64.toUInt64 63)).toInt64) :: st)) : J X nL Q ws cells slots pc lv (.int y :: .long x :: st) := by
  obtain ⟨p, l, e, R, s, m, args, below, meth, c, D, A, cB, cI, cJ⟩ := X
  obtain ⟨hx, hb, hml, hown, hts, hA, hK, hlk, hrt, hR, hg⟩ := O; subst hg
  intro H locs ls hP hD hS hl
  exact lv_lushr hx hb d rfl (k H locs ls hP hD hS hl)
theorem J_lshl (O : Jo X g cc nL own Ts R0 ret) {x : Int64} {y : Int32} (d : decode cc pc = .ok (.lshl, 1)) (k : J X nL Q ws cells slots (pc + 1) lv (.long (x <<< (y.toInt64 &&& 63)) :: st)) : J X nL Q ws cells slots pc lv (.int y :: .long x :: st) := by
  obtain ⟨p, l, e, R, s, m, args, below, meth, c, D, A, cB, cI, cJ⟩ := X
  obtain ⟨hx, hb, hml, hown, hts, hA, hK, hlk, hrt, hR, hg⟩ := O; subst hg
  intro H locs ls hP hD hS hl
  exact lv_lshl hx hb d rfl (k H locs ls hP hD hS hl)
theorem J_lshr (O : Jo X g cc nL own Ts R0 ret) {x : Int64} {y : Int32} (d : decode cc pc = .ok (.lshr, 1)) (k : J X nL Q ws cells slots (pc + 1) lv (.long (x >>> (y.toInt64 &&& 63)) :: st)) : J X nL Q ws cells slots pc lv (.int y :: .long x :: st) := by
  obtain ⟨p, l, e, R, s, m, args, below, meth, c, D, A, cB, cI, cJ⟩ := X
  obtain ⟨hx, hb, hml, hown, hts, hA, hK, hlk, hrt, hR, hg⟩ := O; subst hg
  intro H locs ls hP hD hS hl
  exact lv_lshr hx hb d rfl (k H locs ls hP hD hS hl)
theorem J_i2l (O : Jo X g cc nL own Ts R0 ret) {x : Int32} (d : decode cc pc = .ok (.i2l, 1)) (k : J X nL Q ws cells slots (pc + 1) lv (.long x.toInt64 :: st)) : J X nL Q ws cells slots pc lv (.int x :: st) := by
  obtain ⟨p, l, e, R, s, m, args, below, meth, c, D, A, cB, cI, cJ⟩ := X
  obtain ⟨hx, hb, hml, hown, hts, hA, hK, hlk, hrt, hR, hg⟩ := O; subst hg
  intro H locs ls hP hD hS hl
  exact lv_i2l hx hb d rfl (k H locs ls hP hD hS hl)
theorem J_l2i (O : Jo X g cc nL own Ts R0 ret) {x : Int64} (d : decode cc pc = .ok (.l2i, 1)) (k : J X nL Q ws cells slots (pc + 1) lv (.int x.toInt32 :: st)) : J X nL Q ws cells slots pc lv (.long x :: st) := by
  obtain ⟨p, l, e, R, s, m, args, below, meth, c, D, A, cB, cI, cJ⟩ := X
  obtain ⟨hx, hb, hml, hown, hts, hA, hK, hlk, hrt, hR, hg⟩ := O; subst hg
  intro H locs ls hP hD hS hl
  exact lv_l2i hx hb d rfl (k H locs ls hP hD hS hl)
theorem J_i2b (O : Jo X g cc nL own Ts R0 ret) {x : Int32} (d : decode cc pc = .ok (.i2b, 1)) (k : J X nL Q ws cells slots (pc + 1) lv (.int x.toInt8.toInt32 :: st)) : J X nL Q ws cells slots pc lv (.int x :: st) := by
  obtain ⟨p, l, e, R, s, m, args, below, meth, c, D, A, cB, cI, cJ⟩ := X
  obtain ⟨hx, hb, hml, hown, hts, hA, hK, hlk, hrt, hR, hg⟩ := O; subst hg
  intro H locs ls hP hD hS hl
  exact lv_i2b hx hb d rfl (k H locs ls hP hD hS hl)
theorem J_lcmp (O : Jo X g cc nL own Ts R0 ret) {x y : Int64} (d : decode cc pc = .ok (.lcmp, 1)) (k : J X nL Q ws cells slots (pc + 1) lv (.int (lg_cmp x y) :: st)) : J X nL Q ws cells slots pc lv (.long y :: .long x :: st) := by
  obtain ⟨p, l, e, R, s, m, args, below, meth, c, D, A, cB, cI, cJ⟩ := X
  obtain ⟨hx, hb, hml, hown, hts, hA, hK, hlk, hrt, hR, hg⟩ := O; subst hg
  intro H locs ls hP hD hS hl
  exact W.lcmp hx hb d (k H locs ls hP hD hS hl)
theorem J_dup (O : Jo X g cc nL own Ts R0 ret) {v : Value} (hv : v.category = 1) (d : decode cc pc = .ok (.dup, 1)) (k : J X nL Q ws cells slots (pc + 1) lv (v :: v :: st)) : J X nL Q ws cells slots pc lv (v :: st) := by
  obtain ⟨p, l, e, R, s, m, args, below, meth, c, D, A, cB, cI, cJ⟩ := X
  obtain ⟨hx, hb, hml, hown, hts, hA, hK, hlk, hrt, hR, hg⟩ := O; subst hg
  intro H locs ls hP hD hS hl
  exact lv_dup hx hb d hv (k H locs ls hP hD hS hl)
theorem J_dup2 (O : Jo X g cc nL own Ts R0 ret) {v w : Value} (hv : v.category = 1) (hw : w.category = 1) (d : decode cc pc = .ok (.dup2, 1)) (k : J X nL Q ws cells slots (pc + 1) lv (v :: w :: v :: w :: st)) : J X nL Q ws cells slots pc lv (v :: w :: st) := by
  obtain ⟨p, l, e, R, s, m, args, below, meth, c, D, A, cB, cI, cJ⟩ := X
  obtain ⟨hx, hb, hml, hown, hts, hA, hK, hlk, hrt, hR, hg⟩ := O; subst hg
  intro H locs ls hP hD hS hl
  exact lv_dup2_11 hx hb d hv hw (k H locs ls hP hD hS hl)
theorem J_pop (O : Jo X g cc nL own Ts R0 ret) {v : Value} (hv : v.category = 1) (d : decode cc pc = .ok (.pop, 1)) (k : J X nL Q ws cells slots (pc + 1) lv (st)) : J X nL Q ws cells slots pc lv (v :: st) := by
  obtain ⟨p, l, e, R, s, m, args, below, meth, c, D, A, cB, cI, cJ⟩ := X
  obtain ⟨hx, hb, hml, hown, hts, hA, hK, hlk, hrt, hR, hg⟩ := O; subst hg
  intro H locs ls hP hD hS hl
  exact lv_pop hx hb d hv (k H locs ls hP hD hS hl)
theorem J_if_eq (O : Jo X g cc nL own Ts R0 ret) {x : Int32} {off : Int} {tgt : Nat} (d : decode cc pc = .ok (.ifCond .eq off, 3)) (ht : (pc : Int) + off = (tgt : Int)) (kt : x = 0 → J X nL Q ws cells slots tgt lv st) (kf : ¬ x = 0 → J X nL Q ws cells slots (pc + 3) lv st) : J X nL Q ws cells slots pc lv (.int x :: st) := by
  obtain ⟨p, l, e, R, s, m, args, below, meth, c, D, A, cB, cI, cJ⟩ := X
  obtain ⟨hx, hb, hml, hown, hts, hA, hK, hlk, hrt, hR, hg⟩ := O; subst hg
  intro H locs ls hP hD hS hl
  exact lv_if_eq hx hb d ht (fun h => kt h H locs ls hP hD hS hl) (fun h => kf h H locs ls hP hD hS hl)
theorem J_icmp_eq (O : Jo X g cc nL own Ts R0 ret) {x y : Int32} {off : Int} {tgt : Nat} (d : decode cc pc = .ok (.if_icmp .eq off, 3)) (ht : (pc : Int) + off = (tgt : Int)) (kt : x = y → J X nL Q ws cells slots tgt lv st) (kf : ¬ x = y → J X nL Q ws cells slots (pc + 3) lv st) : J X nL Q ws cells slots pc lv (.int y :: .int x :: st) := by
  obtain ⟨p, l, e, R, s, m, args, below, meth, c, D, A, cB, cI, cJ⟩ := X
  obtain ⟨hx, hb, hml, hown, hts, hA, hK, hlk, hrt, hR, hg⟩ := O; subst hg
  intro H locs ls hP hD hS hl
  exact lv_icmp_eq hx hb d ht (fun h => kt h H locs ls hP hD hS hl) (fun h => kf h H locs ls hP hD hS hl)
theorem J_if_ne (O : Jo X g cc nL own Ts R0 ret) {x : Int32} {off : Int} {tgt : Nat} (d : decode cc pc = .ok (.ifCond .ne off, 3)) (ht : (pc : Int) + off = (tgt : Int)) (kt : ¬ x = 0 → J X nL Q ws cells slots tgt lv st) (kf : x = 0 → J X nL Q ws cells slots (pc + 3) lv st) : J X nL Q ws cells slots pc lv (.int x :: st) := by
  obtain ⟨p, l, e, R, s, m, args, below, meth, c, D, A, cB, cI, cJ⟩ := X
  obtain ⟨hx, hb, hml, hown, hts, hA, hK, hlk, hrt, hR, hg⟩ := O; subst hg
  intro H locs ls hP hD hS hl
  exact lv_if_ne hx hb d ht (fun h => kt h H locs ls hP hD hS hl) (fun h => kf h H locs ls hP hD hS hl)
theorem J_icmp_ne (O : Jo X g cc nL own Ts R0 ret) {x y : Int32} {off : Int} {tgt : Nat} (d : decode cc pc = .ok (.if_icmp .ne off, 3)) (ht : (pc : Int) + off = (tgt : Int)) (kt : ¬ x = y → J X nL Q ws cells slots tgt lv st) (kf : x = y → J X nL Q ws cells slots (pc + 3) lv st) : J X nL Q ws cells slots pc lv (.int y :: .int x :: st) := by
  obtain ⟨p, l, e, R, s, m, args, below, meth, c, D, A, cB, cI, cJ⟩ := X
  obtain ⟨hx, hb, hml, hown, hts, hA, hK, hlk, hrt, hR, hg⟩ := O; subst hg
  intro H locs ls hP hD hS hl
  exact lv_icmp_ne hx hb d ht (fun h => kt h H locs ls hP hD hS hl) (fun h => kf h H locs ls hP hD hS hl)
theorem J_if_lt (O : Jo X g cc nL own Ts R0 ret) {x : Int32} {off : Int} {tgt : Nat} (d : decode cc pc = .ok (.ifCond .lt off, 3)) (ht : (pc : Int) + off = (tgt : Int)) (kt : x < 0 → J X nL Q ws cells slots tgt lv st) (kf : ¬ x < 0 → J X nL Q ws cells slots (pc + 3) lv st) : J X nL Q ws cells slots pc lv (.int x :: st) := by
  obtain ⟨p, l, e, R, s, m, args, below, meth, c, D, A, cB, cI, cJ⟩ := X
  obtain ⟨hx, hb, hml, hown, hts, hA, hK, hlk, hrt, hR, hg⟩ := O; subst hg
  intro H locs ls hP hD hS hl
  exact lv_if_lt hx hb d ht (fun h => kt h H locs ls hP hD hS hl) (fun h => kf h H locs ls hP hD hS hl)
theorem J_icmp_lt (O : Jo X g cc nL own Ts R0 ret) {x y : Int32} {off : Int} {tgt : Nat} (d : decode cc pc = .ok (.if_icmp .lt off, 3)) (ht : (pc : Int) + off = (tgt : Int)) (kt : x < y → J X nL Q ws cells slots tgt lv st) (kf : ¬ x < y → J X nL Q ws cells slots (pc + 3) lv st) : J X nL Q ws cells slots pc lv (.int y :: .int x :: st) := by
  obtain ⟨p, l, e, R, s, m, args, below, meth, c, D, A, cB, cI, cJ⟩ := X
  obtain ⟨hx, hb, hml, hown, hts, hA, hK, hlk, hrt, hR, hg⟩ := O; subst hg
  intro H locs ls hP hD hS hl
  exact lv_icmp_lt hx hb d ht (fun h => kt h H locs ls hP hD hS hl) (fun h => kf h H locs ls hP hD hS hl)
theorem J_if_ge (O : Jo X g cc nL own Ts R0 ret) {x : Int32} {off : Int} {tgt : Nat} (d : decode cc pc = .ok (.ifCond .ge off, 3)) (ht : (pc : Int) + off = (tgt : Int)) (kt : 0 ≤ x → J X nL Q ws cells slots tgt lv st) (kf : ¬ 0 ≤ x → J X nL Q ws cells slots (pc + 3) lv st) : J X nL Q ws cells slots pc lv (.int x :: st) := by
  obtain ⟨p, l, e, R, s, m, args, below, meth, c, D, A, cB, cI, cJ⟩ := X
  obtain ⟨hx, hb, hml, hown, hts, hA, hK, hlk, hrt, hR, hg⟩ := O; subst hg
  intro H locs ls hP hD hS hl
  exact lv_if_ge hx hb d ht (fun h => kt h H locs ls hP hD hS hl) (fun h => kf h H locs ls hP hD hS hl)
theorem J_icmp_ge (O : Jo X g cc nL own Ts R0 ret) {x y : Int32} {off : Int} {tgt : Nat} (d : decode cc pc = .ok (.if_icmp .ge off, 3)) (ht : (pc : Int) + off = (tgt : Int)) (kt : y ≤ x → J X nL Q ws cells slots tgt lv st) (kf : ¬ y ≤ x → J X nL Q ws cells slots (pc + 3) lv st) : J X nL Q ws cells slots pc lv (.int y :: .int x :: st) := by
  obtain ⟨p, l, e, R, s, m, args, below, meth, c, D, A, cB, cI, cJ⟩ := X
  obtain ⟨hx, hb, hml, hown, hts, hA, hK, hlk, hrt, hR, hg⟩ := O; subst hg
  intro H locs ls hP hD hS hl
  exact lv_icmp_ge hx hb d ht (fun h => kt h H locs ls hP hD hS hl) (fun h => kf h H locs ls hP hD hS hl)
theorem J_if_gt (O : Jo X g cc nL own Ts R0 ret) {x : Int32} {off : Int} {tgt : Nat} (d : decode cc pc = .ok (.ifCond .gt off, 3)) (ht : (pc : Int) + off = (tgt : Int)) (kt : 0 < x → J X nL Q ws cells slots tgt lv st) (kf : ¬ 0 < x → J X nL Q ws cells slots (pc + 3) lv st) : J X nL Q ws cells slots pc lv (.int x :: st) := by
  obtain ⟨p, l, e, R, s, m, args, below, meth, c, D, A, cB, cI, cJ⟩ := X
  obtain ⟨hx, hb, hml, hown, hts, hA, hK, hlk, hrt, hR, hg⟩ := O; subst hg
  intro H locs ls hP hD hS hl
  exact lv_if_gt hx hb d ht (fun h => kt h H locs ls hP hD hS hl) (fun h => kf h H locs ls hP hD hS hl)
theorem J_icmp_gt (O : Jo X g cc nL own Ts R0 ret) {x y : Int32} {off : Int} {tgt : Nat} (d : decode cc pc = .ok (.if_icmp .gt off, 3)) (ht : (pc : Int) + off = (tgt : Int)) (kt : y < x → J X nL Q ws cells slots tgt lv st) (kf : ¬ y < x → J X nL Q ws cells slots (pc + 3) lv st) : J X nL Q ws cells slots pc lv (.int y :: .int x :: st) := by
  obtain ⟨p, l, e, R, s, m, args, below, meth, c, D, A, cB, cI, cJ⟩ := X
  obtain ⟨hx, hb, hml, hown, hts, hA, hK, hlk, hrt, hR, hg⟩ := O; subst hg
  intro H locs ls hP hD hS hl
  exact lv_icmp_gt hx hb d ht (fun h => kt h H locs ls hP hD hS hl) (fun h => kf h H locs ls hP hD hS hl)
theorem J_if_le (O : Jo X g cc nL own Ts R0 ret) {x : Int32} {off : Int} {tgt : Nat} (d : decode cc pc = .ok (.ifCond .le off, 3)) (ht : (pc : Int) + off = (tgt : Int)) (kt : x ≤ 0 → J X nL Q ws cells slots tgt lv st) (kf : ¬ x ≤ 0 → J X nL Q ws cells slots (pc + 3) lv st) : J X nL Q ws cells slots pc lv (.int x :: st) := by
  obtain ⟨p, l, e, R, s, m, args, below, meth, c, D, A, cB, cI, cJ⟩ := X
  obtain ⟨hx, hb, hml, hown, hts, hA, hK, hlk, hrt, hR, hg⟩ := O; subst hg
  intro H locs ls hP hD hS hl
  exact lv_if_le hx hb d ht (fun h => kt h H locs ls hP hD hS hl) (fun h => kf h H locs ls hP hD hS hl)
theorem J_icmp_le (O : Jo X g cc nL own Ts R0 ret) {x y : Int32} {off : Int} {tgt : Nat} (d : decode cc pc = .ok (.if_icmp .le off, 3)) (ht : (pc : Int) + off = (tgt : Int)) (kt : x ≤ y → J X nL Q ws cells slots tgt lv st) (kf : ¬ x ≤ y → J X nL Q ws cells slots (pc + 3) lv st) : J X nL Q ws cells slots pc lv (.int y :: .int x :: st) := by
  obtain ⟨p, l, e, R, s, m, args, below, meth, c, D, A, cB, cI, cJ⟩ := X
  obtain ⟨hx, hb, hml, hown, hts, hA, hK, hlk, hrt, hR, hg⟩ := O; subst hg
  intro H locs ls hP hD hS hl
  exact lv_icmp_le hx hb d ht (fun h => kt h H locs ls hP hD hS hl) (fun h => kf h H locs ls hP hD hS hl)
theorem J_goto (O : Jo X g cc nL own Ts R0 ret) {off : Int} {tgt : Nat} (d : decode cc pc = .ok (.goto off, 3)) (ht : (pc : Int) + off = (tgt : Int)) (k : J X nL Q ws cells slots tgt lv st) : J X nL Q ws cells slots pc lv st := by
  obtain ⟨p, l, e, R, s, m, args, below, meth, c, D, A, cB, cI, cJ⟩ := X
  obtain ⟨hx, hb, hml, hown, hts, hA, hK, hlk, hrt, hR, hg⟩ := O; subst hg
  intro H locs ls hP hD hS hl
  exact lv_goto hx hb d ht (k H locs ls hP hD hS hl)
theorem J_sub (ks : List Nat) {lv' : List (Nat × Value)} (hv : lv_pick lv ks = lv') (k : J X nL Q ws cells slots pc lv' st) : J X nL Q ws cells slots pc lv st := by
  obtain ⟨p, l, e, R, s, m, args, below, meth, c, D, A, cB, cI, cJ⟩ := X
  intro H locs ls hP hD hS hl
  exact k H locs ls hP hD hS (lv_sub hl ks hv)
theorem J_wsub (is : List Nat) (ws' : va_W) (hn : va_nd is = true) (h1 : is.filterMap (fun i => ws[i]?) = ws') (h2 : is.map (fun i => ws[i]?) = ws'.map some) (k : J X nL Q ws' cells slots pc lv st) : J X nL Q ws cells slots pc lv st := by
  obtain ⟨p, l, e, R, s, m, args, below, meth, c, D, A, cB, cI, cJ⟩ := X
  intro H locs ls hP hD hS hl
  exact k H locs ls (hP.sub is h1) (hD.sub is hn h2) hS hl
theorem J_widen (c' s' : Nat) (h1 : cells ≤ c') (h2 : slots ≤ s') (k : J X nL Q ws c' s' pc lv st) : J X nL Q ws cells slots pc lv st := by
  obtain ⟨p, l, e, R, s, m, args, below, meth, c, D, A, cB, cI, cJ⟩ := X
  intro H locs ls hP hD hS hl
  exact W.widen h1 h2 (k H locs ls hP hD hS hl)
theorem J_pc {pc' : Nat} (h : pc = pc') (k : J X nL Q ws cells slots pc' lv st) : J X nL Q ws cells slots pc lv st := by subst h; exact k
theorem J_lookup (O : Jo X g cc nL own Ts R0 ret) {dflt : Int} {ps : Array (Int × Int)} {len : Nat} {x : Int32} {off : Int} {tgt : Nat} (d : decode cc pc = .ok (.lookupswitch dflt ps, len)) (hp : (ps.toList.zip (ps.toList.drop 1)).all (fun (a, next) => a.1 < next.1) = true) (ho : Op.lookupswitch.offset ps.toList dflt x.toInt = off) (ht : (pc : Int) + off = (tgt : Int)) (k : J X nL Q ws cells slots tgt lv st) : J X nL Q ws cells slots pc lv (.int x :: st) := by
  obtain ⟨p, l, e, R, s, m, args, below, meth, c, D, A, cB, cI, cJ⟩ := X
  obtain ⟨hx, hb, hml, hown, hts, hA, hK, hlk, hrt, hR, hg⟩ := O; subst hg
  intro H locs ls hP hD hS hl
  exact lv_lookup hx hb d hp ho ht (k H locs ls hP hD hS hl)
theorem J_tableOut (O : Jo X g cc nL own Ts R0 ret) {dflt lo hi : Int} {offs : Array Int} {len : Nat} {x : Int32} {tgt : Nat} (d : decode cc pc = .ok (.tableswitch dflt lo hi offs, len)) (h : x.toInt < lo ∨ hi < x.toInt) (ht : (pc : Int) + dflt = (tgt : Int)) (k : J X nL Q ws cells slots tgt lv st) : J X nL Q ws cells slots pc lv (.int x :: st) := by
  obtain ⟨p, l, e, R, s, m, args, below, meth, c, D, A, cB, cI, cJ⟩ := X
  obtain ⟨hx, hb, hml, hown, hts, hA, hK, hlk, hrt, hR, hg⟩ := O; subst hg
  intro H locs ls hP hD hS hl
  exact lv_tableOut hx hb d h ht (k H locs ls hP hD hS hl)
theorem J_tableIn (O : Jo X g cc nL own Ts R0 ret) {dflt lo hi : Int} {offs : Array Int} {len : Nat} {x : Int32} {off : Int} {tgt : Nat} (d : decode cc pc = .ok (.tableswitch dflt lo hi offs, len)) (h1 : ¬ x.toInt < lo) (h2 : ¬ hi < x.toInt) (ho : offs[(x.toInt - lo).toNat]? = some off) (ht : (pc : Int) + off = (tgt : Int)) (k : J X nL Q ws cells slots tgt lv st) : J X nL Q ws cells slots pc lv (.int x :: st) := by
  obtain ⟨p, l, e, R, s, m, args, below, meth, c, D, A, cB, cI, cJ⟩ := X
  obtain ⟨hx, hb, hml, hown, hts, hA, hK, hlk, hrt, hR, hg⟩ := O; subst hg
  intro H locs ls hP hD hS hl
  exact lv_tableIn hx hb d h1 h2 ho ht (k H locs ls hP hD hS hl)
theorem J_get (O : Jo X g cc nL own Ts R0 ret) {C : String} {F : u_T} {N ci a : Nat} (hin : ∀ w ∈ u_ws C F N, w ∈ Ts) (q0 : Nat) {fs : List Value} (he : ws[q0]? = some (a, .inr (ci, fs))) (hc : vwCl[ci]? = some (C, F, N)) (k0 : Nat) (hk : k0 < N) {idx : Nat} (hm : Cond.fieldLink own idx (F k0).1 (F k0).2.1 (F k0).2.2.1 ∈ Ts) {v : Value} (hv : fs[k0]? = some v) (d : decode cc pc = .ok (.getfield idx, 3)) (k : J X nL Q ws cells slots (pc + 3) lv (v :: st)) : J X nL Q ws cells slots pc lv (.ref a :: st) := by
  obtain ⟨p, l, e, R, s, m, args, below, meth, c, D, A, cB, cI, cJ⟩ := X
  obtain ⟨hx, hb, hml, hown, hts, hA, hK, hlk, hrt, hR, hg⟩ := O; subst hg
  intro H locs ls hP hD hS hl
  exact va_get hx hb hts hin hown hK hP q0 he hc k0 hk (hts _ hm) (fun _ h9 => h9) hv d (k H locs ls hP hD hS hl)
theorem J_put (O : Jo X g cc nL own Ts R0 ret) {C : String} {F : u_T} {N ci a : Nat} (hin : ∀ w ∈ u_ws C F N, w ∈ Ts) (ty0 : Nat → FieldType) (hty : ∀ k, k < N → parseFieldDescriptor (F k).2.2.1 = some (ty0 k)) (hnmF : ∀ a, a < N → ∀ b, b < N → a ≠ b → (F a).2.1 ≠ (F b).2.1) (q0 : Nat) {fs : List Value} (he : ws[q0]? = some (a, .inr (ci, fs))) (hc : vwCl[ci]? = some (C, F, N)) (k0 : Nat) (hk : k0 < N) {idx : Nat} (hm : Cond.fieldLink own idx (F k0).1 (F k0).2.1 (F k0).2.2.1 ∈ Ts) (hfin : (F k0).2.2.2 = false) {v : Value} (hn : narrow (ty0 k0) v = v) (hfit : fits (ty0 k0) v = true) (hlen : k0 < fs.length) (ws' : va_W) (hw : ws.set q0 (a, .inr (ci, fs.set k0 v)) = ws') (d : decode cc pc = .ok (.putfield idx, 3)) (k : J X nL Q ws' cells slots (pc + 3) lv st) : J X nL Q ws cells slots pc lv (v :: .ref a :: st) := by
  obtain ⟨p, l, e, R, s, m, args, below, meth, c, D, A, cB, cI, cJ⟩ := X
  obtain ⟨hx, hb, hml, hown, hts, hA, hK, hlk, hrt, hR, hg⟩ := O; subst hg
  intro H locs ls hP hD hS hl
  subst hw
  exact va_put hx hb hts hin ty0 hty hnmF hown hK hP hD hS q0 he hc k0 hk (hts _ hm) (fun _ h9 => h9) hfin (hty k0 hk) hn hfit hlen d (fun H1 locs1 hP1 hD1 hS1 => k H1 locs1 ls hP1 hD1 hS1 hl)
theorem J_putF (O : Jo X g cc nL own Ts R0 ret) {C : String} {F : u_T} {N ci a : Nat} (hin : ∀ w ∈ u_ws C F N, w ∈ Ts) (ty0 : Nat → FieldType) (hty : ∀ k, k < N → parseFieldDescriptor (F k).2.2.1 = some (ty0 k)) (hnmF : ∀ a, a < N → ∀ b, b < N → a ≠ b → (F a).2.1 ≠ (F b).2.1) (q0 : Nat) {fs : List Value} (he : ws[q0]? = some (a, .inr (ci, fs))) (hc : vwCl[ci]? = some (C, F, N)) (k0 : Nat) (hk : k0 < N) {idx : Nat} (hm : Cond.fieldLink own idx (F k0).1 (F k0).2.1 (F k0).2.2.1 ∈ Ts) (hfin : (F k0).2.2.2 = true) (hnm : Jnm X) (hdc : (F k0).1 = own) {v : Value} (hn : narrow (ty0 k0) v = v) (hfit : fits (ty0 k0) v = true) (hlen : k0 < fs.length) (ws' : va_W) (hw : ws.set q0 (a, .inr (ci, fs.set k0 v)) = ws') (d : decode cc pc = .ok (.putfield idx, 3)) (k : J X nL Q ws' cells slots (pc + 3) lv st) : J X nL Q ws cells slots pc lv (v :: .ref a :: st) := by
  obtain ⟨p, l, e, R, s, m, args, below, meth, c, D, A, cB, cI, cJ⟩ := X
  obtain ⟨hx, hb, hml, hown, hts, hA, hK, hlk, hrt, hR, hg⟩ := O; subst hg
  intro H locs ls hP hD hS hl
  subst hw
  exact va_putF hx hb hts hin ty0 hty hnmF hown hK hP hD hS q0 he hc k0 hk (hts _ hm) (fun _ h9 => h9) hfin hnm hdc (hty k0 hk) hn hfit hlen d (fun H1 locs1 hP1 hD1 hS1 => k H1 locs1 ls hP1 hD1 hS1 hl)
theorem J_iald (O : Jo X g cc nL own Ts R0 ret) {a n : Nat} {f : Nat → Int32} {cA : ClassId} (q0 t0 : Nat) (he : ws[q0]? = some (a, .inl (cA, n, .inl f))) (ht : (Kt g.2.2.1 g.2.2.2.1 g.2.2.2.2)[t0]? = some (cA, .int)) {i : Int32} (hi : ix i n = true) (d : decode cc pc = .ok (.iaload, 1)) (k : J X nL Q ws cells slots (pc + 1) lv (.int (f i.toNatClampNeg) :: st)) : J X nL Q ws cells slots pc lv (.int i :: .ref a :: st) := by
  obtain ⟨p, l, e, R, s, m, args, below, meth, c, D, A, cB, cI, cJ⟩ := X
  obtain ⟨hx, hb, hml, hown, hts, hA, hK, hlk, hrt, hR, hg⟩ := O; subst hg
  intro H locs ls hP hD hS hl
  exact va_iald hx hb hK hP q0 t0 he ht (ix_in hi) d (k H locs ls hP hD hS hl)
theorem J_bald (O : Jo X g cc nL own Ts R0 ret) {a n : Nat} {f : Nat → Int8} {cA : ClassId} (q0 t0 : Nat) (he : ws[q0]? = some (a, .inl (cA, n, .inl (b8 f)))) (ht : (Kt g.2.2.1 g.2.2.2.1 g.2.2.2.2)[t0]? = some (cA, .byte)) {i : Int32} (hi : ix i n = true) (d : decode cc pc = .ok (.baload, 1)) (k : J X nL Q ws cells slots (pc + 1) lv (.int (f i.toNatClampNeg).toInt32 :: st)) : J X nL Q ws cells slots pc lv (.int i :: .ref a :: st) := by
  obtain ⟨p, l, e, R, s, m, args, below, meth, c, D, A, cB, cI, cJ⟩ := X
  obtain ⟨hx, hb, hml, hown, hts, hA, hK, hlk, hrt, hR, hg⟩ := O; subst hg
  intro H locs ls hP hD hS hl
  exact va_bald hx hb hK hP q0 t0 he ht (ix_in hi) d (k H locs ls hP hD hS hl)
theorem J_lald (O : Jo X g cc nL own Ts R0 ret) {a n : Nat} {f : Nat → Int64} {cA : ClassId} (q0 t0 : Nat) (he : ws[q0]? = some (a, .inl (cA, n, .inr (.inl f)))) (ht : (Kt g.2.2.1 g.2.2.2.1 g.2.2.2.2)[t0]? = some (cA, .long)) {i : Int32} (hi : ix i n = true) (d : decode cc pc = .ok (.laload, 1)) (k : J X nL Q ws cells slots (pc + 1) lv (.long (f i.toNatClampNeg) :: st)) : J X nL Q ws cells slots pc lv (.int i :: .ref a :: st) := by
  obtain ⟨p, l, e, R, s, m, args, below, meth, c, D, A, cB, cI, cJ⟩ := X
  obtain ⟨hx, hb, hml, hown, hts, hA, hK, hlk, hrt, hR, hg⟩ := O; subst hg
  intro H locs ls hP hD hS hl
  exact va_lald hx hb hK hP q0 t0 he ht (ix_in hi) d (k H locs ls hP hD hS hl)
theorem J_iast (O : Jo X g cc nL own Ts R0 ret) {a n : Nat} {f : Nat → Int32} {cA : ClassId} (q0 t0 : Nat) (he : ws[q0]? = some (a, .inl (cA, n, .inl f))) (ht : (Kt g.2.2.1 g.2.2.2.1 g.2.2.2.2)[t0]? = some (cA, .int)) {i x : Int32} (hi : ix i n = true) (ws' : va_W) (hw : ws.set q0 (a, .inl (cA, n, .inl (upd f i.toNatClampNeg x))) = ws') (d : decode cc pc = .ok (.iastore, 1)) (k : J X nL Q ws' cells slots (pc + 1) lv st) : J X nL Q ws cells slots pc lv (.int x :: .int i :: .ref a :: st) := by
  obtain ⟨p, l, e, R, s, m, args, below, meth, c, D, A, cB, cI, cJ⟩ := X
  obtain ⟨hx, hb, hml, hown, hts, hA, hK, hlk, hrt, hR, hg⟩ := O; subst hg
  intro H locs ls hP hD hS hl
  subst hw
  exact va_iast hx hb hK hP hD hS q0 t0 he ht (ix_in hi) d (fun H1 locs1 hP1 hD1 hS1 => k H1 locs1 ls hP1 hD1 hS1 hl)
theorem J_last (O : Jo X g cc nL own Ts R0 ret) {a n : Nat} {f : Nat → Int64} {cA : ClassId} (q0 t0 : Nat) (he : ws[q0]? = some (a, .inl (cA, n, .inr (.inl f)))) (ht : (Kt g.2.2.1 g.2.2.2.1 g.2.2.2.2)[t0]? = some (cA, .long)) {i : Int32} {x : Int64} (hi : ix i n = true) (ws' : va_W) (hw : ws.set q0 (a, .inl (cA, n, .inr (.inl (vp_updL f i.toNatClampNeg x)))) = ws') (d : decode cc pc = .ok (.lastore, 1)) (k : J X nL Q ws' cells slots (pc + 1) lv st) : J X nL Q ws cells slots pc lv (.long x :: .int i :: .ref a :: st) := by
  obtain ⟨p, l, e, R, s, m, args, below, meth, c, D, A, cB, cI, cJ⟩ := X
  obtain ⟨hx, hb, hml, hown, hts, hA, hK, hlk, hrt, hR, hg⟩ := O; subst hg
  intro H locs ls hP hD hS hl
  subst hw
  exact va_last hx hb hK hP hD hS q0 t0 he ht (ix_in hi) d (fun H1 locs1 hP1 hD1 hS1 => k H1 locs1 ls hP1 hD1 hS1 hl)
theorem b8_up (f : Nat → Int8) (k : Nat) (x : Int32) : upd (b8 f) k (vp_nar .byte x) = b8 (up8 f k x.toInt8) := by
  funext j
  simp only [upd, b8, up8, vp_nar_byte]
  by_cases h : j = k
  · simp [h]
  · simp [h]
theorem b8_cpy (f g : Nat → Int8) (sp dp n : Nat) : va_cpy (b8 f) (b8 g) sp dp n = b8 (va_cpy f g sp dp n) := by
  funext j
  simp only [va_cpy, b8]
  split <;> rfl
theorem b8_fit (f : Nat → Int8) (k : Nat) : fits .byte (.int (b8 f k)) = true := by
  have h := pk_fb ((f k).toInt32)
  have e : (f k).toInt32.toInt8.toInt32 = (f k).toInt32 := by simp
  rw [e] at h
  exact h
theorem J_bast (O : Jo X g cc nL own Ts R0 ret) {a n : Nat} {f : Nat → Int8} {cA : ClassId} (q0 t0 : Nat) (he : ws[q0]? = some (a, .inl (cA, n, .inl (b8 f)))) (ht : (Kt g.2.2.1 g.2.2.2.1 g.2.2.2.2)[t0]? = some (cA, .byte)) {i x : Int32} (hi : ix i n = true) (ws' : va_W) (hw : ws.set q0 (a, .inl (cA, n, .inl (b8 (up8 f i.toNatClampNeg x.toInt8)))) = ws') (d : decode cc pc = .ok (.bastore, 1)) (k : J X nL Q ws' cells slots (pc + 1) lv st) : J X nL Q ws cells slots pc lv (.int x :: .int i :: .ref a :: st) := by
  obtain ⟨p, l, e, R, s, m, args, below, meth, c, D, A, cB, cI, cJ⟩ := X
  obtain ⟨hx, hb, hml, hown, hts, hA, hK, hlk, hrt, hR, hg⟩ := O; subst hg
  intro H locs ls hP hD hS hl
  subst hw
  refine va_bast hx hb hK hP hD hS q0 t0 he ht (ix_in hi) d (fun H1 locs1 hP1 hD1 hS1 => ?_)
  rw [b8_up] at hP1 hD1
  exact k H1 locs1 ls hP1 hD1 hS1 hl
theorem J_alen (O : Jo X g cc nL own Ts R0 ret) {a n : Nat} {z : (Nat → Int32) ⊕ (Nat → Int64) ⊕ (Nat → UInt32) ⊕ (Nat → UInt64) ⊕ (Nat → Option Nat)} {cA : ClassId} {ty : FieldType} (q0 t0 : Nat) (he : ws[q0]? = some (a, .inl (cA, n, z))) (ht : (Kt g.2.2.1 g.2.2.2.1 g.2.2.2.2)[t0]? = some (cA, ty)) (d : decode cc pc = .ok (.arraylength, 1)) (k : J X nL Q ws cells slots (pc + 1) lv (.int (nI n) :: st)) : J X nL Q ws cells slots pc lv (.ref a :: st) := by
  obtain ⟨p, l, e, R, s, m, args, below, meth, c, D, A, cB, cI, cJ⟩ := X
  obtain ⟨hx, hb, hml, hown, hts, hA, hK, hlk, hrt, hR, hg⟩ := O; subst hg
  intro H locs ls hP hD hS hl
  exact va_alen hx hb hK hP q0 t0 he ht rfl d (k H locs ls hP hD hS hl)
theorem J_copy (O : Jo X g cc nL own Ts R0 ret) {a0 a n0 n1 : Nat} {f f1 : Nat → Int8} {c0 c1 : ClassId} (q0 q1 : Nat) (he0 : ws[q0]? = some (a0, .inl (c0, n0, .inl (b8 f)))) (he1 : ws[q1]? = some (a, .inl (c1, n1, .inl (b8 f1)))) (ht0 : (Kt g.2.2.1 g.2.2.2.1 g.2.2.2.2)[0]? = some (c0, .byte)) (ht1 : (Kt g.2.2.1 g.2.2.2.1 g.2.2.2.2)[0]? = some (c1, .byte)) {sp dp n : Int32} (h1 : ¬ sp < 0) (h2 : ¬ dp < 0) (h3 : ¬ n < 0) (h4 : sp.toNatClampNeg + n.toNatClampNeg ≤ n0) (h5 : dp.toNatClampNeg + n.toNatClampNeg ≤ n1) {idx : Nat} (hm : Cond.methodLink own idx arraycopyName ∈ Ts) (hm1 : Cond.native arraycopyName ∈ Ts) (hm2 : Cond.static arraycopyName ∈ Ts) (hm3 : Cond.initialized "java/lang/System" ∈ Ts) (hfr : 1 ≤ R0.frames) (hlo : (st.map fun v => v.category).sum + (nativeFrameWords "java/lang/System" "arraycopy" 5 + 11) ≤ R0.locals) (ws' : va_W) (hw : ws.set q1 (a, .inl (c1, n1, .inl (b8 (va_cpy f f1 sp.toNatClampNeg dp.toNatClampNeg n.toNatClampNeg)))) = ws') (d : decode cc pc = .ok (.invokestatic idx, 3)) (k : J X nL Q ws' cells slots (pc + 3) lv st) : J X nL Q ws cells slots pc lv (.int n :: .int dp :: .ref a :: .int sp :: .ref a0 :: st) := by
  obtain ⟨p, l, e, R, s, m, args, below, meth, c, D, A, cB, cI, cJ⟩ := X
  obtain ⟨hx, hb, hml, hown, hts, hA, hK, hlk, hrt, hR, hg⟩ := O; subst hg
  intro H locs ls hP hD hS hl
  subst hw
  subst hR
  refine va_copyi hx hb (hml.trans hl.1.symm) hown (hts _ hm) (hts _ hm1) (hts _ hm2) (hts _ hm3) hK hP hD hS q0 q1 0 0 he0 he1 ht0 ht1 rfl h1 h2 h3 h4 h5 (fun i _ => b8_fit f _) hfr hlo d (fun H1 locs1 hP1 hD1 hS1 => ?_)
  rw [b8_cpy] at hP1 hD1
  exact k H1 locs1 ls hP1 hD1 hS1 hl
theorem J_mmax (O : Jo X g cc nL own Ts R0 ret) {x y : Int32} {idx : Nat} (hm : Cond.methodLink own idx Lib.Math.max.name ∈ Ts) (hm1 : Cond.static Lib.Math.max.name ∈ Ts) (hm2 : Cond.initialized "java/lang/Math" ∈ Ts) (hm3 : Cond.code Lib.Math.max.name Lib.Math.max.code 2 (some .int) ∈ Ts) (hfr : 1 ≤ R0.frames) (hlo : (st.map fun v => v.category).sum + 13 ≤ R0.locals) (hc : cells ≤ R0.cells) (hs : slots ≤ R0.slots) (d : decode cc pc = .ok (.invokestatic idx, 3)) (k : J X nL Q ws cells slots (pc + 3) lv (.int (if x < y then y else x) :: st)) : J X nL Q ws cells slots pc lv (.int y :: .int x :: st) := by
  obtain ⟨p, l, e, R, s, m, args, below, meth, c, D, A, cB, cI, cJ⟩ := X
  obtain ⟨hx, hb, hml, hown, hts, hA, hK, hlk, hrt, hR, hg⟩ := O; subst hg
  intro H locs ls hP hD hS hl
  subst hR
  exact va_mmax hx hb (hml.trans hl.1.symm) hown (hts _ hm) (hts _ hm1) (hts _ hm2) (hts _ hm3) hfr hlo hc hs d (k H locs ls hP hD hS hl)
theorem J_objInit (O : Jo X g cc nL own Ts R0 ret) {a idx : Nat} (hm : Cond.methodLink own idx objectInit ∈ Ts) (hm1 : Cond.instanceMethod objectInit ∈ Ts) (hm2 : Cond.code objectInit ⟨#[0xb1]⟩ 1 none ∈ Ts) (hfr : 1 ≤ R0.frames) (hlo : (st.map fun v => v.category).sum + 12 ≤ R0.locals) (d : decode cc pc = .ok (.invokespecial idx, 3)) (k : J X nL Q ws cells slots (pc + 3) lv st) : J X nL Q ws cells slots pc lv (.ref a :: st) := by
  obtain ⟨p, l, e, R, s, m, args, below, meth, c, D, A, cB, cI, cJ⟩ := X
  obtain ⟨hx, hb, hml, hown, hts, hA, hK, hlk, hrt, hR, hg⟩ := O; subst hg
  intro H locs ls hP hD hS hl
  subst hR
  refine W.objInit hx hb hown (hts _ hm) (hts _ hm1) (hts _ hm2) rfl (by rw [hml]; exact hl.1) rfl d hfr (by show 2 * 0 + _ + 12 ≤ _; omega) ?_
  exact W.eq (g2 := F0 m (pc + 3) ls st) rfl (k H locs ls hP hD hS hl)
theorem J_new (O : Jo X g cc nL own Ts R0 ret) {C : String} {F : u_T} {N ci : Nat} (hin : ∀ w ∈ u_ws C F N, w ∈ Ts) (ty0 : Nat → FieldType) (hty : ∀ k, k < N → parseFieldDescriptor (F k).2.2.1 = some (ty0 k)) {idx : Nat} (hm : Cond.classLink own idx C ∈ Ts) (hm1 : Cond.instantiable C N ∈ Ts) (hm2 : Cond.initialized C ∈ Ts) (hc : vwCl[ci]? = some (C, F, N)) (fs : List Value) (hfs : ∀ j, j < N → defaultValue (ty0 j) = vp_V fs j) (hcs : cells + 1 ≤ R0.cells) (hss : slots + N ≤ R0.slots) (ws' : Nat → va_W) (hw : ∀ q : Nat, ws ++ [(q, .inr (ci, fs))] = ws' q) (c' s' : Nat) (hc1 : cells + 1 = c') (hs1 : slots + N = s') (d : decode cc pc = .ok (.new idx, 3)) (k : ∀ q : Nat, J X nL Q (ws' q) c' s' (pc + 3) lv (.ref q :: st)) : J X nL Q ws cells slots pc lv st := by
  obtain ⟨p, l, e, R, s, m, args, below, meth, c, D, A, cB, cI, cJ⟩ := X
  obtain ⟨hx, hb, hml, hown, hts, hA, hK, hlk, hrt, hR, hg⟩ := O; subst hg
  intro H locs ls hP hD hS hl
  subst hR
  exact va_new hx hb hts hin ty0 hty hown (hts _ hm) (hts _ hm1) (hts _ hm2) hK hP hD hS hA hc hfs hcs hss d (fun q H1 hP1 hD1 hS1 => by rw [hw q] at hP1 hD1; subst hc1; subst hs1; exact k q H1 locs ls hP1 hD1 hS1 hl)
theorem J_newI (O : Jo X g cc nL own Ts R0 ret) (N' : Nat) {n : Int32} (hm : Cond.arrayClass .int ∈ Ts) (hn : ¬ n < 0) (hN : n.toNatClampNeg = N') (hby : N' * componentBytes .int ≤ 536870912) (hcs : cells + 1 ≤ R0.cells) (hss : slots + N' ≤ R0.slots) (d : decode cc pc = .ok (.newarray .int, 2)) (ws' : Nat → va_W) (hw : ∀ q : Nat, ws ++ [(q, .inl (g.2.2.2.1, N', .inl (fun _ => 0)))] = ws' q) (c' s' : Nat) (hc1 : cells + 1 = c') (hs1 : slots + N' = s') (k : ∀ q : Nat, J X nL Q (ws' q) c' s' (pc + 2) lv (.ref q :: st)) : J X nL Q ws cells slots pc lv (.int n :: st) := by
  obtain ⟨p, l, e, R, s, m, args, below, meth, c, D, A, cB, cI, cJ⟩ := X
  obtain ⟨hx, hb, hml, hown, hts, hA, hK, hlk, hrt, hR, hg⟩ := O; subst hg
  intro H locs ls hP hD hS hl
  subst hR
  have hKt := hK.2 1 _ rfl
  refine va_newa (atype := .int) hx hb (hts _ hm) rfl hK hP hD hS hA (N' := N') (a0 := (N', .inl (fun _ => 0))) (fun cA => by first | rfl | (show arrV _ _ _ = _; congr)) hn hN hby hcs hss d (fun q cA H1 hK1 hP1 hD1 hS1 => ?_)
  have h9 : va_RA s cA .int := (hK1.2 3 _ rfl).2
  have h8 := hKt.2
  have h7 : some cA = some _ := h9.symm.trans h8
  have h6 := Option.some.inj h7
  subst h6
  rw [show ws ++ [(q, _)] = ws' q from hw q] at hP1 hD1
  subst hc1; subst hs1
  exact k q H1 locs ls hP1 hD1 hS1 hl
theorem J_newJ (O : Jo X g cc nL own Ts R0 ret) (N' : Nat) {n : Int32} (hm : Cond.arrayClass .long ∈ Ts) (hn : ¬ n < 0) (hN : n.toNatClampNeg = N') (hby : N' * componentBytes .long ≤ 536870912) (hcs : cells + 1 ≤ R0.cells) (hss : slots + N' ≤ R0.slots) (d : decode cc pc = .ok (.newarray .long, 2)) (ws' : Nat → va_W) (hw : ∀ q : Nat, ws ++ [(q, .inl (g.2.2.2.2, N', .inr (.inl (fun _ => 0))))] = ws' q) (c' s' : Nat) (hc1 : cells + 1 = c') (hs1 : slots + N' = s') (k : ∀ q : Nat, J X nL Q (ws' q) c' s' (pc + 2) lv (.ref q :: st)) : J X nL Q ws cells slots pc lv (.int n :: st) := by
  obtain ⟨p, l, e, R, s, m, args, below, meth, c, D, A, cB, cI, cJ⟩ := X
  obtain ⟨hx, hb, hml, hown, hts, hA, hK, hlk, hrt, hR, hg⟩ := O; subst hg
  intro H locs ls hP hD hS hl
  subst hR
  have hKt := hK.2 2 _ rfl
  refine va_newa (atype := .long) hx hb (hts _ hm) rfl hK hP hD hS hA (N' := N') (a0 := (N', .inr (.inl (fun _ => 0)))) (fun cA => by first | rfl | (show arrV _ _ _ = _; congr)) hn hN hby hcs hss d (fun q cA H1 hK1 hP1 hD1 hS1 => ?_)
  have h9 : va_RA s cA .long := (hK1.2 3 _ rfl).2
  have h8 := hKt.2
  have h7 : some cA = some _ := h9.symm.trans h8
  have h6 := Option.some.inj h7
  subst h6
  rw [show ws ++ [(q, _)] = ws' q from hw q] at hP1 hD1
  subst hc1; subst hs1
  exact k q H1 locs ls hP1 hD1 hS1 hl
theorem J_newB (O : Jo X g cc nL own Ts R0 ret) (N' : Nat) {n : Int32} (hm : Cond.arrayClass .byte ∈ Ts) (hn : ¬ n < 0) (hN : n.toNatClampNeg = N') (hby : N' * componentBytes .byte ≤ 536870912) (hcs : cells + 1 ≤ R0.cells) (hss : slots + N' ≤ R0.slots) (d : decode cc pc = .ok (.newarray .byte, 2)) (ws' : Nat → va_W) (hw : ∀ q : Nat, ws ++ [(q, .inl (g.2.2.1, N', .inl (b8 (fun _ => 0))))] = ws' q) (c' s' : Nat) (hc1 : cells + 1 = c') (hs1 : slots + N' = s') (k : ∀ q : Nat, J X nL Q (ws' q) c' s' (pc + 2) lv (.ref q :: st)) : J X nL Q ws cells slots pc lv (.int n :: st) := by
  obtain ⟨p, l, e, R, s, m, args, below, meth, c, D, A, cB, cI, cJ⟩ := X
  obtain ⟨hx, hb, hml, hown, hts, hA, hK, hlk, hrt, hR, hg⟩ := O; subst hg
  intro H locs ls hP hD hS hl
  subst hR
  have hKt := hK.2 0 _ rfl
  refine va_newa (atype := .byte) hx hb (hts _ hm) rfl hK hP hD hS hA (N' := N') (a0 := (N', .inl (b8 (fun _ => 0)))) (fun cA => by first | rfl | (show arrV _ _ _ = _; congr)) hn hN hby hcs hss d (fun q cA H1 hK1 hP1 hD1 hS1 => ?_)
  have h9 : va_RA s cA .byte := (hK1.2 3 _ rfl).2
  have h8 := hKt.2
  have h7 : some cA = some _ := h9.symm.trans h8
  have h6 := Option.some.inj h7
  subst h6
  rw [show ws ++ [(q, _)] = ws' q from hw q] at hP1 hD1
  subst hc1; subst hs1
  exact k q H1 locs ls hP1 hD1 hS1 hl
theorem J_lif_eq (O : Jo X g cc nL own Ts R0 ret) {x y : Int64} {off : Int} {tgt : Nat} (d : decode cc pc = .ok (.lcmp, 1)) (d2 : decode cc (pc + 1) = .ok (.ifCond .eq off, 3)) (ht : ((pc + 1 : Nat) : Int) + off = (tgt : Int)) (kt : x = y → J X nL Q ws cells slots tgt lv st) (kf : ¬ x = y → J X nL Q ws cells slots (pc + 4) lv st) : J X nL Q ws cells slots pc lv (.long y :: .long x :: st) := by
  refine J_lcmp O d ?_
  refine J_if_eq O d2 ht (fun h => kt ((lc_eq x y).mp h)) (fun h => kf (by
    first | exact (lc_eq x y).mp h | exact fun q => h ((lc_eq x y).mpr q)))
theorem J_lif_ne (O : Jo X g cc nL own Ts R0 ret) {x y : Int64} {off : Int} {tgt : Nat} (d : decode cc pc = .ok (.lcmp, 1)) (d2 : decode cc (pc + 1) = .ok (.ifCond .ne off, 3)) (ht : ((pc + 1 : Nat) : Int) + off = (tgt : Int)) (kt : ¬ x = y → J X nL Q ws cells slots tgt lv st) (kf : x = y → J X nL Q ws cells slots (pc + 4) lv st) : J X nL Q ws cells slots pc lv (.long y :: .long x :: st) := by
  refine J_lcmp O d ?_
  refine J_if_ne O d2 ht (fun h => kt ((lc_ne x y).mp h)) (fun h => kf (by
    first | exact (lc_eq x y).mp h | exact fun q => h ((lc_ne x y).mpr q)))
theorem J_lif_lt (O : Jo X g cc nL own Ts R0 ret) {x y : Int64} {off : Int} {tgt : Nat} (d : decode cc pc = .ok (.lcmp, 1)) (d2 : decode cc (pc + 1) = .ok (.ifCond .lt off, 3)) (ht : ((pc + 1 : Nat) : Int) + off = (tgt : Int)) (kt : x < y → J X nL Q ws cells slots tgt lv st) (kf : ¬ x < y → J X nL Q ws cells slots (pc + 4) lv st) : J X nL Q ws cells slots pc lv (.long y :: .long x :: st) := by
  refine J_lcmp O d ?_
  refine J_if_lt O d2 ht (fun h => kt ((lc_lt x y).mp h)) (fun h => kf (by
    first | exact (lc_eq x y).mp h | exact fun q => h ((lc_lt x y).mpr q)))
theorem J_lif_ge (O : Jo X g cc nL own Ts R0 ret) {x y : Int64} {off : Int} {tgt : Nat} (d : decode cc pc = .ok (.lcmp, 1)) (d2 : decode cc (pc + 1) = .ok (.ifCond .ge off, 3)) (ht : ((pc + 1 : Nat) : Int) + off = (tgt : Int)) (kt : y ≤ x → J X nL Q ws cells slots tgt lv st) (kf : ¬ y ≤ x → J X nL Q ws cells slots (pc + 4) lv st) : J X nL Q ws cells slots pc lv (.long y :: .long x :: st) := by
  refine J_lcmp O d ?_
  refine J_if_ge O d2 ht (fun h => kt ((lc_ge x y).mp h)) (fun h => kf (by
    first | exact (lc_eq x y).mp h | exact fun q => h ((lc_ge x y).mpr q)))
theorem J_lif_gt (O : Jo X g cc nL own Ts R0 ret) {x y : Int64} {off : Int} {tgt : Nat} (d : decode cc pc = .ok (.lcmp, 1)) (d2 : decode cc (pc + 1) = .ok (.ifCond .gt off, 3)) (ht : ((pc + 1 : Nat) : Int) + off = (tgt : Int)) (kt : y < x → J X nL Q ws cells slots tgt lv st) (kf : ¬ y < x → J X nL Q ws cells slots (pc + 4) lv st) : J X nL Q ws cells slots pc lv (.long y :: .long x :: st) := by
  refine J_lcmp O d ?_
  refine J_if_gt O d2 ht (fun h => kt ((lc_gt x y).mp h)) (fun h => kf (by
    first | exact (lc_eq x y).mp h | exact fun q => h ((lc_gt x y).mpr q)))
theorem J_lif_le (O : Jo X g cc nL own Ts R0 ret) {x y : Int64} {off : Int} {tgt : Nat} (d : decode cc pc = .ok (.lcmp, 1)) (d2 : decode cc (pc + 1) = .ok (.ifCond .le off, 3)) (ht : ((pc + 1 : Nat) : Int) + off = (tgt : Int)) (kt : x ≤ y → J X nL Q ws cells slots tgt lv st) (kf : ¬ x ≤ y → J X nL Q ws cells slots (pc + 4) lv st) : J X nL Q ws cells slots pc lv (.long y :: .long x :: st) := by
  refine J_lcmp O d ?_
  refine J_if_le O d2 ht (fun h => kt ((lc_le x y).mp h)) (fun h => kf (by
    first | exact (lc_eq x y).mp h | exact fun q => h ((lc_le x y).mpr q)))
theorem J_zne (O : Jo X g cc nL own Ts R0 ret) {b : Bool} {off : Int} {tgt : Nat} (d : decode cc pc = .ok (.ifCond .ne off, 3)) (ht : (pc : Int) + off = (tgt : Int)) (kt : b = true → J X nL Q ws cells slots tgt lv st) (kf : ¬ b = true → J X nL Q ws cells slots (pc + 3) lv st) : J X nL Q ws cells slots pc lv (.int (bI b) :: st) :=
  J_if_ne O d ht (fun h => kt (by cases b; exact absurd rfl h; rfl)) (fun h => kf (by cases b; exact (fun q => by cases q); exact absurd h (by decide)))
theorem J_zeq (O : Jo X g cc nL own Ts R0 ret) {b : Bool} {off : Int} {tgt : Nat} (d : decode cc pc = .ok (.ifCond .eq off, 3)) (ht : (pc : Int) + off = (tgt : Int)) (kt : ¬ b = true → J X nL Q ws cells slots tgt lv st) (kf : b = true → J X nL Q ws cells slots (pc + 3) lv st) : J X nL Q ws cells slots pc lv (.int (bI b) :: st) :=
  J_if_eq O d ht (fun h => kt (by cases b; exact (fun q => by cases q); exact absurd h (by decide))) (fun h => kf (by cases b; exact absurd rfl h; rfl))
theorem tb_out {x : Int32} (N : Nat) (h : ∀ j : Nat, j < N → ¬ x = nI j) (hN : N < 2 ^ 31) : x.toInt < 0 ∨ (N : Int) - 1 < x.toInt := by
  by_cases h0 : x < 0
  · left
    have := Int32.lt_iff_toInt_lt.mp h0
    simpa using this
  · right
    obtain ⟨j, hj, rfl⟩ := nI_of h0
    rw [nI_toInt hj]
    by_cases hjN : j < N
    · exact absurd rfl (h j hjN)
    · omega
theorem J_tabOut (O : Jo X g cc nL own Ts R0 ret) {dflt hi : Int} {offs : Array Int} {len : Nat} {x : Int32} {tgt : Nat} (N : Nat) (h : ∀ j : Nat, j < N → ¬ x = nI j) (hN : N < 2 ^ 31) (hhi : (N : Int) - 1 = hi) (d : decode cc pc = .ok (.tableswitch dflt 0 hi offs, len)) (ht : (pc : Int) + dflt = (tgt : Int)) (k : J X nL Q ws cells slots tgt lv st) : J X nL Q ws cells slots pc lv (.int x :: st) := by
  subst hhi
  exact J_tableOut O d (tb_out N h hN) ht k
theorem J_tabK (O : Jo X g cc nL own Ts R0 ret) {dflt lo hi : Int} {offs : Array Int} {len : Nat} {x : Int32} {off : Int} {tgt : Nat} (k0 : Int32) (hx0 : x = k0) (h1 : ¬ k0.toInt < lo) (h2 : ¬ hi < k0.toInt) (ho : offs[(k0.toInt - lo).toNat]? = some off) (d : decode cc pc = .ok (.tableswitch dflt lo hi offs, len)) (ht : (pc : Int) + off = (tgt : Int)) (k : J X nL Q ws cells slots tgt lv st) : J X nL Q ws cells slots pc lv (.int x :: st) := by
  subst hx0
  exact J_tableIn O d h1 h2 ho ht k
theorem J_lookK (O : Jo X g cc nL own Ts R0 ret) {dflt : Int} {ps : Array (Int × Int)} {len : Nat} {x : Int32} {off : Int} {tgt : Nat} (k0 : Int32) (hx0 : x = k0) (d : decode cc pc = .ok (.lookupswitch dflt ps, len)) (hp : (ps.toList.zip (ps.toList.drop 1)).all (fun (a, next) => a.1 < next.1) = true) (ho : Op.lookupswitch.offset ps.toList dflt k0.toInt = off) (ht : (pc : Int) + off = (tgt : Int)) (k : J X nL Q ws cells slots tgt lv st) : J X nL Q ws cells slots pc lv (.int x :: st) := by
  subst hx0
  exact J_lookup O d hp ho ht k
end JR
end
section
/-! contracts of methods over the bundled walk -/
abbrev CPre (g : JG) (As : List Value) (w : va_W) (sz : Nat) : Array Value → State → Prop := va_Pc As (fun U => U.heap.size = sz ∧ va_P g.2.1 vwCl w U.heap ∧ va_K g.2.1 vwCl (Kt g.2.2.1 g.2.2.2.1 g.2.2.2.2) U ∧ va_D (fun _ => True) w)
abbrev CEnd (g : JG) (w' : va_W) (A : Nat → Prop) (t : State) : Prop := va_P g.2.1 vwCl w' t.heap ∧ va_K g.2.1 vwCl (Kt g.2.2.1 g.2.2.2.1 g.2.2.2.2) t ∧ va_D A w'
def Cv (g : JG) (y : MethodName) (ts : List Cond) (rm : Room) (As : List Value) (w w' : va_W) : Prop := ∀ sz : Nat, Met g.1 y ts rm (CPre g As w sz) (va_Qv (fun _ : Unit => True) (fun _ t => CEnd g w' (va_A w sz) t) (va_A w sz)) rm.cells rm.slots (va_A w sz)
def Ci (g : JG) (y : MethodName) (ts : List Cond) (rm : Room) (As : List Value) (w w' : va_W) (r : Int32) : Prop := ∀ sz : Nat, Met g.1 y ts rm (CPre g As w sz) (va_Qi (fun x (_ : Unit) => x = r) (fun _ t => CEnd g w' (va_A w sz) t) (va_A w sz)) rm.cells rm.slots (va_A w sz)
def Cl (g : JG) (y : MethodName) (ts : List Cond) (rm : Room) (As : List Value) (w w' : va_W) (r : Int64) : Prop := ∀ sz : Nat, Met g.1 y ts rm (CPre g As w sz) (va_Ql (fun x (_ : Unit) => x = r) (fun _ t => CEnd g w' (va_A w sz) t) (va_A w sz)) rm.cells rm.slots (va_A w sz)
def Cr (g : JG) (y : MethodName) (ts : List Cond) (rm : Room) (As : List Value) (w : va_W) (w' : Nat → va_W) : Prop := ∀ sz : Nat, Met g.1 y ts rm (CPre g As w sz) (va_Qr (fun _ : Unit => True) (fun _ a t => CEnd g (w' a) (va_A w sz) t) (va_A w sz)) rm.cells rm.slots (va_A w sz)
def JQv (X : JC) (w' : va_W) (mc ms : Nat) : State → Prop := match X with
  | (_, l, _, _, s, _, args, below, _, _, D, A, cB, cI, cJ) => MQ below (va_Qv (fun _ : Unit => True) (fun _ t => CEnd (l, D, cB, cI, cJ) w' A t) A) args s mc ms A
def JQi (X : JC) (w' : va_W) (r : Int32) (mc ms : Nat) : State → Prop := match X with
  | (_, l, _, _, s, _, args, below, _, _, D, A, cB, cI, cJ) => MQ below (va_Qi (fun x (_ : Unit) => x = r) (fun _ t => CEnd (l, D, cB, cI, cJ) w' A t) A) args s mc ms A
def JQl (X : JC) (w' : va_W) (r : Int64) (mc ms : Nat) : State → Prop := match X with
  | (_, l, _, _, s, _, args, below, _, _, D, A, cB, cI, cJ) => MQ below (va_Ql (fun x (_ : Unit) => x = r) (fun _ t => CEnd (l, D, cB, cI, cJ) w' A t) A) args s mc ms A
def JQr (X : JC) (w' : Nat → va_W) (mc ms : Nat) : State → Prop := match X with
  | (_, l, _, _, s, _, args, below, _, _, D, A, cB, cI, cJ) => MQ below (va_Qr (fun _ : Unit => True) (fun _ a t => CEnd (l, D, cB, cI, cJ) (w' a) A t) A) args s mc ms A
section CR
variable {X : JC} {g : JG} {cc : ByteArray} {nL : Nat} {own : String} {Ts ts : List Cond} {R0 rm : Room} {ret : Option FieldType} {Q : State → Prop} {ws w w' : va_W} {cells slots pc mc ms : Nat} {lv : List (Nat × Value)} {st : List Value} {y : MethodName} {As : List Value}
theorem J_vret (O : Jo X g cc nL own Ts R0 none) (d : decode cc pc = .ok (.return_, 1)) : J X nL (JQv X ws cells slots) ws cells slots pc lv [] := by
  obtain ⟨p, l, e, R, s, m, args, below, meth, c, D, A, cB, cI, cJ⟩ := X
  obtain ⟨hx, hb, hml, hown, hts, hA, hK, hlk, hrt, hR, hg⟩ := O; subst hg
  intro H locs ls hP hD hS hl
  exact W.vret hx hb hrt (fun t ht hW => ⟨⟨(), rfl, trivial, by rw [ht]; exact hP, va_K.moved hW.alike hK, hD⟩, hS.F ht⟩) hS.2.2 d hlk
theorem J_iret (O : Jo X g cc nL own Ts R0 (some .int)) {v r : Int32} (hv : v = r) (d : decode cc pc = .ok (.ireturn, 1)) : J X nL (JQi X ws r cells slots) ws cells slots pc lv [.int v] := by
  obtain ⟨p, l, e, R, s, m, args, below, meth, c, D, A, cB, cI, cJ⟩ := X
  obtain ⟨hx, hb, hml, hown, hts, hA, hK, hlk, hrt, hR, hg⟩ := O; subst hg
  intro H locs ls hP hD hS hl
  exact W.iret hx hb hrt (fun t ht hW => ⟨⟨v, (), rfl, hv, by rw [ht]; exact hP, va_K.moved hW.alike hK, hD⟩, hS.F ht⟩) hS.2.2 d hlk
theorem bI_nar (b : Bool) : narrow .boolean (.int (bI b)) = .int (bI b) := by cases b <;> rfl
theorem J_zret (O : Jo X g cc nL own Ts R0 (some .boolean)) {v : Int32} {r : Bool} (hv : v = bI r) (d : decode cc pc = .ok (.ireturn, 1)) : J X nL (JQi X ws (bI r) cells slots) ws cells slots pc lv [.int v] := by
  obtain ⟨p, l, e, R, s, m, args, below, meth, c, D, A, cB, cI, cJ⟩ := X
  obtain ⟨hx, hb, hml, hown, hts, hA, hK, hlk, hrt, hR, hg⟩ := O; subst hg
  intro H locs ls hP hD hS hl
  subst hv
  exact W.zret hx hb hrt (bI_nar r) (fun t ht hW => ⟨⟨bI r, (), rfl, rfl, by rw [ht]; exact hP, va_K.moved hW.alike hK, hD⟩, hS.F ht⟩) hS.2.2 d hlk
theorem J_lret (O : Jo X g cc nL own Ts R0 (some .long)) {v r : Int64} (hv : v = r) (d : decode cc pc = .ok (.lreturn, 1)) : J X nL (JQl X ws r cells slots) ws cells slots pc lv [.long v] := by
  obtain ⟨p, l, e, R, s, m, args, below, meth, c, D, A, cB, cI, cJ⟩ := X
  obtain ⟨hx, hb, hml, hown, hts, hA, hK, hlk, hrt, hR, hg⟩ := O; subst hg
  intro H locs ls hP hD hS hl
  exact W.lret hx hb hrt (fun t ht hW => ⟨⟨v, (), rfl, hv, by rw [ht]; exact hP, va_K.moved hW.alike hK, hD⟩, hS.F ht⟩) hS.2.2 d hlk
theorem J_aret {nm : String} (O : Jo X g cc nL own Ts R0 (some (.object nm))) {a : Nat} (W' : Nat → va_W) (hw : ws = W' a) (d : decode cc pc = .ok (.areturn, 1)) : J X nL (JQr X W' cells slots) ws cells slots pc lv [.ref a] := by
  obtain ⟨p, l, e, R, s, m, args, below, meth, c, D, A, cB, cI, cJ⟩ := X
  obtain ⟨hx, hb, hml, hown, hts, hA, hK, hlk, hrt, hR, hg⟩ := O; subst hg
  subst hw
  intro H locs ls hP hD hS hl
  exact W.aret hx hb hrt (Or.inl ⟨nm, rfl⟩) (Or.inr ⟨a, rfl⟩) (fun t ht hW => ⟨⟨(), a, rfl, trivial, by rw [ht]; exact hP, va_K.moved hW.alike hK, hD⟩, hS.F ht⟩) hS.2.2 d hlk
theorem Cv_of {ts' : List Cond} (hy : plainName y.cls = true) (ho : y.cls = own) (hw : ts = Cond.code y cc nL ret :: ts') (hn : (lg_sl As).length ≤ nL) (h : ∀ X : JC, Jo X g cc nL own ts rm ret → (y.name = "<init>" → Jnm X) → J X nL (JQv X w' rm.cells rm.slots) w 0 0 0 (lv_args 0 As) []) : Cv g y ts rm As w w'  := by
  obtain ⟨l, D, cB, cI, cJ⟩ := g
  intro sz
  refine Met.ofW (cc := cc) (maxL := nL) (ret := ret) hy hw ?_
  intro p e s m args below meth c s₁ B hml hv
  obtain ⟨rfl, hsz, hP, hK, hD0⟩ := hv
  subst hsz
  have hts := atoms_spec (ws := ts) B.pre
  have hown : s.vm.findClass y.cls = some m.cls := findClass_of_methodNamed B.named
  rw [ho] at hown
  have hD := hD0.self (sz := s.heap.size)
  have h1 := h (p, l, e, rm, s, m, As.toArray, below, meth, c, D, va_A w s.heap.size, cB, cI, cJ) ⟨B.exec, B.bytes, hml, hown, hts, fun q h => Or.inr h, hK, B.notSynchronized, B.returns, rfl, rfl⟩ (fun h9 => (name_of_methodNamed B.named B.method).1.trans h9)
  have hl := lv_entry As (n := nL) hn
  rw [lg_entry_eq]
  exact h1 s.heap [] _ hP hD va_S.rf hl
theorem Ci_of {r : Int32} {ts' : List Cond} (hy : plainName y.cls = true) (ho : y.cls = own) (hw : ts = Cond.code y cc nL ret :: ts') (hn : (lg_sl As).length ≤ nL) (h : ∀ X : JC, Jo X g cc nL own ts rm ret → (y.name = "<init>" → Jnm X) → J X nL (JQi X w' r rm.cells rm.slots) w 0 0 0 (lv_args 0 As) []) : Ci g y ts rm As w w' r := by
  obtain ⟨l, D, cB, cI, cJ⟩ := g
  intro sz
  refine Met.ofW (cc := cc) (maxL := nL) (ret := ret) hy hw ?_
  intro p e s m args below meth c s₁ B hml hv
  obtain ⟨rfl, hsz, hP, hK, hD0⟩ := hv
  subst hsz
  have hts := atoms_spec (ws := ts) B.pre
  have hown : s.vm.findClass y.cls = some m.cls := findClass_of_methodNamed B.named
  rw [ho] at hown
  have hD := hD0.self (sz := s.heap.size)
  have h1 := h (p, l, e, rm, s, m, As.toArray, below, meth, c, D, va_A w s.heap.size, cB, cI, cJ) ⟨B.exec, B.bytes, hml, hown, hts, fun q h => Or.inr h, hK, B.notSynchronized, B.returns, rfl, rfl⟩ (fun h9 => (name_of_methodNamed B.named B.method).1.trans h9)
  have hl := lv_entry As (n := nL) hn
  rw [lg_entry_eq]
  exact h1 s.heap [] _ hP hD va_S.rf hl
theorem Cl_of {r : Int64} {ts' : List Cond} (hy : plainName y.cls = true) (ho : y.cls = own) (hw : ts = Cond.code y cc nL ret :: ts') (hn : (lg_sl As).length ≤ nL) (h : ∀ X : JC, Jo X g cc nL own ts rm ret → (y.name = "<init>" → Jnm X) → J X nL (JQl X w' r rm.cells rm.slots) w 0 0 0 (lv_args 0 As) []) : Cl g y ts rm As w w' r := by
  obtain ⟨l, D, cB, cI, cJ⟩ := g
  intro sz
  refine Met.ofW (cc := cc) (maxL := nL) (ret := ret) hy hw ?_
  intro p e s m args below meth c s₁ B hml hv
  obtain ⟨rfl, hsz, hP, hK, hD0⟩ := hv
  subst hsz
  have hts := atoms_spec (ws := ts) B.pre
  have hown : s.vm.findClass y.cls = some m.cls := findClass_of_methodNamed B.named
  rw [ho] at hown
  have hD := hD0.self (sz := s.heap.size)
  have h1 := h (p, l, e, rm, s, m, As.toArray, below, meth, c, D, va_A w s.heap.size, cB, cI, cJ) ⟨B.exec, B.bytes, hml, hown, hts, fun q h => Or.inr h, hK, B.notSynchronized, B.returns, rfl, rfl⟩ (fun h9 => (name_of_methodNamed B.named B.method).1.trans h9)
  have hl := lv_entry As (n := nL) hn
  rw [lg_entry_eq]
  exact h1 s.heap [] _ hP hD va_S.rf hl
theorem Cr_of {W' : Nat → va_W} {ts' : List Cond} (hy : plainName y.cls = true) (ho : y.cls = own) (hw : ts = Cond.code y cc nL ret :: ts') (hn : (lg_sl As).length ≤ nL) (h : ∀ X : JC, Jo X g cc nL own ts rm ret → (y.name = "<init>" → Jnm X) → J X nL (JQr X W' rm.cells rm.slots) w 0 0 0 (lv_args 0 As) []) : Cr g y ts rm As w W'  := by
  obtain ⟨l, D, cB, cI, cJ⟩ := g
  intro sz
  refine Met.ofW (cc := cc) (maxL := nL) (ret := ret) hy hw ?_
  intro p e s m args below meth c s₁ B hml hv
  obtain ⟨rfl, hsz, hP, hK, hD0⟩ := hv
  subst hsz
  have hts := atoms_spec (ws := ts) B.pre
  have hown : s.vm.findClass y.cls = some m.cls := findClass_of_methodNamed B.named
  rw [ho] at hown
  have hD := hD0.self (sz := s.heap.size)
  have h1 := h (p, l, e, rm, s, m, As.toArray, below, meth, c, D, va_A w s.heap.size, cB, cI, cJ) ⟨B.exec, B.bytes, hml, hown, hts, fun q h => Or.inr h, hK, B.notSynchronized, B.returns, rfl, rfl⟩ (fun h9 => (name_of_methodNamed B.named B.method).1.trans h9)
  have hl := lv_entry As (n := nL) hn
  rw [lg_entry_eq]
  exact h1 s.heap [] _ hP hD va_S.rf hl
theorem J_callVv (O : Jo X g cc nL own Ts R0 ret) {bytes : ByteArray} {maxL idx : Nat} {ret' : Option FieldType} {ts' : List Cond} {b ci : Nat} {C : String} {F : u_T} {N n : Nat} (hM : Cv g y ts rm (.ref b :: As) w w' ) (hc : ts = Cond.code y bytes maxL ret' :: ts') (q0 : Nat) {fs : List Value} (hr : w[q0]? = some (b, .inr (ci, fs))) (hci : vwCl[ci]? = some (C, F, N)) (hG : GoodIn Ts (wsV own idx C y ts)) (hd : y.cls = C ∧ y.cls ≠ "java/lang/invoke/MethodHandle" ∧ y.cls ≠ "java/lang/invoke/VarHandle" ∧ (parseMethodDescriptor y.desc).map (fun d => d.parameters.length) = some n) (hRm : rm.frames + 1 ≤ R0.frames ∧ 8 + (maxL + 11) + rm.locals ≤ R0.locals) (hAn : As.length = n) {st0 : List Value} (hst : st0 = As.reverse ++ .ref b :: st) (hcat : (st.map fun v => v.category).sum ≤ 8) (isC isR : List Nat) (hC1 : isC.filterMap (fun i => ws[i]?) = w) (hC2 : isC.map (fun i => ws[i]?) = w.map some) (hCn : va_nd isC = true) (hR2 : isR.map (fun i => ws[i]?) = (isR.filterMap (fun i => ws[i]?)).map some) (hRn : va_nd isR = true) (hdis : ∀ i ∈ isR, i ∉ isC) (wz : va_W) (is2 : List Nat) (hn2 : va_nd is2 = true) (h2 : is2.filterMap (fun i => ((isR.filterMap (fun i => ws[i]?)) ++ w')[i]?) = wz) (h3 : is2.map (fun i => ((isR.filterMap (fun i => ws[i]?)) ++ w')[i]?) = wz.map some) (c' s' : Nat) (hc1 : cells + rm.cells ≤ c') (hs1 : slots + rm.slots ≤ s') (hcs : c' ≤ R0.cells ∧ s' ≤ R0.slots) (d : decode cc pc = .ok (.invokevirtual idx, 3)) (k : J X nL Q wz c' s' (pc + 3) lv (st)) : J X nL Q ws cells slots pc lv st0 := by
  obtain ⟨p, l, e, R, s, m, args, below, meth, c, D, A, cB, cI, cJ⟩ := X
  obtain ⟨hx, hb, hml, hown, hts, hA, hK, hlk, hrt, hR, hg⟩ := O; subst hg; subst hR
  subst hst
  intro H locs ls hP hD hS hl
  have hPc : va_P D vwCl w H := hP.sub isC hC1
  have hDc : va_D A w := hD.sub isC hCn hC2
  have hFc := va_free (wc := w) hD hS hA isC hC2
  have bl : FrameBlind (CPre (l, D, cB, cI, cJ) (.ref b :: As) w H.size) := fun a U g mk q => by
    obtain ⟨q0, q1, qP, qK, qD⟩ := q
    exact ⟨q0, q1, qP, va_K.moved (u := U) (U := U.calling g mk a) (Vm.Alike.refl U.vm) qK, qD⟩
  have pr : ∀ U : State, U.heap = H → s.WarmedH U.vm → CPre (l, D, cB, cI, cJ) (.ref b :: As) w H.size (.ref b :: As).toArray U := fun U hU hW => ⟨rfl, by rw [hU], by rw [hU]; exact hPc, va_K.moved hW.alike hK, hDc.weaken (fun _ _ _ _ => trivial)⟩
  refine va_callv (va_runV (As := As) (rest := st) ⟨hx, hb, hml, hown, hts⟩ (hM H.size) (cwV n hts hG hc rfl rfl hd hRm) ⟨bl, va_recv hK hPc hci hr, pr⟩ rfl hAn hl.1 rfl (lv_room hcat) d ⟨Nat.le_trans hc1 hcs.1, Nat.le_trans hs1 hcs.2⟩) hS (fun q _ h => hFc q h) hFc (fun u t H1 locs1 ht hvm hw hB hz1 hk1 hS1 => ?_)
  obtain ⟨hP1, hK1, hD1⟩ := hB
  rw [ht] at hP1
  obtain ⟨hP2, hD2⟩ := va_join hP hD isC isR hC2 hR2 hRn hdis hk1 hFc hP1 hD1
  exact W.widen hc1 hs1 (k H1 locs1 ls (hP2.sub is2 (h2)) (hD2.sub is2 hn2 (h3)) hS1 hl)
theorem J_callSv (O : Jo X g cc nL own Ts R0 ret) {bytes : ByteArray} {maxL idx : Nat} {ret' : Option FieldType} {ts' : List Cond} {n : Nat} (hM : Cv g y ts rm As w w' ) (hc : ts = Cond.code y bytes maxL ret' :: ts') (hG : GoodIn Ts (va_wsS own idx y ts)) (hd : y.cls ≠ "java/lang/invoke/MethodHandle" ∧ y.cls ≠ "java/lang/invoke/VarHandle" ∧ (parseMethodDescriptor y.desc).map (fun d => d.parameters.length) = some n) (hRm : rm.frames + 1 ≤ R0.frames ∧ 8 + (maxL + 11) + rm.locals ≤ R0.locals) (hAn : As.length = n) {st0 : List Value} (hst : st0 = As.reverse ++ st) (hcat : (st.map fun v => v.category).sum ≤ 8) (isC isR : List Nat) (hC1 : isC.filterMap (fun i => ws[i]?) = w) (hC2 : isC.map (fun i => ws[i]?) = w.map some) (hCn : va_nd isC = true) (hR2 : isR.map (fun i => ws[i]?) = (isR.filterMap (fun i => ws[i]?)).map some) (hRn : va_nd isR = true) (hdis : ∀ i ∈ isR, i ∉ isC) (wz : va_W) (is2 : List Nat) (hn2 : va_nd is2 = true) (h2 : is2.filterMap (fun i => ((isR.filterMap (fun i => ws[i]?)) ++ w')[i]?) = wz) (h3 : is2.map (fun i => ((isR.filterMap (fun i => ws[i]?)) ++ w')[i]?) = wz.map some) (c' s' : Nat) (hc1 : cells + rm.cells ≤ c') (hs1 : slots + rm.slots ≤ s') (hcs : c' ≤ R0.cells ∧ s' ≤ R0.slots) (d : decode cc pc = .ok (.invokestatic idx, 3)) (k : J X nL Q wz c' s' (pc + 3) lv (st)) : J X nL Q ws cells slots pc lv st0 := by
  obtain ⟨p, l, e, R, s, m, args, below, meth, c, D, A, cB, cI, cJ⟩ := X
  obtain ⟨hx, hb, hml, hown, hts, hA, hK, hlk, hrt, hR, hg⟩ := O; subst hg; subst hR
  subst hst
  intro H locs ls hP hD hS hl
  have hPc : va_P D vwCl w H := hP.sub isC hC1
  have hDc : va_D A w := hD.sub isC hCn hC2
  have hFc := va_free (wc := w) hD hS hA isC hC2
  have bl : FrameBlind (CPre (l, D, cB, cI, cJ) As w H.size) := fun a U g mk q => by
    obtain ⟨q0, q1, qP, qK, qD⟩ := q
    exact ⟨q0, q1, qP, va_K.moved (u := U) (U := U.calling g mk a) (Vm.Alike.refl U.vm) qK, qD⟩
  have pr : ∀ U : State, U.heap = H → s.WarmedH U.vm → CPre (l, D, cB, cI, cJ) As w H.size As.toArray U := fun U hU hW => ⟨rfl, by rw [hU], by rw [hU]; exact hPc, va_K.moved hW.alike hK, hDc.weaken (fun _ _ _ _ => trivial)⟩
  refine va_callv (va_runS (As := As) (rest := st) ⟨hx, hb, hml, hown, hts⟩ (hM H.size) (va_cwS n hts hG hc rfl rfl hd hRm) ⟨bl, pr⟩ rfl hAn hl.1 rfl (lv_room hcat) d ⟨Nat.le_trans hc1 hcs.1, Nat.le_trans hs1 hcs.2⟩) hS (fun q _ h => hFc q h) hFc (fun u t H1 locs1 ht hvm hw hB hz1 hk1 hS1 => ?_)
  obtain ⟨hP1, hK1, hD1⟩ := hB
  rw [ht] at hP1
  obtain ⟨hP2, hD2⟩ := va_join hP hD isC isR hC2 hR2 hRn hdis hk1 hFc hP1 hD1
  exact W.widen hc1 hs1 (k H1 locs1 ls (hP2.sub is2 (h2)) (hD2.sub is2 hn2 (h3)) hS1 hl)
theorem J_callIv (O : Jo X g cc nL own Ts R0 ret) {bytes : ByteArray} {maxL idx : Nat} {ret' : Option FieldType} {ts' : List Cond} {b n : Nat} (hM : Cv g y ts rm (.ref b :: As) w w' ) (hc : ts = Cond.code y bytes maxL none :: ts') (hG : GoodIn Ts ts) (hm1 : Cond.initialized y.cls ∈ Ts) (hm2 : Cond.methodLink own idx y ∈ Ts) (hm3 : Cond.instanceMethod y ∈ Ts) (hyn : y.name = "<init>") (hd : y.cls ≠ "java/lang/invoke/MethodHandle" ∧ y.cls ≠ "java/lang/invoke/VarHandle" ∧ (parseMethodDescriptor y.desc).map (fun d => d.parameters.length) = some n) (hRm : rm.frames + 1 ≤ R0.frames ∧ 8 + (maxL + 11) + rm.locals ≤ R0.locals) (hAn : As.length = n) {st0 : List Value} (hst : st0 = As.reverse ++ .ref b :: st) (hcat : (st.map fun v => v.category).sum ≤ 8) (isC isR : List Nat) (hC1 : isC.filterMap (fun i => ws[i]?) = w) (hC2 : isC.map (fun i => ws[i]?) = w.map some) (hCn : va_nd isC = true) (hR2 : isR.map (fun i => ws[i]?) = (isR.filterMap (fun i => ws[i]?)).map some) (hRn : va_nd isR = true) (hdis : ∀ i ∈ isR, i ∉ isC) (wz : va_W) (is2 : List Nat) (hn2 : va_nd is2 = true) (h2 : is2.filterMap (fun i => ((isR.filterMap (fun i => ws[i]?)) ++ w')[i]?) = wz) (h3 : is2.map (fun i => ((isR.filterMap (fun i => ws[i]?)) ++ w')[i]?) = wz.map some) (c' s' : Nat) (hc1 : cells + rm.cells ≤ c') (hs1 : slots + rm.slots ≤ s') (hcs : c' ≤ R0.cells ∧ s' ≤ R0.slots) (d : decode cc pc = .ok (.invokespecial idx, 3)) (k : J X nL Q wz c' s' (pc + 3) lv (st)) : J X nL Q ws cells slots pc lv st0 := by
  obtain ⟨p, l, e, R, s, m, args, below, meth, c, D, A, cB, cI, cJ⟩ := X
  obtain ⟨hx, hb, hml, hown, hts, hA, hK, hlk, hrt, hR, hg⟩ := O; subst hg; subst hR
  subst hst
  intro H locs ls hP hD hS hl
  have hPc : va_P D vwCl w H := hP.sub isC hC1
  have hDc : va_D A w := hD.sub isC hCn hC2
  have hFc := va_free (wc := w) hD hS hA isC hC2
  have bl : FrameBlind (CPre (l, D, cB, cI, cJ) (.ref b :: As) w H.size) := fun a U g mk q => by
    obtain ⟨q0, q1, qP, qK, qD⟩ := q
    exact ⟨q0, q1, qP, va_K.moved (u := U) (U := U.calling g mk a) (Vm.Alike.refl U.vm) qK, qD⟩
  have pr : ∀ U : State, U.heap = H → s.WarmedH U.vm → CPre (l, D, cB, cI, cJ) (.ref b :: As) w H.size (.ref b :: As).toArray U := fun U hU hW => ⟨rfl, by rw [hU], by rw [hU]; exact hPc, va_K.moved hW.alike hK, hDc.weaken (fun _ _ _ _ => trivial)⟩
  refine va_callv (va_runI (As := As) (rest := st) ⟨hx, hb, hml, hown, hts⟩ (hM H.size) (cwI n hts hG hc rfl rfl (hts _ hm1) (hts _ hm2) (hts _ hm3) hyn hd hRm) ⟨bl, pr⟩ rfl hAn hl.1 rfl (lv_room hcat) d ⟨Nat.le_trans hc1 hcs.1, Nat.le_trans hs1 hcs.2⟩) hS (fun q _ h => hFc q h) hFc (fun u t H1 locs1 ht hvm hw hB hz1 hk1 hS1 => ?_)
  obtain ⟨hP1, hK1, hD1⟩ := hB
  rw [ht] at hP1
  obtain ⟨hP2, hD2⟩ := va_join hP hD isC isR hC2 hR2 hRn hdis hk1 hFc hP1 hD1
  exact W.widen hc1 hs1 (k H1 locs1 ls (hP2.sub is2 (h2)) (hD2.sub is2 hn2 (h3)) hS1 hl)
theorem J_callVi (O : Jo X g cc nL own Ts R0 ret) {bytes : ByteArray} {maxL idx : Nat} {ret' : Option FieldType} {ts' : List Cond} {r : Int32} {b ci : Nat} {C : String} {F : u_T} {N n : Nat} (hM : Ci g y ts rm (.ref b :: As) w w' r) (hc : ts = Cond.code y bytes maxL ret' :: ts') (q0 : Nat) {fs : List Value} (hr : w[q0]? = some (b, .inr (ci, fs))) (hci : vwCl[ci]? = some (C, F, N)) (hG : GoodIn Ts (wsV own idx C y ts)) (hd : y.cls = C ∧ y.cls ≠ "java/lang/invoke/MethodHandle" ∧ y.cls ≠ "java/lang/invoke/VarHandle" ∧ (parseMethodDescriptor y.desc).map (fun d => d.parameters.length) = some n) (hRm : rm.frames + 1 ≤ R0.frames ∧ 8 + (maxL + 11) + rm.locals ≤ R0.locals) (hAn : As.length = n) {st0 : List Value} (hst : st0 = As.reverse ++ .ref b :: st) (hcat : (st.map fun v => v.category).sum ≤ 8) (isC isR : List Nat) (hC1 : isC.filterMap (fun i => ws[i]?) = w) (hC2 : isC.map (fun i => ws[i]?) = w.map some) (hCn : va_nd isC = true) (hR2 : isR.map (fun i => ws[i]?) = (isR.filterMap (fun i => ws[i]?)).map some) (hRn : va_nd isR = true) (hdis : ∀ i ∈ isR, i ∉ isC) (wz : va_W) (is2 : List Nat) (hn2 : va_nd is2 = true) (h2 : is2.filterMap (fun i => ((isR.filterMap (fun i => ws[i]?)) ++ w')[i]?) = wz) (h3 : is2.map (fun i => ((isR.filterMap (fun i => ws[i]?)) ++ w')[i]?) = wz.map some) (c' s' : Nat) (hc1 : cells + rm.cells ≤ c') (hs1 : slots + rm.slots ≤ s') (hcs : c' ≤ R0.cells ∧ s' ≤ R0.slots) (d : decode cc pc = .ok (.invokevirtual idx, 3)) (k : J X nL Q wz c' s' (pc + 3) lv (.int r :: st)) : J X nL Q ws cells slots pc lv st0 := by
  obtain ⟨p, l, e, R, s, m, args, below, meth, c, D, A, cB, cI, cJ⟩ := X
  obtain ⟨hx, hb, hml, hown, hts, hA, hK, hlk, hrt, hR, hg⟩ := O; subst hg; subst hR
  subst hst
  intro H locs ls hP hD hS hl
  have hPc : va_P D vwCl w H := hP.sub isC hC1
  have hDc : va_D A w := hD.sub isC hCn hC2
  have hFc := va_free (wc := w) hD hS hA isC hC2
  have bl : FrameBlind (CPre (l, D, cB, cI, cJ) (.ref b :: As) w H.size) := fun a U g mk q => by
    obtain ⟨q0, q1, qP, qK, qD⟩ := q
    exact ⟨q0, q1, qP, va_K.moved (u := U) (U := U.calling g mk a) (Vm.Alike.refl U.vm) qK, qD⟩
  have pr : ∀ U : State, U.heap = H → s.WarmedH U.vm → CPre (l, D, cB, cI, cJ) (.ref b :: As) w H.size (.ref b :: As).toArray U := fun U hU hW => ⟨rfl, by rw [hU], by rw [hU]; exact hPc, va_K.moved hW.alike hK, hDc.weaken (fun _ _ _ _ => trivial)⟩
  refine va_calli (va_runV (As := As) (rest := st) ⟨hx, hb, hml, hown, hts⟩ (hM H.size) (cwV n hts hG hc rfl rfl hd hRm) ⟨bl, va_recv hK hPc hci hr, pr⟩ rfl hAn hl.1 rfl (lv_room hcat) d ⟨Nat.le_trans hc1 hcs.1, Nat.le_trans hs1 hcs.2⟩) hS (fun q _ h => hFc q h) hFc (fun r1 u t H1 locs1 ht hvm hw hB hz1 hk1 hS1 => ?_)
  obtain ⟨hP1, hK1, hD1⟩ := hB
  subst hw
  rw [ht] at hP1
  obtain ⟨hP2, hD2⟩ := va_join hP hD isC isR hC2 hR2 hRn hdis hk1 hFc hP1 hD1
  exact W.widen hc1 hs1 (k H1 locs1 ls (hP2.sub is2 (h2)) (hD2.sub is2 hn2 (h3)) hS1 hl)
theorem J_callSi (O : Jo X g cc nL own Ts R0 ret) {bytes : ByteArray} {maxL idx : Nat} {ret' : Option FieldType} {ts' : List Cond} {r : Int32} {n : Nat} (hM : Ci g y ts rm As w w' r) (hc : ts = Cond.code y bytes maxL ret' :: ts') (hG : GoodIn Ts (va_wsS own idx y ts)) (hd : y.cls ≠ "java/lang/invoke/MethodHandle" ∧ y.cls ≠ "java/lang/invoke/VarHandle" ∧ (parseMethodDescriptor y.desc).map (fun d => d.parameters.length) = some n) (hRm : rm.frames + 1 ≤ R0.frames ∧ 8 + (maxL + 11) + rm.locals ≤ R0.locals) (hAn : As.length = n) {st0 : List Value} (hst : st0 = As.reverse ++ st) (hcat : (st.map fun v => v.category).sum ≤ 8) (isC isR : List Nat) (hC1 : isC.filterMap (fun i => ws[i]?) = w) (hC2 : isC.map (fun i => ws[i]?) = w.map some) (hCn : va_nd isC = true) (hR2 : isR.map (fun i => ws[i]?) = (isR.filterMap (fun i => ws[i]?)).map some) (hRn : va_nd isR = true) (hdis : ∀ i ∈ isR, i ∉ isC) (wz : va_W) (is2 : List Nat) (hn2 : va_nd is2 = true) (h2 : is2.filterMap (fun i => ((isR.filterMap (fun i => ws[i]?)) ++ w')[i]?) = wz) (h3 : is2.map (fun i => ((isR.filterMap (fun i => ws[i]?)) ++ w')[i]?) = wz.map some) (c' s' : Nat) (hc1 : cells + rm.cells ≤ c') (hs1 : slots + rm.slots ≤ s') (hcs : c' ≤ R0.cells ∧ s' ≤ R0.slots) (d : decode cc pc = .ok (.invokestatic idx, 3)) (k : J X nL Q wz c' s' (pc + 3) lv (.int r :: st)) : J X nL Q ws cells slots pc lv st0 := by
  obtain ⟨p, l, e, R, s, m, args, below, meth, c, D, A, cB, cI, cJ⟩ := X
  obtain ⟨hx, hb, hml, hown, hts, hA, hK, hlk, hrt, hR, hg⟩ := O; subst hg; subst hR
  subst hst
  intro H locs ls hP hD hS hl
  have hPc : va_P D vwCl w H := hP.sub isC hC1
  have hDc : va_D A w := hD.sub isC hCn hC2
  have hFc := va_free (wc := w) hD hS hA isC hC2
  have bl : FrameBlind (CPre (l, D, cB, cI, cJ) As w H.size) := fun a U g mk q => by
    obtain ⟨q0, q1, qP, qK, qD⟩ := q
    exact ⟨q0, q1, qP, va_K.moved (u := U) (U := U.calling g mk a) (Vm.Alike.refl U.vm) qK, qD⟩
  have pr : ∀ U : State, U.heap = H → s.WarmedH U.vm → CPre (l, D, cB, cI, cJ) As w H.size As.toArray U := fun U hU hW => ⟨rfl, by rw [hU], by rw [hU]; exact hPc, va_K.moved hW.alike hK, hDc.weaken (fun _ _ _ _ => trivial)⟩
  refine va_calli (va_runS (As := As) (rest := st) ⟨hx, hb, hml, hown, hts⟩ (hM H.size) (va_cwS n hts hG hc rfl rfl hd hRm) ⟨bl, pr⟩ rfl hAn hl.1 rfl (lv_room hcat) d ⟨Nat.le_trans hc1 hcs.1, Nat.le_trans hs1 hcs.2⟩) hS (fun q _ h => hFc q h) hFc (fun r1 u t H1 locs1 ht hvm hw hB hz1 hk1 hS1 => ?_)
  obtain ⟨hP1, hK1, hD1⟩ := hB
  subst hw
  rw [ht] at hP1
  obtain ⟨hP2, hD2⟩ := va_join hP hD isC isR hC2 hR2 hRn hdis hk1 hFc hP1 hD1
  exact W.widen hc1 hs1 (k H1 locs1 ls (hP2.sub is2 (h2)) (hD2.sub is2 hn2 (h3)) hS1 hl)
theorem J_callVl (O : Jo X g cc nL own Ts R0 ret) {bytes : ByteArray} {maxL idx : Nat} {ret' : Option FieldType} {ts' : List Cond} {r : Int64} {b ci : Nat} {C : String} {F : u_T} {N n : Nat} (hM : Cl g y ts rm (.ref b :: As) w w' r) (hc : ts = Cond.code y bytes maxL ret' :: ts') (q0 : Nat) {fs : List Value} (hr : w[q0]? = some (b, .inr (ci, fs))) (hci : vwCl[ci]? = some (C, F, N)) (hG : GoodIn Ts (wsV own idx C y ts)) (hd : y.cls = C ∧ y.cls ≠ "java/lang/invoke/MethodHandle" ∧ y.cls ≠ "java/lang/invoke/VarHandle" ∧ (parseMethodDescriptor y.desc).map (fun d => d.parameters.length) = some n) (hRm : rm.frames + 1 ≤ R0.frames ∧ 8 + (maxL + 11) + rm.locals ≤ R0.locals) (hAn : As.length = n) {st0 : List Value} (hst : st0 = As.reverse ++ .ref b :: st) (hcat : (st.map fun v => v.category).sum ≤ 8) (isC isR : List Nat) (hC1 : isC.filterMap (fun i => ws[i]?) = w) (hC2 : isC.map (fun i => ws[i]?) = w.map some) (hCn : va_nd isC = true) (hR2 : isR.map (fun i => ws[i]?) = (isR.filterMap (fun i => ws[i]?)).map some) (hRn : va_nd isR = true) (hdis : ∀ i ∈ isR, i ∉ isC) (wz : va_W) (is2 : List Nat) (hn2 : va_nd is2 = true) (h2 : is2.filterMap (fun i => ((isR.filterMap (fun i => ws[i]?)) ++ w')[i]?) = wz) (h3 : is2.map (fun i => ((isR.filterMap (fun i => ws[i]?)) ++ w')[i]?) = wz.map some) (c' s' : Nat) (hc1 : cells + rm.cells ≤ c') (hs1 : slots + rm.slots ≤ s') (hcs : c' ≤ R0.cells ∧ s' ≤ R0.slots) (d : decode cc pc = .ok (.invokevirtual idx, 3)) (k : J X nL Q wz c' s' (pc + 3) lv (.long r :: st)) : J X nL Q ws cells slots pc lv st0 := by
  obtain ⟨p, l, e, R, s, m, args, below, meth, c, D, A, cB, cI, cJ⟩ := X
  obtain ⟨hx, hb, hml, hown, hts, hA, hK, hlk, hrt, hR, hg⟩ := O; subst hg; subst hR
  subst hst
  intro H locs ls hP hD hS hl
  have hPc : va_P D vwCl w H := hP.sub isC hC1
  have hDc : va_D A w := hD.sub isC hCn hC2
  have hFc := va_free (wc := w) hD hS hA isC hC2
  have bl : FrameBlind (CPre (l, D, cB, cI, cJ) (.ref b :: As) w H.size) := fun a U g mk q => by
    obtain ⟨q0, q1, qP, qK, qD⟩ := q
    exact ⟨q0, q1, qP, va_K.moved (u := U) (U := U.calling g mk a) (Vm.Alike.refl U.vm) qK, qD⟩
  have pr : ∀ U : State, U.heap = H → s.WarmedH U.vm → CPre (l, D, cB, cI, cJ) (.ref b :: As) w H.size (.ref b :: As).toArray U := fun U hU hW => ⟨rfl, by rw [hU], by rw [hU]; exact hPc, va_K.moved hW.alike hK, hDc.weaken (fun _ _ _ _ => trivial)⟩
  refine va_calll (va_runV (As := As) (rest := st) ⟨hx, hb, hml, hown, hts⟩ (hM H.size) (cwV n hts hG hc rfl rfl hd hRm) ⟨bl, va_recv hK hPc hci hr, pr⟩ rfl hAn hl.1 rfl (lv_room hcat) d ⟨Nat.le_trans hc1 hcs.1, Nat.le_trans hs1 hcs.2⟩) hS (fun q _ h => hFc q h) hFc (fun r1 u t H1 locs1 ht hvm hw hB hz1 hk1 hS1 => ?_)
  obtain ⟨hP1, hK1, hD1⟩ := hB
  subst hw
  rw [ht] at hP1
  obtain ⟨hP2, hD2⟩ := va_join hP hD isC isR hC2 hR2 hRn hdis hk1 hFc hP1 hD1
  exact W.widen hc1 hs1 (k H1 locs1 ls (hP2.sub is2 (h2)) (hD2.sub is2 hn2 (h3)) hS1 hl)
theorem J_callSl (O : Jo X g cc nL own Ts R0 ret) {bytes : ByteArray} {maxL idx : Nat} {ret' : Option FieldType} {ts' : List Cond} {r : Int64} {n : Nat} (hM : Cl g y ts rm As w w' r) (hc : ts = Cond.code y bytes maxL ret' :: ts') (hG : GoodIn Ts (va_wsS own idx y ts)) (hd : y.cls ≠ "java/lang/invoke/MethodHandle" ∧ y.cls ≠ "java/lang/invoke/VarHandle" ∧ (parseMethodDescriptor y.desc).map (fun d => d.parameters.length) = some n) (hRm : rm.frames + 1 ≤ R0.frames ∧ 8 + (maxL + 11) + rm.locals ≤ R0.locals) (hAn : As.length = n) {st0 : List Value} (hst : st0 = As.reverse ++ st) (hcat : (st.map fun v => v.category).sum ≤ 8) (isC isR : List Nat) (hC1 : isC.filterMap (fun i => ws[i]?) = w) (hC2 : isC.map (fun i => ws[i]?) = w.map some) (hCn : va_nd isC = true) (hR2 : isR.map (fun i => ws[i]?) = (isR.filterMap (fun i => ws[i]?)).map some) (hRn : va_nd isR = true) (hdis : ∀ i ∈ isR, i ∉ isC) (wz : va_W) (is2 : List Nat) (hn2 : va_nd is2 = true) (h2 : is2.filterMap (fun i => ((isR.filterMap (fun i => ws[i]?)) ++ w')[i]?) = wz) (h3 : is2.map (fun i => ((isR.filterMap (fun i => ws[i]?)) ++ w')[i]?) = wz.map some) (c' s' : Nat) (hc1 : cells + rm.cells ≤ c') (hs1 : slots + rm.slots ≤ s') (hcs : c' ≤ R0.cells ∧ s' ≤ R0.slots) (d : decode cc pc = .ok (.invokestatic idx, 3)) (k : J X nL Q wz c' s' (pc + 3) lv (.long r :: st)) : J X nL Q ws cells slots pc lv st0 := by
  obtain ⟨p, l, e, R, s, m, args, below, meth, c, D, A, cB, cI, cJ⟩ := X
  obtain ⟨hx, hb, hml, hown, hts, hA, hK, hlk, hrt, hR, hg⟩ := O; subst hg; subst hR
  subst hst
  intro H locs ls hP hD hS hl
  have hPc : va_P D vwCl w H := hP.sub isC hC1
  have hDc : va_D A w := hD.sub isC hCn hC2
  have hFc := va_free (wc := w) hD hS hA isC hC2
  have bl : FrameBlind (CPre (l, D, cB, cI, cJ) As w H.size) := fun a U g mk q => by
    obtain ⟨q0, q1, qP, qK, qD⟩ := q
    exact ⟨q0, q1, qP, va_K.moved (u := U) (U := U.calling g mk a) (Vm.Alike.refl U.vm) qK, qD⟩
  have pr : ∀ U : State, U.heap = H → s.WarmedH U.vm → CPre (l, D, cB, cI, cJ) As w H.size As.toArray U := fun U hU hW => ⟨rfl, by rw [hU], by rw [hU]; exact hPc, va_K.moved hW.alike hK, hDc.weaken (fun _ _ _ _ => trivial)⟩
  refine va_calll (va_runS (As := As) (rest := st) ⟨hx, hb, hml, hown, hts⟩ (hM H.size) (va_cwS n hts hG hc rfl rfl hd hRm) ⟨bl, pr⟩ rfl hAn hl.1 rfl (lv_room hcat) d ⟨Nat.le_trans hc1 hcs.1, Nat.le_trans hs1 hcs.2⟩) hS (fun q _ h => hFc q h) hFc (fun r1 u t H1 locs1 ht hvm hw hB hz1 hk1 hS1 => ?_)
  obtain ⟨hP1, hK1, hD1⟩ := hB
  subst hw
  rw [ht] at hP1
  obtain ⟨hP2, hD2⟩ := va_join hP hD isC isR hC2 hR2 hRn hdis hk1 hFc hP1 hD1
  exact W.widen hc1 hs1 (k H1 locs1 ls (hP2.sub is2 (h2)) (hD2.sub is2 hn2 (h3)) hS1 hl)
theorem J_callVr (O : Jo X g cc nL own Ts R0 ret) {bytes : ByteArray} {maxL idx : Nat} {ret' : Option FieldType} {ts' : List Cond} {W' : Nat → va_W} {b ci : Nat} {C : String} {F : u_T} {N n : Nat} (hM : Cr g y ts rm (.ref b :: As) w W' ) (hc : ts = Cond.code y bytes maxL ret' :: ts') (q0 : Nat) {fs : List Value} (hr : w[q0]? = some (b, .inr (ci, fs))) (hci : vwCl[ci]? = some (C, F, N)) (hG : GoodIn Ts (wsV own idx C y ts)) (hd : y.cls = C ∧ y.cls ≠ "java/lang/invoke/MethodHandle" ∧ y.cls ≠ "java/lang/invoke/VarHandle" ∧ (parseMethodDescriptor y.desc).map (fun d => d.parameters.length) = some n) (hRm : rm.frames + 1 ≤ R0.frames ∧ 8 + (maxL + 11) + rm.locals ≤ R0.locals) (hAn : As.length = n) {st0 : List Value} (hst : st0 = As.reverse ++ .ref b :: st) (hcat : (st.map fun v => v.category).sum ≤ 8) (isC isR : List Nat) (hC1 : isC.filterMap (fun i => ws[i]?) = w) (hC2 : isC.map (fun i => ws[i]?) = w.map some) (hCn : va_nd isC = true) (hR2 : isR.map (fun i => ws[i]?) = (isR.filterMap (fun i => ws[i]?)).map some) (hRn : va_nd isR = true) (hdis : ∀ i ∈ isR, i ∉ isC) (wz : Nat → va_W) (is2 : List Nat) (hn2 : va_nd is2 = true) (h2 : ∀ a : Nat, is2.filterMap (fun i => ((isR.filterMap (fun i => ws[i]?)) ++ W' a)[i]?) = wz a) (h3 : ∀ a : Nat, is2.map (fun i => ((isR.filterMap (fun i => ws[i]?)) ++ W' a)[i]?) = (wz a).map some) (c' s' : Nat) (hc1 : cells + rm.cells ≤ c') (hs1 : slots + rm.slots ≤ s') (hcs : c' ≤ R0.cells ∧ s' ≤ R0.slots) (d : decode cc pc = .ok (.invokevirtual idx, 3)) (k : ∀ a : Nat, J X nL Q (wz a) c' s' (pc + 3) lv (.ref a :: st)) : J X nL Q ws cells slots pc lv st0 := by
  obtain ⟨p, l, e, R, s, m, args, below, meth, c, D, A, cB, cI, cJ⟩ := X
  obtain ⟨hx, hb, hml, hown, hts, hA, hK, hlk, hrt, hR, hg⟩ := O; subst hg; subst hR
  subst hst
  intro H locs ls hP hD hS hl
  have hPc : va_P D vwCl w H := hP.sub isC hC1
  have hDc : va_D A w := hD.sub isC hCn hC2
  have hFc := va_free (wc := w) hD hS hA isC hC2
  have bl : FrameBlind (CPre (l, D, cB, cI, cJ) (.ref b :: As) w H.size) := fun a U g mk q => by
    obtain ⟨q0, q1, qP, qK, qD⟩ := q
    exact ⟨q0, q1, qP, va_K.moved (u := U) (U := U.calling g mk a) (Vm.Alike.refl U.vm) qK, qD⟩
  have pr : ∀ U : State, U.heap = H → s.WarmedH U.vm → CPre (l, D, cB, cI, cJ) (.ref b :: As) w H.size (.ref b :: As).toArray U := fun U hU hW => ⟨rfl, by rw [hU], by rw [hU]; exact hPc, va_K.moved hW.alike hK, hDc.weaken (fun _ _ _ _ => trivial)⟩
  refine va_callr (va_runV (As := As) (rest := st) ⟨hx, hb, hml, hown, hts⟩ (hM H.size) (cwV n hts hG hc rfl rfl hd hRm) ⟨bl, va_recv hK hPc hci hr, pr⟩ rfl hAn hl.1 rfl (lv_room hcat) d ⟨Nat.le_trans hc1 hcs.1, Nat.le_trans hs1 hcs.2⟩) hS (fun q _ h => hFc q h) hFc (fun u a t H1 locs1 ht hvm hw hB hz1 hk1 hS1 => ?_)
  obtain ⟨hP1, hK1, hD1⟩ := hB
  rw [ht] at hP1
  obtain ⟨hP2, hD2⟩ := va_join hP hD isC isR hC2 hR2 hRn hdis hk1 hFc hP1 hD1
  exact W.widen hc1 hs1 (k a H1 locs1 ls (hP2.sub is2 (h2 a)) (hD2.sub is2 hn2 (h3 a)) hS1 hl)
theorem J_callSr (O : Jo X g cc nL own Ts R0 ret) {bytes : ByteArray} {maxL idx : Nat} {ret' : Option FieldType} {ts' : List Cond} {W' : Nat → va_W} {n : Nat} (hM : Cr g y ts rm As w W' ) (hc : ts = Cond.code y bytes maxL ret' :: ts') (hG : GoodIn Ts (va_wsS own idx y ts)) (hd : y.cls ≠ "java/lang/invoke/MethodHandle" ∧ y.cls ≠ "java/lang/invoke/VarHandle" ∧ (parseMethodDescriptor y.desc).map (fun d => d.parameters.length) = some n) (hRm : rm.frames + 1 ≤ R0.frames ∧ 8 + (maxL + 11) + rm.locals ≤ R0.locals) (hAn : As.length = n) {st0 : List Value} (hst : st0 = As.reverse ++ st) (hcat : (st.map fun v => v.category).sum ≤ 8) (isC isR : List Nat) (hC1 : isC.filterMap (fun i => ws[i]?) = w) (hC2 : isC.map (fun i => ws[i]?) = w.map some) (hCn : va_nd isC = true) (hR2 : isR.map (fun i => ws[i]?) = (isR.filterMap (fun i => ws[i]?)).map some) (hRn : va_nd isR = true) (hdis : ∀ i ∈ isR, i ∉ isC) (wz : Nat → va_W) (is2 : List Nat) (hn2 : va_nd is2 = true) (h2 : ∀ a : Nat, is2.filterMap (fun i => ((isR.filterMap (fun i => ws[i]?)) ++ W' a)[i]?) = wz a) (h3 : ∀ a : Nat, is2.map (fun i => ((isR.filterMap (fun i => ws[i]?)) ++ W' a)[i]?) = (wz a).map some) (c' s' : Nat) (hc1 : cells + rm.cells ≤ c') (hs1 : slots + rm.slots ≤ s') (hcs : c' ≤ R0.cells ∧ s' ≤ R0.slots) (d : decode cc pc = .ok (.invokestatic idx, 3)) (k : ∀ a : Nat, J X nL Q (wz a) c' s' (pc + 3) lv (.ref a :: st)) : J X nL Q ws cells slots pc lv st0 := by
  obtain ⟨p, l, e, R, s, m, args, below, meth, c, D, A, cB, cI, cJ⟩ := X
  obtain ⟨hx, hb, hml, hown, hts, hA, hK, hlk, hrt, hR, hg⟩ := O; subst hg; subst hR
  subst hst
  intro H locs ls hP hD hS hl
  have hPc : va_P D vwCl w H := hP.sub isC hC1
  have hDc : va_D A w := hD.sub isC hCn hC2
  have hFc := va_free (wc := w) hD hS hA isC hC2
  have bl : FrameBlind (CPre (l, D, cB, cI, cJ) As w H.size) := fun a U g mk q => by
    obtain ⟨q0, q1, qP, qK, qD⟩ := q
    exact ⟨q0, q1, qP, va_K.moved (u := U) (U := U.calling g mk a) (Vm.Alike.refl U.vm) qK, qD⟩
  have pr : ∀ U : State, U.heap = H → s.WarmedH U.vm → CPre (l, D, cB, cI, cJ) As w H.size As.toArray U := fun U hU hW => ⟨rfl, by rw [hU], by rw [hU]; exact hPc, va_K.moved hW.alike hK, hDc.weaken (fun _ _ _ _ => trivial)⟩
  refine va_callr (va_runS (As := As) (rest := st) ⟨hx, hb, hml, hown, hts⟩ (hM H.size) (va_cwS n hts hG hc rfl rfl hd hRm) ⟨bl, pr⟩ rfl hAn hl.1 rfl (lv_room hcat) d ⟨Nat.le_trans hc1 hcs.1, Nat.le_trans hs1 hcs.2⟩) hS (fun q _ h => hFc q h) hFc (fun u a t H1 locs1 ht hvm hw hB hz1 hk1 hS1 => ?_)
  obtain ⟨hP1, hK1, hD1⟩ := hB
  rw [ht] at hP1
  obtain ⟨hP2, hD2⟩ := va_join hP hD isC isR hC2 hR2 hRn hdis hk1 hFc hP1 hD1
  exact W.widen hc1 hs1 (k a H1 locs1 ls (hP2.sub is2 (h2 a)) (hD2.sub is2 hn2 (h3 a)) hS1 hl)
end CR
end
