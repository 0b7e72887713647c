/-! the words of the law and of what it calls, in lw_tbl by their places -/
theorem tb_0 {i : Nat} {w : Cond} (h : (k2_sels lw_privs)[i]? = some w) : w ∈ lw_tbl := List.mem_append_left _ (List.mem_of_getElem? h)
theorem tb_1 {i : Nat} {w : Cond} (h : tables_1_1[i]? = some w) : w ∈ lw_tbl := List.mem_append_right _ (List.mem_append_left _ (List.mem_of_getElem? h))
theorem tb_2 {i : Nat} {w : Cond} (h : tables_1_2[i]? = some w) : w ∈ lw_tbl := List.mem_append_right _ (List.mem_append_right _ (List.mem_append_left _ (List.mem_of_getElem? h)))
theorem tb_3 {i : Nat} {w : Cond} (h : tables_1_3[i]? = some w) : w ∈ lw_tbl := List.mem_append_right _ (List.mem_append_right _ (List.mem_append_right _ (List.mem_append_left _ (List.mem_of_getElem? h))))
theorem tb_4 {i : Nat} {w : Cond} (h : tables_1_4[i]? = some w) : w ∈ lw_tbl := List.mem_append_right _ (List.mem_append_right _ (List.mem_append_right _ (List.mem_append_right _ (List.mem_of_getElem? h))))
theorem inT_i0 : ∀ w ∈ wsX00, w ∈ lw_tbl := by decide +kernel
theorem inT_i1 : ∀ w ∈ wsX10, w ∈ lw_tbl := by decide +kernel
theorem inT_i3 : ∀ w ∈ wsX30, w ∈ lw_tbl := by decide +kernel
theorem inT_i5 : ∀ w ∈ wsX50, w ∈ lw_tbl := by decide +kernel
theorem inT_i6 : ∀ w ∈ wsX60, w ∈ lw_tbl := by decide +kernel
theorem inT_i9 : ∀ w ∈ wsX90, w ∈ lw_tbl := by decide +kernel
theorem inT_i10 : ∀ w ∈ wsX100, w ∈ lw_tbl := by decide +kernel
theorem tq_0 : Cond.code yX9_init cX9_init 1 none ∈ lw_tbl := tb_1 (i := 18) rfl
theorem tq_1 : Cond.methodLink RX9 3 objectInit ∈ lw_tbl := tb_1 (i := 19) rfl
theorem tq_2 : Cond.instanceMethod objectInit ∈ lw_tbl := tb_1 (i := 20) rfl
theorem tq_3 : Cond.code objectInit ⟨#[0xb1]⟩ 1 none ∈ lw_tbl := tb_1 (i := 21) rfl
theorem tq_4 : Cond.classLink RX9 9 RX6 ∈ lw_tbl := tb_1 (i := 22) rfl
theorem tq_5 : Cond.instantiable RX6 2 ∈ lw_tbl := tb_1 (i := 23) rfl
theorem tq_6 : Cond.initialized RX6 ∈ lw_tbl := tb_1 (i := 2) rfl
theorem tq_7 : Cond.fieldLink RX9 14 "BlorbRows" "tape" "LBlorbRows$Row;" ∈ lw_tbl := tb_1 (i := 101) rfl
theorem tq_8 : Cond.fieldLink RX9 18 "BlorbRows" "outRow" "LBlorbRows$Row;" ∈ lw_tbl := tb_1 (i := 102) rfl
theorem tq_9 : Cond.classLink RX9 21 RX0 ∈ lw_tbl := tb_1 (i := 43) rfl
theorem tq_10 : Cond.instantiable RX0 8 ∈ lw_tbl := tb_1 (i := 44) rfl
theorem tq_11 : Cond.initialized RX0 ∈ lw_tbl := tb_1 (i := 4) rfl
theorem tq_12 : Cond.fieldLink RX9 24 "BlorbRows" "house" "LBlorbRows$House;" ∈ lw_tbl := tb_1 (i := 103) rfl
theorem tq_13 : Cond.classLink RX9 28 RX1 ∈ lw_tbl := tb_1 (i := 84) rfl
theorem tq_14 : Cond.instantiable RX1 3 ∈ lw_tbl := tb_1 (i := 85) rfl
theorem tq_15 : Cond.initialized RX1 ∈ lw_tbl := tb_1 (i := 5) rfl
theorem tq_16 : Cond.fieldLink RX9 31 "BlorbRows" "judge" "LBlorbRows$Judge;" ∈ lw_tbl := tb_1 (i := 104) rfl
theorem tq_17 : Cond.fieldLink RX9 35 "BlorbRows" "faultPlace" "I" ∈ lw_tbl := tb_1 (i := 105) rfl
theorem tq_18 : Cond.methodLink RX9 11 yX6_init ∈ lw_tbl := tb_1 (i := 24) rfl
theorem tq_19 : Cond.instanceMethod yX6_init ∈ lw_tbl := tb_1 (i := 25) rfl
theorem tq_20 : Cond.code yX6_init cX6_init 2 none ∈ lw_tbl := tb_1 (i := 26) rfl
theorem tq_21 : Cond.methodLink RX6 1 objectInit ∈ lw_tbl := tb_1 (i := 27) rfl
theorem tq_22 : Cond.methodLink RX6 7 Lib.Math.max.name ∈ lw_tbl := tb_1 (i := 28) rfl
theorem tq_23 : Cond.static Lib.Math.max.name ∈ lw_tbl := tb_1 (i := 29) rfl
theorem tq_24 : Cond.initialized "java/lang/Math" ∈ lw_tbl := tb_1 (i := 3) rfl
theorem wkX9_init_r1 : ∀ w ∈ wsX9_init_r1, w ∈ lw_tbl := List.forall_mem_cons.mpr ⟨tq_1, List.forall_mem_cons.mpr ⟨tq_2, List.forall_mem_cons.mpr ⟨tq_3, List.forall_mem_cons.mpr ⟨tq_4, List.forall_mem_cons.mpr ⟨tq_5, List.forall_mem_cons.mpr ⟨tq_6, List.forall_mem_cons.mpr ⟨tq_7, List.forall_mem_cons.mpr ⟨tq_8, List.forall_mem_cons.mpr ⟨tq_9, List.forall_mem_cons.mpr ⟨tq_10, List.forall_mem_cons.mpr ⟨tq_11, List.forall_mem_cons.mpr ⟨tq_12, List.forall_mem_cons.mpr ⟨tq_13, List.forall_mem_cons.mpr ⟨tq_14, List.forall_mem_cons.mpr ⟨tq_15, List.forall_mem_cons.mpr ⟨tq_16, List.forall_mem_cons.mpr ⟨tq_17, List.forall_mem_cons.mpr ⟨tq_18, List.forall_mem_cons.mpr ⟨tq_19, List.forall_mem_cons.mpr ⟨tq_20, List.forall_mem_cons.mpr ⟨tq_21, List.forall_mem_cons.mpr ⟨tq_22, List.forall_mem_cons.mpr ⟨tq_23, List.forall_mem_cons.mpr ⟨tq_24, fun _ h => absurd h List.not_mem_nil⟩⟩⟩⟩⟩⟩⟩⟩⟩⟩⟩⟩⟩⟩⟩⟩⟩⟩⟩⟩⟩⟩⟩⟩
theorem tq_25 : Cond.code Lib.Math.max.name Lib.Math.max.code 2 (some .int) ∈ lw_tbl := tb_1 (i := 30) rfl
theorem tq_26 : Cond.arrayClass .byte ∈ lw_tbl := tb_1 (i := 42) rfl
theorem tq_27 : Cond.fieldLink RX6 13 "BlorbRows$Row" "octets" "[B" ∈ lw_tbl := tb_1 (i := 31) rfl
theorem tq_28 : Cond.fieldLink RX6 19 "BlorbRows$Row" "length" "I" ∈ lw_tbl := tb_1 (i := 34) rfl
theorem tq_29 : Cond.methodLink RX9 23 yX0_init ∈ lw_tbl := tb_1 (i := 45) rfl
theorem tq_30 : Cond.instanceMethod yX0_init ∈ lw_tbl := tb_1 (i := 46) rfl
theorem tq_31 : Cond.code yX0_init cX0_init 1 none ∈ lw_tbl := tb_1 (i := 47) rfl
theorem tq_32 : Cond.methodLink RX0 3 objectInit ∈ lw_tbl := tb_1 (i := 48) rfl
theorem tq_33 : Cond.classLink RX0 9 RX6 ∈ lw_tbl := tb_1 (i := 49) rfl
theorem tq_34 : Cond.fieldLink RX0 14 "BlorbRows$House" "data" "LBlorbRows$Row;" ∈ lw_tbl := tb_1 (i := 51) rfl
theorem tq_35 : Cond.arrayClass .int ∈ lw_tbl := tb_1 (i := 82) rfl
theorem tq_36 : Cond.fieldLink RX0 20 "BlorbRows$House" "kinds" "[I" ∈ lw_tbl := tb_1 (i := 53) rfl
theorem tq_37 : Cond.fieldLink RX0 24 "BlorbRows$House" "starts" "[I" ∈ lw_tbl := tb_1 (i := 54) rfl
theorem tq_38 : Cond.fieldLink RX0 27 "BlorbRows$House" "chunks" "I" ∈ lw_tbl := tb_1 (i := 55) rfl
theorem tq_39 : Cond.fieldLink RX0 31 "BlorbRows$House" "uses" "[I" ∈ lw_tbl := tb_1 (i := 57) rfl
theorem tq_40 : Cond.arrayClass .long ∈ lw_tbl := tb_1 (i := 83) rfl
theorem tq_41 : Cond.fieldLink RX0 34 "BlorbRows$House" "numbers" "[J" ∈ lw_tbl := tb_1 (i := 59) rfl
theorem tq_42 : Cond.fieldLink RX0 38 "BlorbRows$House" "targets" "[I" ∈ lw_tbl := tb_1 (i := 61) rfl
theorem tq_43 : Cond.fieldLink RX0 41 "BlorbRows$House" "entries" "I" ∈ lw_tbl := tb_1 (i := 63) rfl
theorem tq_44 : Cond.methodLink RX0 11 yX6_init ∈ lw_tbl := tb_1 (i := 50) rfl
theorem tq_45 : Cond.methodLink RX9 30 yX1_init ∈ lw_tbl := tb_1 (i := 86) rfl
theorem tq_46 : Cond.instanceMethod yX1_init ∈ lw_tbl := tb_1 (i := 87) rfl
theorem tq_47 : Cond.code yX1_init cX1_init 1 none ∈ lw_tbl := tb_1 (i := 88) rfl
theorem tq_48 : Cond.methodLink RX1 3 objectInit ∈ lw_tbl := tb_1 (i := 89) rfl
theorem wkX9_init_r2 : ∀ w ∈ wsX9_init_r2, w ∈ lw_tbl := List.forall_mem_cons.mpr ⟨tq_25, List.forall_mem_cons.mpr ⟨tq_26, List.forall_mem_cons.mpr ⟨tq_27, List.forall_mem_cons.mpr ⟨tq_28, List.forall_mem_cons.mpr ⟨tq_29, List.forall_mem_cons.mpr ⟨tq_30, List.forall_mem_cons.mpr ⟨tq_31, List.forall_mem_cons.mpr ⟨tq_32, List.forall_mem_cons.mpr ⟨tq_33, List.forall_mem_cons.mpr ⟨tq_34, List.forall_mem_cons.mpr ⟨tq_35, List.forall_mem_cons.mpr ⟨tq_36, List.forall_mem_cons.mpr ⟨tq_37, List.forall_mem_cons.mpr ⟨tq_38, List.forall_mem_cons.mpr ⟨tq_39, List.forall_mem_cons.mpr ⟨tq_40, List.forall_mem_cons.mpr ⟨tq_41, List.forall_mem_cons.mpr ⟨tq_42, List.forall_mem_cons.mpr ⟨tq_43, List.forall_mem_cons.mpr ⟨tq_44, List.forall_mem_cons.mpr ⟨tq_45, List.forall_mem_cons.mpr ⟨tq_46, List.forall_mem_cons.mpr ⟨tq_47, List.forall_mem_cons.mpr ⟨tq_48, fun _ h => absurd h List.not_mem_nil⟩⟩⟩⟩⟩⟩⟩⟩⟩⟩⟩⟩⟩⟩⟩⟩⟩⟩⟩⟩⟩⟩⟩⟩
theorem tq_49 : Cond.fieldLink RX1 9 "BlorbRows$Judge" "places" "[I" ∈ lw_tbl := tb_1 (i := 90) rfl
theorem tq_50 : Cond.fieldLink RX1 15 "BlorbRows$Judge" "pieces" "I" ∈ lw_tbl := tb_1 (i := 91) rfl
theorem tq_51 : Cond.fieldLink RX1 19 "BlorbRows$Judge" "faultAt" "I" ∈ lw_tbl := tb_1 (i := 92) rfl
theorem wkX9_init_r3 : ∀ w ∈ wsX9_init_r3, w ∈ lw_tbl := List.forall_mem_cons.mpr ⟨tq_49, List.forall_mem_cons.mpr ⟨tq_50, List.forall_mem_cons.mpr ⟨tq_51, fun _ h => absurd h List.not_mem_nil⟩⟩⟩
set_option maxRecDepth 20000 in
theorem gwX9_init : GoodIn lw_tbl wsX9_init := goodIn_sub (List.forall_mem_cons.mpr ⟨tq_0, (List.forall_mem_append.mpr ⟨(List.forall_mem_append.mpr ⟨(List.forall_mem_append.mpr ⟨(List.forall_mem_append.mpr ⟨(List.forall_mem_append.mpr ⟨wkX9_init_r1, (List.forall_mem_append.mpr ⟨wkX9_init_r2, wkX9_init_r3⟩)⟩), inT_i6⟩), inT_i9⟩), inT_i0⟩), inT_i1⟩)⟩) (by decide +kernel)
theorem tq_52 : Cond.code yX10_init cX10_init 1 none ∈ lw_tbl := tb_3 (i := 115) rfl
theorem tq_53 : Cond.methodLink RX10 1 objectInit ∈ lw_tbl := tb_3 (i := 116) rfl
theorem tq_54 : Cond.fieldLink RX10 7 "BlorbRowsModel" "tape" "[I" ∈ lw_tbl := tb_3 (i := 117) rfl
theorem tq_55 : Cond.fieldLink RX10 13 "BlorbRowsModel" "data" "[I" ∈ lw_tbl := tb_3 (i := 119) rfl
theorem tq_56 : Cond.fieldLink RX10 16 "BlorbRowsModel" "kind" "[I" ∈ lw_tbl := tb_3 (i := 121) rfl
theorem tq_57 : Cond.fieldLink RX10 19 "BlorbRowsModel" "size" "[I" ∈ lw_tbl := tb_3 (i := 122) rfl
theorem tq_58 : Cond.fieldLink RX10 22 "BlorbRowsModel" "use" "[I" ∈ lw_tbl := tb_3 (i := 124) rfl
theorem tq_59 : Cond.fieldLink RX10 25 "BlorbRowsModel" "number" "[J" ∈ lw_tbl := tb_3 (i := 125) rfl
theorem tq_60 : Cond.fieldLink RX10 29 "BlorbRowsModel" "means" "[I" ∈ lw_tbl := tb_3 (i := 126) rfl
theorem tq_61 : Cond.fieldLink RX10 32 "BlorbRowsModel" "outRow" "[I" ∈ lw_tbl := tb_3 (i := 128) rfl
theorem tq_62 : Cond.fieldLink RX10 35 "BlorbRowsModel" "faultAt" "I" ∈ lw_tbl := tb_3 (i := 130) rfl
theorem tq_63 : Cond.fieldLink RX10 39 "BlorbRowsModel" "where" "[I" ∈ lw_tbl := tb_3 (i := 132) rfl
set_option maxRecDepth 20000 in
theorem gwX10_init : GoodIn lw_tbl wsX10_init := goodIn_sub (List.forall_mem_cons.mpr ⟨tq_52, (List.forall_mem_append.mpr ⟨(List.forall_mem_cons.mpr ⟨tq_53, List.forall_mem_cons.mpr ⟨tq_2, List.forall_mem_cons.mpr ⟨tq_3, List.forall_mem_cons.mpr ⟨tq_35, List.forall_mem_cons.mpr ⟨tq_54, List.forall_mem_cons.mpr ⟨tq_55, List.forall_mem_cons.mpr ⟨tq_56, List.forall_mem_cons.mpr ⟨tq_57, List.forall_mem_cons.mpr ⟨tq_58, List.forall_mem_cons.mpr ⟨tq_40, List.forall_mem_cons.mpr ⟨tq_59, List.forall_mem_cons.mpr ⟨tq_60, List.forall_mem_cons.mpr ⟨tq_61, List.forall_mem_cons.mpr ⟨tq_62, List.forall_mem_cons.mpr ⟨tq_63, fun _ h => absurd h List.not_mem_nil⟩⟩⟩⟩⟩⟩⟩⟩⟩⟩⟩⟩⟩⟩⟩), inT_i10⟩)⟩) (by decide +kernel)
theorem tq_64 : Cond.code yX9_feed cX9_feed 4 (some .int) ∈ lw_tbl := tb_1 (i := 120) rfl
theorem tq_65 : Cond.fieldLink RX9 47 "BlorbRows$Row" "length" "I" ∈ lw_tbl := tb_1 (i := 35) rfl
theorem tq_66 : Cond.methodLink RX9 39 yX6_room ∈ lw_tbl := tb_1 (i := 121) rfl
theorem tq_67 : Cond.instanceMethod yX6_room ∈ lw_tbl := tb_1 (i := 122) rfl
theorem tq_68 : Cond.selects RX6 yX6_room yX6_room ∈ lw_tbl := tb_1 (i := 123) rfl
theorem tq_69 : Cond.code yX6_room cX6_room 1 (some .int) ∈ lw_tbl := tb_1 (i := 124) rfl
theorem tq_70 : Cond.methodLink RX9 43 yX6_append ∈ lw_tbl := tb_1 (i := 125) rfl
theorem tq_71 : Cond.instanceMethod yX6_append ∈ lw_tbl := tb_1 (i := 126) rfl
theorem tq_72 : Cond.selects RX6 yX6_append yX6_append ∈ lw_tbl := tb_1 (i := 127) rfl
theorem tq_73 : Cond.code yX6_append cX6_append 5 none ∈ lw_tbl := tb_1 (i := 128) rfl
theorem tq_74 : Cond.methodLink RX6 28 yX6_room ∈ lw_tbl := tb_1 (i := 129) rfl
set_option maxRecDepth 20000 in
theorem gwX9_feed : GoodIn lw_tbl wsX9_feed := goodIn_sub (List.forall_mem_cons.mpr ⟨tq_64, (List.forall_mem_append.mpr ⟨(List.forall_mem_append.mpr ⟨(List.forall_mem_cons.mpr ⟨tq_7, List.forall_mem_cons.mpr ⟨tq_65, List.forall_mem_cons.mpr ⟨tq_66, List.forall_mem_cons.mpr ⟨tq_67, List.forall_mem_cons.mpr ⟨tq_68, List.forall_mem_cons.mpr ⟨tq_6, List.forall_mem_cons.mpr ⟨tq_69, List.forall_mem_cons.mpr ⟨tq_27, List.forall_mem_cons.mpr ⟨tq_28, List.forall_mem_cons.mpr ⟨tq_70, List.forall_mem_cons.mpr ⟨tq_71, List.forall_mem_cons.mpr ⟨tq_72, List.forall_mem_cons.mpr ⟨tq_73, List.forall_mem_cons.mpr ⟨tq_74, fun _ h => absurd h List.not_mem_nil⟩⟩⟩⟩⟩⟩⟩⟩⟩⟩⟩⟩⟩⟩), inT_i9⟩), inT_i6⟩)⟩) (by decide +kernel)
theorem tq_75 : Cond.methodLink RL 15 yX9_feed ∈ lw_tbl := tb_1 (i := 117) rfl
theorem tq_76 : Cond.instanceMethod yX9_feed ∈ lw_tbl := tb_1 (i := 118) rfl
theorem tq_77 : Cond.selects RX9 yX9_feed yX9_feed ∈ lw_tbl := tb_1 (i := 119) rfl
theorem tq_78 : Cond.initialized RX9 ∈ lw_tbl := tb_1 (i := 1) rfl
set_option maxRecDepth 20000 in
theorem gc_X9_feed : GoodIn lw_tbl (wsV RL 15 RX9 yX9_feed wsX9_feed) := goodIn_app (goodIn_sub (List.forall_mem_cons.mpr ⟨tq_75, List.forall_mem_cons.mpr ⟨tq_76, List.forall_mem_cons.mpr ⟨tq_77, List.forall_mem_cons.mpr ⟨tq_78, fun _ h => absurd h List.not_mem_nil⟩⟩⟩⟩) (by decide +kernel)) gwX9_feed
theorem tq_79 : Cond.code yX10_feed cX10_feed 5 (some .int) ∈ lw_tbl := tb_3 (i := 175) rfl
theorem tq_80 : Cond.constantLong RX10 56 (8) ∈ lw_tbl := tb_3 (i := 176) rfl
theorem tq_81 : Cond.fieldLink RX10 58 "BlorbRowsModel" "taped" "I" ∈ lw_tbl := tb_3 (i := 118) rfl
theorem tq_82 : Cond.constantLong RX10 61 (255) ∈ lw_tbl := tb_3 (i := 180) rfl
theorem tq_83 : Cond.methodLink RX10 44 yX10_in ∈ lw_tbl := tb_3 (i := 177) rfl
theorem tq_84 : Cond.static yX10_in ∈ lw_tbl := tb_3 (i := 178) rfl
theorem tq_85 : Cond.initialized RX10 ∈ lw_tbl := tb_1 (i := 6) rfl
theorem tq_86 : Cond.code yX10_in cX10_in 6 (some .boolean) ∈ lw_tbl := tb_3 (i := 179) rfl
set_option maxRecDepth 20000 in
theorem gwX10_feed : GoodIn lw_tbl wsX10_feed := goodIn_sub (List.forall_mem_cons.mpr ⟨tq_79, (List.forall_mem_append.mpr ⟨(List.forall_mem_cons.mpr ⟨tq_80, List.forall_mem_cons.mpr ⟨tq_81, List.forall_mem_cons.mpr ⟨tq_54, List.forall_mem_cons.mpr ⟨tq_82, List.forall_mem_cons.mpr ⟨tq_83, List.forall_mem_cons.mpr ⟨tq_84, List.forall_mem_cons.mpr ⟨tq_85, List.forall_mem_cons.mpr ⟨tq_86, fun _ h => absurd h List.not_mem_nil⟩⟩⟩⟩⟩⟩⟩⟩), inT_i10⟩)⟩) (by decide +kernel)
theorem tq_87 : Cond.methodLink RL 19 yX10_feed ∈ lw_tbl := tb_3 (i := 172) rfl
theorem tq_88 : Cond.instanceMethod yX10_feed ∈ lw_tbl := tb_3 (i := 173) rfl
theorem tq_89 : Cond.selects RX10 yX10_feed yX10_feed ∈ lw_tbl := tb_3 (i := 174) rfl
set_option maxRecDepth 20000 in
theorem gc_X10_feed : GoodIn lw_tbl (wsV RL 19 RX10 yX10_feed wsX10_feed) := goodIn_app (goodIn_sub (List.forall_mem_cons.mpr ⟨tq_87, List.forall_mem_cons.mpr ⟨tq_88, List.forall_mem_cons.mpr ⟨tq_89, List.forall_mem_cons.mpr ⟨tq_85, fun _ h => absurd h List.not_mem_nil⟩⟩⟩⟩) (by decide +kernel)) gwX10_feed
theorem tq_90 : Cond.code yX9_cut cX9_cut 3 (some .int) ∈ lw_tbl := tb_1 (i := 133) rfl
theorem tq_91 : Cond.methodLink RX9 50 yX6_keep ∈ lw_tbl := tb_1 (i := 134) rfl
theorem tq_92 : Cond.instanceMethod yX6_keep ∈ lw_tbl := tb_1 (i := 135) rfl
theorem tq_93 : Cond.selects RX6 yX6_keep yX6_keep ∈ lw_tbl := tb_1 (i := 136) rfl
theorem tq_94 : Cond.code yX6_keep cX6_keep 2 none ∈ lw_tbl := tb_1 (i := 137) rfl
set_option maxRecDepth 20000 in
theorem gwX9_cut : GoodIn lw_tbl wsX9_cut := goodIn_sub (List.forall_mem_cons.mpr ⟨tq_90, (List.forall_mem_append.mpr ⟨(List.forall_mem_append.mpr ⟨(List.forall_mem_cons.mpr ⟨tq_7, List.forall_mem_cons.mpr ⟨tq_65, List.forall_mem_cons.mpr ⟨tq_91, List.forall_mem_cons.mpr ⟨tq_92, List.forall_mem_cons.mpr ⟨tq_93, List.forall_mem_cons.mpr ⟨tq_6, List.forall_mem_cons.mpr ⟨tq_94, List.forall_mem_cons.mpr ⟨tq_28, fun _ h => absurd h List.not_mem_nil⟩⟩⟩⟩⟩⟩⟩⟩), inT_i9⟩), inT_i6⟩)⟩) (by decide +kernel)
theorem tq_95 : Cond.methodLink RL 20 yX9_cut ∈ lw_tbl := tb_1 (i := 130) rfl
theorem tq_96 : Cond.instanceMethod yX9_cut ∈ lw_tbl := tb_1 (i := 131) rfl
theorem tq_97 : Cond.selects RX9 yX9_cut yX9_cut ∈ lw_tbl := tb_1 (i := 132) rfl
set_option maxRecDepth 20000 in
theorem gc_X9_cut : GoodIn lw_tbl (wsV RL 20 RX9 yX9_cut wsX9_cut) := goodIn_app (goodIn_sub (List.forall_mem_cons.mpr ⟨tq_95, List.forall_mem_cons.mpr ⟨tq_96, List.forall_mem_cons.mpr ⟨tq_97, List.forall_mem_cons.mpr ⟨tq_78, fun _ h => absurd h List.not_mem_nil⟩⟩⟩⟩) (by decide +kernel)) gwX9_cut
theorem tq_98 : Cond.code yX10_cut cX10_cut 3 (some .int) ∈ lw_tbl := tb_3 (i := 184) rfl
set_option maxRecDepth 20000 in
theorem gwX10_cut : GoodIn lw_tbl wsX10_cut := goodIn_sub (List.forall_mem_cons.mpr ⟨tq_98, (List.forall_mem_append.mpr ⟨(List.forall_mem_cons.mpr ⟨tq_81, List.forall_mem_cons.mpr ⟨tq_83, List.forall_mem_cons.mpr ⟨tq_84, List.forall_mem_cons.mpr ⟨tq_85, List.forall_mem_cons.mpr ⟨tq_86, fun _ h => absurd h List.not_mem_nil⟩⟩⟩⟩⟩), inT_i10⟩)⟩) (by decide +kernel)
theorem tq_99 : Cond.methodLink RL 24 yX10_cut ∈ lw_tbl := tb_3 (i := 181) rfl
theorem tq_100 : Cond.instanceMethod yX10_cut ∈ lw_tbl := tb_3 (i := 182) rfl
theorem tq_101 : Cond.selects RX10 yX10_cut yX10_cut ∈ lw_tbl := tb_3 (i := 183) rfl
set_option maxRecDepth 20000 in
theorem gc_X10_cut : GoodIn lw_tbl (wsV RL 24 RX10 yX10_cut wsX10_cut) := goodIn_app (goodIn_sub (List.forall_mem_cons.mpr ⟨tq_99, List.forall_mem_cons.mpr ⟨tq_100, List.forall_mem_cons.mpr ⟨tq_101, List.forall_mem_cons.mpr ⟨tq_85, fun _ h => absurd h List.not_mem_nil⟩⟩⟩⟩) (by decide +kernel)) gwX10_cut
theorem tq_102 : Cond.code yX9_read cX9_read 3 (some .int) ∈ lw_tbl := tb_1 (i := 141) rfl
theorem tq_103 : Cond.fieldLink RX9 65 "BlorbRows$Judge" "faultAt" "I" ∈ lw_tbl := tb_1 (i := 93) rfl
theorem tq_104 : Cond.fieldLink RX9 68 "BlorbRows$House" "chunks" "I" ∈ lw_tbl := tb_1 (i := 56) rfl
theorem tq_105 : Cond.methodLink RX9 53 yX6_whole ∈ lw_tbl := tb_1 (i := 142) rfl
theorem tq_106 : Cond.instanceMethod yX6_whole ∈ lw_tbl := tb_1 (i := 143) rfl
theorem tq_107 : Cond.selects RX6 yX6_whole yX6_whole ∈ lw_tbl := tb_1 (i := 144) rfl
theorem tq_108 : Cond.code yX6_whole cX6_whole 1 (some (.object "BlorbRows$Part")) ∈ lw_tbl := tb_1 (i := 145) rfl
theorem tq_109 : Cond.classLink RX6 23 RX3 ∈ lw_tbl := tb_1 (i := 146) rfl
theorem tq_110 : Cond.instantiable RX3 3 ∈ lw_tbl := tb_1 (i := 147) rfl
theorem tq_111 : Cond.initialized RX3 ∈ lw_tbl := tb_1 (i := 7) rfl
theorem tq_112 : Cond.methodLink RX6 25 yX3_init ∈ lw_tbl := tb_1 (i := 148) rfl
theorem tq_113 : Cond.instanceMethod yX3_init ∈ lw_tbl := tb_1 (i := 149) rfl
theorem tq_114 : Cond.code yX3_init cX3_init 5 none ∈ lw_tbl := tb_1 (i := 150) rfl
theorem tq_115 : Cond.methodLink RX3 1 objectInit ∈ lw_tbl := tb_1 (i := 151) rfl
theorem tq_116 : Cond.fieldLink RX3 7 "BlorbRows$Row" "length" "I" ∈ lw_tbl := tb_1 (i := 33) rfl
theorem tq_117 : Cond.fieldLink RX3 13 "BlorbRows$Part" "row" "LBlorbRows$Row;" ∈ lw_tbl := tb_1 (i := 152) rfl
theorem tq_118 : Cond.fieldLink RX3 19 "BlorbRows$Part" "from" "I" ∈ lw_tbl := tb_1 (i := 155) rfl
theorem wkX9_read_r1 : ∀ w ∈ wsX9_read_r1, w ∈ lw_tbl := List.forall_mem_cons.mpr ⟨tq_7, List.forall_mem_cons.mpr ⟨tq_16, List.forall_mem_cons.mpr ⟨tq_17, List.forall_mem_cons.mpr ⟨tq_12, List.forall_mem_cons.mpr ⟨tq_103, List.forall_mem_cons.mpr ⟨tq_104, List.forall_mem_cons.mpr ⟨tq_105, List.forall_mem_cons.mpr ⟨tq_106, List.forall_mem_cons.mpr ⟨tq_107, List.forall_mem_cons.mpr ⟨tq_6, List.forall_mem_cons.mpr ⟨tq_108, List.forall_mem_cons.mpr ⟨tq_109, List.forall_mem_cons.mpr ⟨tq_110, List.forall_mem_cons.mpr ⟨tq_111, List.forall_mem_cons.mpr ⟨tq_28, List.forall_mem_cons.mpr ⟨tq_112, List.forall_mem_cons.mpr ⟨tq_113, List.forall_mem_cons.mpr ⟨tq_114, List.forall_mem_cons.mpr ⟨tq_115, List.forall_mem_cons.mpr ⟨tq_2, List.forall_mem_cons.mpr ⟨tq_3, List.forall_mem_cons.mpr ⟨tq_116, List.forall_mem_cons.mpr ⟨tq_117, List.forall_mem_cons.mpr ⟨tq_118, fun _ h => absurd h List.not_mem_nil⟩⟩⟩⟩⟩⟩⟩⟩⟩⟩⟩⟩⟩⟩⟩⟩⟩⟩⟩⟩⟩⟩⟩⟩
theorem tq_119 : Cond.fieldLink RX3 22 "BlorbRows$Part" "length" "I" ∈ lw_tbl := tb_1 (i := 158) rfl
theorem tq_120 : Cond.methodLink RX9 57 yX1_faultOf ∈ lw_tbl := tb_1 (i := 173) rfl
theorem tq_121 : Cond.instanceMethod yX1_faultOf ∈ lw_tbl := tb_1 (i := 174) rfl
theorem tq_122 : Cond.selects RX1 yX1_faultOf yX1_faultOf ∈ lw_tbl := tb_1 (i := 175) rfl
theorem tq_123 : Cond.code yX1_faultOf cX1_faultOf 3 (some .int) ∈ lw_tbl := tb_1 (i := 176) rfl
theorem tq_124 : Cond.methodLink RX1 22 yX1_faultOfHead ∈ lw_tbl := tb_1 (i := 177) rfl
theorem tq_125 : Cond.instanceMethod yX1_faultOfHead ∈ lw_tbl := tb_1 (i := 179) rfl
theorem tq_126 : Cond.selects RX1 yX1_faultOfHead yX1_faultOfHead ∈ lw_tbl := tb_0 (i := 0) rfl
theorem tq_127 : Cond.code yX1_faultOfHead cX1_faultOfHead 2 (some .int) ∈ lw_tbl := tb_1 (i := 180) rfl
theorem tq_128 : Cond.fieldLink RX1 32 "BlorbRows$Part" "length" "I" ∈ lw_tbl := tb_1 (i := 162) rfl
theorem tq_129 : Cond.constantLong RX1 47 (1179603533) ∈ lw_tbl := tb_1 (i := 198) rfl
theorem tq_130 : Cond.constantLong RX1 49 (1229345363) ∈ lw_tbl := tb_1 (i := 199) rfl
theorem tq_131 : Cond.methodLink RX1 37 yX1_fail ∈ lw_tbl := tb_1 (i := 181) rfl
theorem tq_132 : Cond.instanceMethod yX1_fail ∈ lw_tbl := tb_1 (i := 183) rfl
theorem tq_133 : Cond.selects RX1 yX1_fail yX1_fail ∈ lw_tbl := tb_0 (i := 1) rfl
theorem tq_134 : Cond.code yX1_fail cX1_fail 3 (some .int) ∈ lw_tbl := tb_1 (i := 184) rfl
theorem tq_135 : Cond.methodLink RX1 41 yX3_u4 ∈ lw_tbl := tb_1 (i := 185) rfl
theorem tq_136 : Cond.instanceMethod yX3_u4 ∈ lw_tbl := tb_1 (i := 186) rfl
theorem tq_137 : Cond.selects RX3 yX3_u4 yX3_u4 ∈ lw_tbl := tb_1 (i := 187) rfl
theorem tq_138 : Cond.code yX3_u4 cX3_u4 2 (some .long) ∈ lw_tbl := tb_1 (i := 188) rfl
theorem tq_139 : Cond.methodLink RX3 23 yX3_number ∈ lw_tbl := tb_1 (i := 189) rfl
theorem wkX9_read_r2 : ∀ w ∈ wsX9_read_r2, w ∈ lw_tbl := List.forall_mem_cons.mpr ⟨tq_119, List.forall_mem_cons.mpr ⟨tq_120, List.forall_mem_cons.mpr ⟨tq_121, List.forall_mem_cons.mpr ⟨tq_122, List.forall_mem_cons.mpr ⟨tq_15, List.forall_mem_cons.mpr ⟨tq_123, List.forall_mem_cons.mpr ⟨tq_50, List.forall_mem_cons.mpr ⟨tq_51, List.forall_mem_cons.mpr ⟨tq_124, List.forall_mem_cons.mpr ⟨tq_125, List.forall_mem_cons.mpr ⟨tq_126, List.forall_mem_cons.mpr ⟨tq_127, List.forall_mem_cons.mpr ⟨tq_128, List.forall_mem_cons.mpr ⟨tq_129, List.forall_mem_cons.mpr ⟨tq_130, List.forall_mem_cons.mpr ⟨tq_131, List.forall_mem_cons.mpr ⟨tq_132, List.forall_mem_cons.mpr ⟨tq_133, List.forall_mem_cons.mpr ⟨tq_134, List.forall_mem_cons.mpr ⟨tq_135, List.forall_mem_cons.mpr ⟨tq_136, List.forall_mem_cons.mpr ⟨tq_137, List.forall_mem_cons.mpr ⟨tq_138, List.forall_mem_cons.mpr ⟨tq_139, fun _ h => absurd h List.not_mem_nil⟩⟩⟩⟩⟩⟩⟩⟩⟩⟩⟩⟩⟩⟩⟩⟩⟩⟩⟩⟩⟩⟩⟩⟩
theorem tq_140 : Cond.instanceMethod yX3_number ∈ lw_tbl := tb_1 (i := 191) rfl
theorem tq_141 : Cond.selects RX3 yX3_number yX3_number ∈ lw_tbl := tb_0 (i := 2) rfl
theorem tq_142 : Cond.code yX3_number cX3_number 6 (some .long) ∈ lw_tbl := tb_1 (i := 192) rfl
theorem tq_143 : Cond.constantLong RX3 31 (-1) ∈ lw_tbl := tb_1 (i := 197) rfl
theorem tq_144 : Cond.fieldLink RX3 33 "BlorbRows$Row" "octets" "[B" ∈ lw_tbl := tb_1 (i := 32) rfl
theorem tq_145 : Cond.methodLink RX3 27 yX3_holds ∈ lw_tbl := tb_1 (i := 193) rfl
theorem tq_146 : Cond.instanceMethod yX3_holds ∈ lw_tbl := tb_1 (i := 194) rfl
theorem tq_147 : Cond.selects RX3 yX3_holds yX3_holds ∈ lw_tbl := tb_1 (i := 195) rfl
theorem tq_148 : Cond.code yX3_holds cX3_holds 3 (some .boolean) ∈ lw_tbl := tb_1 (i := 196) rfl
theorem tq_149 : Cond.methodLink RX1 26 yX1_faultOfPieces ∈ lw_tbl := tb_1 (i := 200) rfl
theorem tq_150 : Cond.instanceMethod yX1_faultOfPieces ∈ lw_tbl := tb_1 (i := 202) rfl
theorem tq_151 : Cond.selects RX1 yX1_faultOfPieces yX1_faultOfPieces ∈ lw_tbl := tb_0 (i := 3) rfl
theorem tq_152 : Cond.code yX1_faultOfPieces cX1_faultOfPieces 5 (some .int) ∈ lw_tbl := tb_1 (i := 203) rfl
theorem tq_153 : Cond.methodLink RX1 51 yX1_faultOfPiece ∈ lw_tbl := tb_1 (i := 204) rfl
theorem tq_154 : Cond.instanceMethod yX1_faultOfPiece ∈ lw_tbl := tb_1 (i := 206) rfl
theorem tq_155 : Cond.selects RX1 yX1_faultOfPiece yX1_faultOfPiece ∈ lw_tbl := tb_0 (i := 4) rfl
theorem tq_156 : Cond.code yX1_faultOfPiece cX1_faultOfPiece 10 (some .int) ∈ lw_tbl := tb_1 (i := 207) rfl
theorem tq_157 : Cond.constant RX1 62 (1380541560) ∈ lw_tbl := tb_1 (i := 209) rfl
theorem tq_158 : Cond.methodLink RX1 58 yX3_holds ∈ lw_tbl := tb_1 (i := 208) rfl
theorem tq_159 : Cond.methodLink RX1 63 yX2_isKind ∈ lw_tbl := tb_1 (i := 210) rfl
theorem tq_160 : Cond.static yX2_isKind ∈ lw_tbl := tb_1 (i := 211) rfl
theorem tq_161 : Cond.initialized RX2 ∈ lw_tbl := tb_1 (i := 8) rfl
theorem tq_162 : Cond.code yX2_isKind cX2_isKind 1 (some .boolean) ∈ lw_tbl := tb_1 (i := 212) rfl
theorem wkX9_read_r3 : ∀ w ∈ wsX9_read_r3, w ∈ lw_tbl := List.forall_mem_cons.mpr ⟨tq_140, List.forall_mem_cons.mpr ⟨tq_141, List.forall_mem_cons.mpr ⟨tq_142, List.forall_mem_cons.mpr ⟨tq_143, List.forall_mem_cons.mpr ⟨tq_144, List.forall_mem_cons.mpr ⟨tq_145, List.forall_mem_cons.mpr ⟨tq_146, List.forall_mem_cons.mpr ⟨tq_147, List.forall_mem_cons.mpr ⟨tq_148, List.forall_mem_cons.mpr ⟨tq_149, List.forall_mem_cons.mpr ⟨tq_150, List.forall_mem_cons.mpr ⟨tq_151, List.forall_mem_cons.mpr ⟨tq_152, List.forall_mem_cons.mpr ⟨tq_49, List.forall_mem_cons.mpr ⟨tq_153, List.forall_mem_cons.mpr ⟨tq_154, List.forall_mem_cons.mpr ⟨tq_155, List.forall_mem_cons.mpr ⟨tq_156, List.forall_mem_cons.mpr ⟨tq_157, List.forall_mem_cons.mpr ⟨tq_158, List.forall_mem_cons.mpr ⟨tq_159, List.forall_mem_cons.mpr ⟨tq_160, List.forall_mem_cons.mpr ⟨tq_161, List.forall_mem_cons.mpr ⟨tq_162, fun _ h => absurd h List.not_mem_nil⟩⟩⟩⟩⟩⟩⟩⟩⟩⟩⟩⟩⟩⟩⟩⟩⟩⟩⟩⟩⟩⟩⟩⟩
theorem tq_163 : Cond.methodLink RX2 7 yX2_isLetter ∈ lw_tbl := tb_1 (i := 213) rfl
theorem tq_164 : Cond.static yX2_isLetter ∈ lw_tbl := tb_1 (i := 214) rfl
theorem tq_165 : Cond.code yX2_isLetter cX2_isLetter 1 (some .boolean) ∈ lw_tbl := tb_1 (i := 215) rfl
theorem tq_166 : Cond.methodLink RX1 67 yX3_at ∈ lw_tbl := tb_1 (i := 216) rfl
theorem tq_167 : Cond.instanceMethod yX3_at ∈ lw_tbl := tb_1 (i := 217) rfl
theorem tq_168 : Cond.selects RX3 yX3_at yX3_at ∈ lw_tbl := tb_1 (i := 218) rfl
theorem tq_169 : Cond.code yX3_at cX3_at 2 (some .int) ∈ lw_tbl := tb_1 (i := 219) rfl
theorem tq_170 : Cond.methodLink RX1 55 yX1_behindPiece ∈ lw_tbl := tb_1 (i := 220) rfl
theorem tq_171 : Cond.instanceMethod yX1_behindPiece ∈ lw_tbl := tb_1 (i := 222) rfl
theorem tq_172 : Cond.selects RX1 yX1_behindPiece yX1_behindPiece ∈ lw_tbl := tb_0 (i := 5) rfl
theorem tq_173 : Cond.code yX1_behindPiece cX1_behindPiece 4 (some .int) ∈ lw_tbl := tb_1 (i := 223) rfl
theorem tq_174 : Cond.methodLink RX1 29 yX1_faultOfIndex ∈ lw_tbl := tb_1 (i := 224) rfl
theorem tq_175 : Cond.instanceMethod yX1_faultOfIndex ∈ lw_tbl := tb_1 (i := 226) rfl
theorem tq_176 : Cond.selects RX1 yX1_faultOfIndex yX1_faultOfIndex ∈ lw_tbl := tb_0 (i := 6) rfl
theorem tq_177 : Cond.code yX1_faultOfIndex cX1_faultOfIndex 8 (some .int) ∈ lw_tbl := tb_1 (i := 227) rfl
theorem tq_178 : Cond.constantLong RX1 71 (4) ∈ lw_tbl := tb_1 (i := 228) rfl
theorem tq_179 : Cond.constantLong RX1 73 (12) ∈ lw_tbl := tb_1 (i := 229) rfl
theorem tq_180 : Cond.methodLink RX1 75 yX1_faultOfEntry ∈ lw_tbl := tb_1 (i := 230) rfl
theorem tq_181 : Cond.instanceMethod yX1_faultOfEntry ∈ lw_tbl := tb_1 (i := 232) rfl
theorem tq_182 : Cond.selects RX1 yX1_faultOfEntry yX1_faultOfEntry ∈ lw_tbl := tb_0 (i := 7) rfl
theorem tq_183 : Cond.code yX1_faultOfEntry cX1_faultOfEntry 6 (some .int) ∈ lw_tbl := tb_1 (i := 233) rfl
theorem tq_184 : Cond.methodLink RX1 78 yX2_isUse ∈ lw_tbl := tb_1 (i := 234) rfl
theorem tq_185 : Cond.static yX2_isUse ∈ lw_tbl := tb_1 (i := 235) rfl
theorem tq_186 : Cond.code yX2_isUse cX2_isUse 1 (some .boolean) ∈ lw_tbl := tb_1 (i := 236) rfl
theorem wkX9_read_r4 : ∀ w ∈ wsX9_read_r4, w ∈ lw_tbl := List.forall_mem_cons.mpr ⟨tq_163, List.forall_mem_cons.mpr ⟨tq_164, List.forall_mem_cons.mpr ⟨tq_165, List.forall_mem_cons.mpr ⟨tq_166, List.forall_mem_cons.mpr ⟨tq_167, List.forall_mem_cons.mpr ⟨tq_168, List.forall_mem_cons.mpr ⟨tq_169, List.forall_mem_cons.mpr ⟨tq_170, List.forall_mem_cons.mpr ⟨tq_171, List.forall_mem_cons.mpr ⟨tq_172, List.forall_mem_cons.mpr ⟨tq_173, List.forall_mem_cons.mpr ⟨tq_174, List.forall_mem_cons.mpr ⟨tq_175, List.forall_mem_cons.mpr ⟨tq_176, List.forall_mem_cons.mpr ⟨tq_177, List.forall_mem_cons.mpr ⟨tq_178, List.forall_mem_cons.mpr ⟨tq_179, List.forall_mem_cons.mpr ⟨tq_180, List.forall_mem_cons.mpr ⟨tq_181, List.forall_mem_cons.mpr ⟨tq_182, List.forall_mem_cons.mpr ⟨tq_183, List.forall_mem_cons.mpr ⟨tq_184, List.forall_mem_cons.mpr ⟨tq_185, List.forall_mem_cons.mpr ⟨tq_186, fun _ h => absurd h List.not_mem_nil⟩⟩⟩⟩⟩⟩⟩⟩⟩⟩⟩⟩⟩⟩⟩⟩⟩⟩⟩⟩⟩⟩⟩⟩
theorem tq_187 : Cond.constant RX2 13 (1349084020) ∈ lw_tbl := tb_1 (i := 237) rfl
theorem tq_188 : Cond.constant RX2 14 (1399743520) ∈ lw_tbl := tb_1 (i := 238) rfl
theorem tq_189 : Cond.constant RX2 15 (1147237473) ∈ lw_tbl := tb_1 (i := 239) rfl
theorem tq_190 : Cond.constant RX2 16 (1165518179) ∈ lw_tbl := tb_2 (i := 0) rfl
theorem tq_191 : Cond.methodLink RX1 81 yX1_pieceAt ∈ lw_tbl := tb_2 (i := 1) rfl
theorem tq_192 : Cond.instanceMethod yX1_pieceAt ∈ lw_tbl := tb_2 (i := 3) rfl
theorem tq_193 : Cond.selects RX1 yX1_pieceAt yX1_pieceAt ∈ lw_tbl := tb_0 (i := 8) rfl
theorem tq_194 : Cond.code yX1_pieceAt cX1_pieceAt 4 (some .int) ∈ lw_tbl := tb_2 (i := 4) rfl
theorem tq_195 : Cond.methodLink RX9 61 yX1_moveInto ∈ lw_tbl := tb_2 (i := 5) rfl
theorem tq_196 : Cond.instanceMethod yX1_moveInto ∈ lw_tbl := tb_2 (i := 6) rfl
theorem tq_197 : Cond.selects RX1 yX1_moveInto yX1_moveInto ∈ lw_tbl := tb_2 (i := 7) rfl
theorem tq_198 : Cond.code yX1_moveInto cX1_moveInto 7 none ∈ lw_tbl := tb_2 (i := 8) rfl
theorem tq_199 : Cond.classLink RX1 33 RX3 ∈ lw_tbl := tb_2 (i := 14) rfl
theorem tq_200 : Cond.fieldLink RX1 90 "BlorbRows$Part" "row" "LBlorbRows$Row;" ∈ lw_tbl := tb_1 (i := 154) rfl
theorem tq_201 : Cond.fieldLink RX1 94 "BlorbRows$Part" "from" "I" ∈ lw_tbl := tb_1 (i := 157) rfl
theorem tq_202 : Cond.methodLink RX1 85 yX0_empty ∈ lw_tbl := tb_2 (i := 9) rfl
theorem tq_203 : Cond.instanceMethod yX0_empty ∈ lw_tbl := tb_2 (i := 10) rfl
theorem tq_204 : Cond.selects RX0 yX0_empty yX0_empty ∈ lw_tbl := tb_2 (i := 11) rfl
theorem tq_205 : Cond.code yX0_empty cX0_empty 1 none ∈ lw_tbl := tb_2 (i := 12) rfl
theorem tq_206 : Cond.methodLink RX0 44 yX6_keep ∈ lw_tbl := tb_2 (i := 13) rfl
theorem wkX9_read_r5 : ∀ w ∈ wsX9_read_r5, w ∈ lw_tbl := List.forall_mem_cons.mpr ⟨tq_187, List.forall_mem_cons.mpr ⟨tq_188, List.forall_mem_cons.mpr ⟨tq_189, List.forall_mem_cons.mpr ⟨tq_190, List.forall_mem_cons.mpr ⟨tq_191, List.forall_mem_cons.mpr ⟨tq_192, List.forall_mem_cons.mpr ⟨tq_193, List.forall_mem_cons.mpr ⟨tq_194, List.forall_mem_cons.mpr ⟨tq_195, List.forall_mem_cons.mpr ⟨tq_196, List.forall_mem_cons.mpr ⟨tq_197, List.forall_mem_cons.mpr ⟨tq_198, List.forall_mem_cons.mpr ⟨tq_199, List.forall_mem_cons.mpr ⟨tq_200, List.forall_mem_cons.mpr ⟨tq_201, List.forall_mem_cons.mpr ⟨tq_202, List.forall_mem_cons.mpr ⟨tq_203, List.forall_mem_cons.mpr ⟨tq_204, List.forall_mem_cons.mpr ⟨tq_11, List.forall_mem_cons.mpr ⟨tq_205, List.forall_mem_cons.mpr ⟨tq_34, List.forall_mem_cons.mpr ⟨tq_38, List.forall_mem_cons.mpr ⟨tq_43, List.forall_mem_cons.mpr ⟨tq_206, fun _ h => absurd h List.not_mem_nil⟩⟩⟩⟩⟩⟩⟩⟩⟩⟩⟩⟩⟩⟩⟩⟩⟩⟩⟩⟩⟩⟩⟩⟩
theorem tq_207 : Cond.methodLink RX1 97 yX3_init ∈ lw_tbl := tb_2 (i := 15) rfl
theorem tq_208 : Cond.methodLink RX1 100 yX0_addChunk ∈ lw_tbl := tb_2 (i := 16) rfl
theorem tq_209 : Cond.instanceMethod yX0_addChunk ∈ lw_tbl := tb_2 (i := 17) rfl
theorem tq_210 : Cond.selects RX0 yX0_addChunk yX0_addChunk ∈ lw_tbl := tb_2 (i := 18) rfl
theorem tq_211 : Cond.code yX0_addChunk cX0_addChunk 3 none ∈ lw_tbl := tb_2 (i := 19) rfl
theorem tq_212 : Cond.fieldLink RX0 80 "BlorbRows$Part" "length" "I" ∈ lw_tbl := tb_1 (i := 164) rfl
theorem tq_213 : Cond.fieldLink RX0 86 "BlorbRows$Row" "length" "I" ∈ lw_tbl := tb_1 (i := 36) rfl
theorem tq_214 : Cond.methodLink RX0 83 yX0_hasChunkRoom ∈ lw_tbl := tb_2 (i := 20) rfl
theorem tq_215 : Cond.instanceMethod yX0_hasChunkRoom ∈ lw_tbl := tb_2 (i := 21) rfl
theorem tq_216 : Cond.selects RX0 yX0_hasChunkRoom yX0_hasChunkRoom ∈ lw_tbl := tb_2 (i := 22) rfl
theorem tq_217 : Cond.code yX0_hasChunkRoom cX0_hasChunkRoom 2 (some .boolean) ∈ lw_tbl := tb_2 (i := 23) rfl
theorem tq_218 : Cond.methodLink RX0 47 yX6_room ∈ lw_tbl := tb_2 (i := 24) rfl
theorem tq_219 : Cond.methodLink RX0 87 yX6_splice ∈ lw_tbl := tb_2 (i := 25) rfl
theorem tq_220 : Cond.instanceMethod yX6_splice ∈ lw_tbl := tb_2 (i := 26) rfl
theorem tq_221 : Cond.selects RX6 yX6_splice yX6_splice ∈ lw_tbl := tb_2 (i := 27) rfl
theorem wkX9_read_r6 : ∀ w ∈ wsX9_read_r6, w ∈ lw_tbl := List.forall_mem_cons.mpr ⟨tq_92, List.forall_mem_cons.mpr ⟨tq_93, List.forall_mem_cons.mpr ⟨tq_94, List.forall_mem_cons.mpr ⟨tq_207, List.forall_mem_cons.mpr ⟨tq_208, List.forall_mem_cons.mpr ⟨tq_209, List.forall_mem_cons.mpr ⟨tq_210, List.forall_mem_cons.mpr ⟨tq_211, List.forall_mem_cons.mpr ⟨tq_212, List.forall_mem_cons.mpr ⟨tq_36, List.forall_mem_cons.mpr ⟨tq_37, List.forall_mem_cons.mpr ⟨tq_213, List.forall_mem_cons.mpr ⟨tq_214, List.forall_mem_cons.mpr ⟨tq_215, List.forall_mem_cons.mpr ⟨tq_216, List.forall_mem_cons.mpr ⟨tq_217, List.forall_mem_cons.mpr ⟨tq_218, List.forall_mem_cons.mpr ⟨tq_67, List.forall_mem_cons.mpr ⟨tq_68, List.forall_mem_cons.mpr ⟨tq_69, List.forall_mem_cons.mpr ⟨tq_27, List.forall_mem_cons.mpr ⟨tq_219, List.forall_mem_cons.mpr ⟨tq_220, List.forall_mem_cons.mpr ⟨tq_221, fun _ h => absurd h List.not_mem_nil⟩⟩⟩⟩⟩⟩⟩⟩⟩⟩⟩⟩⟩⟩⟩⟩⟩⟩⟩⟩⟩⟩⟩⟩
theorem tq_222 : Cond.code yX6_splice cX6_splice 5 none ∈ lw_tbl := tb_2 (i := 28) rfl
theorem tq_223 : Cond.fieldLink RX6 32 "BlorbRows$Part" "length" "I" ∈ lw_tbl := tb_1 (i := 163) rfl
theorem tq_224 : Cond.methodLink RX6 33 arraycopyName ∈ lw_tbl := tb_2 (i := 29) rfl
theorem tq_225 : Cond.native arraycopyName ∈ lw_tbl := tb_2 (i := 31) rfl
theorem tq_226 : Cond.static arraycopyName ∈ lw_tbl := tb_2 (i := 30) rfl
theorem tq_227 : Cond.initialized "java/lang/System" ∈ lw_tbl := tb_1 (i := 9) rfl
theorem tq_228 : Cond.fieldLink RX6 39 "BlorbRows$Part" "row" "LBlorbRows$Row;" ∈ lw_tbl := tb_1 (i := 153) rfl
theorem tq_229 : Cond.fieldLink RX6 43 "BlorbRows$Part" "from" "I" ∈ lw_tbl := tb_1 (i := 156) rfl
theorem tq_230 : Cond.methodLink RX1 104 yX0_addEntry ∈ lw_tbl := tb_2 (i := 32) rfl
theorem tq_231 : Cond.instanceMethod yX0_addEntry ∈ lw_tbl := tb_2 (i := 33) rfl
theorem tq_232 : Cond.selects RX0 yX0_addEntry yX0_addEntry ∈ lw_tbl := tb_2 (i := 34) rfl
theorem tq_233 : Cond.code yX0_addEntry cX0_addEntry 5 none ∈ lw_tbl := tb_2 (i := 35) rfl
theorem wkX9_read_r7 : ∀ w ∈ wsX9_read_r7, w ∈ lw_tbl := List.forall_mem_cons.mpr ⟨tq_222, List.forall_mem_cons.mpr ⟨tq_223, List.forall_mem_cons.mpr ⟨tq_224, List.forall_mem_cons.mpr ⟨tq_225, List.forall_mem_cons.mpr ⟨tq_226, List.forall_mem_cons.mpr ⟨tq_227, List.forall_mem_cons.mpr ⟨tq_228, List.forall_mem_cons.mpr ⟨tq_229, List.forall_mem_cons.mpr ⟨tq_74, List.forall_mem_cons.mpr ⟨tq_230, List.forall_mem_cons.mpr ⟨tq_231, List.forall_mem_cons.mpr ⟨tq_232, List.forall_mem_cons.mpr ⟨tq_233, List.forall_mem_cons.mpr ⟨tq_39, List.forall_mem_cons.mpr ⟨tq_41, List.forall_mem_cons.mpr ⟨tq_42, List.forall_mem_cons.mpr ⟨tq_91, fun _ h => absurd h List.not_mem_nil⟩⟩⟩⟩⟩⟩⟩⟩⟩⟩⟩⟩⟩⟩⟩⟩⟩
set_option maxRecDepth 20000 in
theorem gwX9_read : GoodIn lw_tbl wsX9_read := goodIn_sub (List.forall_mem_cons.mpr ⟨tq_102, (List.forall_mem_append.mpr ⟨(List.forall_mem_append.mpr ⟨(List.forall_mem_append.mpr ⟨(List.forall_mem_append.mpr ⟨(List.forall_mem_append.mpr ⟨(List.forall_mem_append.mpr ⟨wkX9_read_r1, (List.forall_mem_append.mpr ⟨wkX9_read_r2, (List.forall_mem_append.mpr ⟨wkX9_read_r3, (List.forall_mem_append.mpr ⟨wkX9_read_r4, (List.forall_mem_append.mpr ⟨wkX9_read_r5, (List.forall_mem_append.mpr ⟨wkX9_read_r6, wkX9_read_r7⟩)⟩)⟩)⟩)⟩)⟩), inT_i9⟩), inT_i1⟩), inT_i0⟩), inT_i3⟩), inT_i6⟩)⟩) (by decide +kernel)
theorem tq_234 : Cond.methodLink RL 25 yX9_read ∈ lw_tbl := tb_1 (i := 138) rfl
theorem tq_235 : Cond.instanceMethod yX9_read ∈ lw_tbl := tb_1 (i := 139) rfl
theorem tq_236 : Cond.selects RX9 yX9_read yX9_read ∈ lw_tbl := tb_1 (i := 140) rfl
set_option maxRecDepth 20000 in
theorem gc_X9_read : GoodIn lw_tbl (wsV RL 25 RX9 yX9_read wsX9_read) := goodIn_app (goodIn_sub (List.forall_mem_cons.mpr ⟨tq_234, List.forall_mem_cons.mpr ⟨tq_235, List.forall_mem_cons.mpr ⟨tq_236, List.forall_mem_cons.mpr ⟨tq_78, fun _ h => absurd h List.not_mem_nil⟩⟩⟩⟩) (by decide +kernel)) gwX9_read
theorem tq_237 : Cond.code yX10_read cX10_read 1 (some .int) ∈ lw_tbl := tb_3 (i := 188) rfl
theorem tq_238 : Cond.fieldLink RX10 67 "BlorbRowsModel" "fault" "I" ∈ lw_tbl := tb_3 (i := 131) rfl
theorem tq_239 : Cond.fieldLink RX10 113 "BlorbRowsModel" "chunks" "I" ∈ lw_tbl := tb_3 (i := 123) rfl
theorem tq_240 : Cond.methodLink RX10 107 yX10_goOver ∈ lw_tbl := tb_3 (i := 189) rfl
theorem tq_241 : Cond.instanceMethod yX10_goOver ∈ lw_tbl := tb_3 (i := 191) rfl
theorem tq_242 : Cond.selects RX10 yX10_goOver yX10_goOver ∈ lw_tbl := tb_0 (i := 9) rfl
theorem tq_243 : Cond.code yX10_goOver cX10_goOver 4 none ∈ lw_tbl := tb_3 (i := 192) rfl
theorem tq_244 : Cond.constant RX10 74 (1179603533) ∈ lw_tbl := tb_3 (i := 200) rfl
theorem tq_245 : Cond.constant RX10 79 (1229345363) ∈ lw_tbl := tb_3 (i := 205) rfl
theorem tq_246 : Cond.fieldLink RX10 80 "BlorbRowsModel" "pieces" "I" ∈ lw_tbl := tb_3 (i := 133) rfl
theorem tq_247 : Cond.fieldLink RX10 87 "BlorbRowsModel" "indexSize" "I" ∈ lw_tbl := tb_3 (i := 134) rfl
theorem tq_248 : Cond.constantLong RX10 90 (4) ∈ lw_tbl := tb_3 (i := 217) rfl
theorem tq_249 : Cond.constantLong RX10 92 (12) ∈ lw_tbl := tb_3 (i := 218) rfl
theorem tq_250 : Cond.methodLink RX10 70 yX10_stop ∈ lw_tbl := tb_3 (i := 193) rfl
theorem tq_251 : Cond.instanceMethod yX10_stop ∈ lw_tbl := tb_3 (i := 195) rfl
theorem tq_252 : Cond.selects RX10 yX10_stop yX10_stop ∈ lw_tbl := tb_0 (i := 10) rfl
theorem tq_253 : Cond.code yX10_stop cX10_stop 3 none ∈ lw_tbl := tb_3 (i := 196) rfl
theorem tq_254 : Cond.methodLink RX10 63 yX10_kindIn ∈ lw_tbl := tb_3 (i := 197) rfl
theorem tq_255 : Cond.static yX10_kindIn ∈ lw_tbl := tb_3 (i := 198) rfl
theorem tq_256 : Cond.code yX10_kindIn cX10_kindIn 2 (some .int) ∈ lw_tbl := tb_3 (i := 199) rfl
theorem tq_257 : Cond.methodLink RX10 75 yX10_four ∈ lw_tbl := tb_3 (i := 201) rfl
theorem wkX10_read_r1 : ∀ w ∈ wsX10_read_r1, w ∈ lw_tbl := List.forall_mem_cons.mpr ⟨tq_238, List.forall_mem_cons.mpr ⟨tq_62, List.forall_mem_cons.mpr ⟨tq_81, List.forall_mem_cons.mpr ⟨tq_239, List.forall_mem_cons.mpr ⟨tq_240, List.forall_mem_cons.mpr ⟨tq_241, List.forall_mem_cons.mpr ⟨tq_242, List.forall_mem_cons.mpr ⟨tq_85, List.forall_mem_cons.mpr ⟨tq_243, List.forall_mem_cons.mpr ⟨tq_54, List.forall_mem_cons.mpr ⟨tq_244, List.forall_mem_cons.mpr ⟨tq_245, List.forall_mem_cons.mpr ⟨tq_246, List.forall_mem_cons.mpr ⟨tq_247, List.forall_mem_cons.mpr ⟨tq_248, List.forall_mem_cons.mpr ⟨tq_249, List.forall_mem_cons.mpr ⟨tq_250, List.forall_mem_cons.mpr ⟨tq_251, List.forall_mem_cons.mpr ⟨tq_252, List.forall_mem_cons.mpr ⟨tq_253, List.forall_mem_cons.mpr ⟨tq_254, List.forall_mem_cons.mpr ⟨tq_255, List.forall_mem_cons.mpr ⟨tq_256, List.forall_mem_cons.mpr ⟨tq_257, fun _ h => absurd h List.not_mem_nil⟩⟩⟩⟩⟩⟩⟩⟩⟩⟩⟩⟩⟩⟩⟩⟩⟩⟩⟩⟩⟩⟩⟩⟩
theorem tq_258 : Cond.static yX10_four ∈ lw_tbl := tb_3 (i := 202) rfl
theorem tq_259 : Cond.code yX10_four cX10_four 2 (some .long) ∈ lw_tbl := tb_3 (i := 203) rfl
theorem tq_260 : Cond.constantLong RX10 42 (4294967295) ∈ lw_tbl := tb_3 (i := 204) rfl
theorem tq_261 : Cond.methodLink RX10 83 yX10_piece ∈ lw_tbl := tb_3 (i := 206) rfl
theorem tq_262 : Cond.instanceMethod yX10_piece ∈ lw_tbl := tb_3 (i := 208) rfl
theorem tq_263 : Cond.selects RX10 yX10_piece yX10_piece ∈ lw_tbl := tb_0 (i := 11) rfl
theorem tq_264 : Cond.code yX10_piece cX10_piece 7 (some .int) ∈ lw_tbl := tb_3 (i := 209) rfl
theorem tq_265 : Cond.constant RX10 97 (1380541560) ∈ lw_tbl := tb_3 (i := 210) rfl
theorem tq_266 : Cond.constantLong RX10 102 (2) ∈ lw_tbl := tb_3 (i := 216) rfl
theorem tq_267 : Cond.methodLink RX10 98 yX10_isKind ∈ lw_tbl := tb_3 (i := 211) rfl
theorem tq_268 : Cond.static yX10_isKind ∈ lw_tbl := tb_3 (i := 212) rfl
theorem tq_269 : Cond.code yX10_isKind cX10_isKind 1 (some .boolean) ∈ lw_tbl := tb_3 (i := 213) rfl
theorem tq_270 : Cond.constantLong RX10 52 (32) ∈ lw_tbl := tb_3 (i := 214) rfl
theorem tq_271 : Cond.constantLong RX10 54 (126) ∈ lw_tbl := tb_3 (i := 215) rfl
theorem tq_272 : Cond.methodLink RX10 94 yX10_entryOf ∈ lw_tbl := tb_3 (i := 219) rfl
theorem tq_273 : Cond.instanceMethod yX10_entryOf ∈ lw_tbl := tb_3 (i := 221) rfl
theorem tq_274 : Cond.selects RX10 yX10_entryOf yX10_entryOf ∈ lw_tbl := tb_0 (i := 12) rfl
theorem tq_275 : Cond.code yX10_entryOf cX10_entryOf 6 none ∈ lw_tbl := tb_3 (i := 222) rfl
theorem tq_276 : Cond.methodLink RX10 104 yX10_isUse ∈ lw_tbl := tb_3 (i := 223) rfl
theorem wkX10_read_r2 : ∀ w ∈ wsX10_read_r2, w ∈ lw_tbl := List.forall_mem_cons.mpr ⟨tq_258, List.forall_mem_cons.mpr ⟨tq_259, List.forall_mem_cons.mpr ⟨tq_260, List.forall_mem_cons.mpr ⟨tq_261, List.forall_mem_cons.mpr ⟨tq_262, List.forall_mem_cons.mpr ⟨tq_263, List.forall_mem_cons.mpr ⟨tq_264, List.forall_mem_cons.mpr ⟨tq_265, List.forall_mem_cons.mpr ⟨tq_80, List.forall_mem_cons.mpr ⟨tq_266, List.forall_mem_cons.mpr ⟨tq_63, List.forall_mem_cons.mpr ⟨tq_267, List.forall_mem_cons.mpr ⟨tq_268, List.forall_mem_cons.mpr ⟨tq_269, List.forall_mem_cons.mpr ⟨tq_270, List.forall_mem_cons.mpr ⟨tq_271, List.forall_mem_cons.mpr ⟨tq_83, List.forall_mem_cons.mpr ⟨tq_84, List.forall_mem_cons.mpr ⟨tq_86, List.forall_mem_cons.mpr ⟨tq_272, List.forall_mem_cons.mpr ⟨tq_273, List.forall_mem_cons.mpr ⟨tq_274, List.forall_mem_cons.mpr ⟨tq_275, List.forall_mem_cons.mpr ⟨tq_276, fun _ h => absurd h List.not_mem_nil⟩⟩⟩⟩⟩⟩⟩⟩⟩⟩⟩⟩⟩⟩⟩⟩⟩⟩⟩⟩⟩⟩⟩⟩
theorem tq_277 : Cond.static yX10_isUse ∈ lw_tbl := tb_3 (i := 224) rfl
theorem tq_278 : Cond.code yX10_isUse cX10_isUse 1 (some .boolean) ∈ lw_tbl := tb_3 (i := 225) rfl
theorem tq_279 : Cond.constant RX10 48 (1349084020) ∈ lw_tbl := tb_3 (i := 226) rfl
theorem tq_280 : Cond.constant RX10 49 (1399743520) ∈ lw_tbl := tb_3 (i := 227) rfl
theorem tq_281 : Cond.constant RX10 50 (1147237473) ∈ lw_tbl := tb_3 (i := 228) rfl
theorem tq_282 : Cond.constant RX10 51 (1165518179) ∈ lw_tbl := tb_3 (i := 229) rfl
theorem tq_283 : Cond.methodLink RX10 110 yX10_take ∈ lw_tbl := tb_3 (i := 230) rfl
theorem tq_284 : Cond.instanceMethod yX10_take ∈ lw_tbl := tb_3 (i := 232) rfl
theorem tq_285 : Cond.selects RX10 yX10_take yX10_take ∈ lw_tbl := tb_0 (i := 13) rfl
theorem tq_286 : Cond.code yX10_take cX10_take 4 none ∈ lw_tbl := tb_3 (i := 233) rfl
theorem tq_287 : Cond.fieldLink RX10 116 "BlorbRowsModel" "used" "I" ∈ lw_tbl := tb_3 (i := 120) rfl
theorem tq_288 : Cond.fieldLink RX10 119 "BlorbRowsModel" "entries" "I" ∈ lw_tbl := tb_3 (i := 127) rfl
theorem wkX10_read_r3 : ∀ w ∈ wsX10_read_r3, w ∈ lw_tbl := List.forall_mem_cons.mpr ⟨tq_277, List.forall_mem_cons.mpr ⟨tq_278, List.forall_mem_cons.mpr ⟨tq_279, List.forall_mem_cons.mpr ⟨tq_280, List.forall_mem_cons.mpr ⟨tq_281, List.forall_mem_cons.mpr ⟨tq_282, List.forall_mem_cons.mpr ⟨tq_283, List.forall_mem_cons.mpr ⟨tq_284, List.forall_mem_cons.mpr ⟨tq_285, List.forall_mem_cons.mpr ⟨tq_286, List.forall_mem_cons.mpr ⟨tq_287, List.forall_mem_cons.mpr ⟨tq_56, List.forall_mem_cons.mpr ⟨tq_57, List.forall_mem_cons.mpr ⟨tq_55, List.forall_mem_cons.mpr ⟨tq_288, List.forall_mem_cons.mpr ⟨tq_58, List.forall_mem_cons.mpr ⟨tq_59, List.forall_mem_cons.mpr ⟨tq_60, fun _ h => absurd h List.not_mem_nil⟩⟩⟩⟩⟩⟩⟩⟩⟩⟩⟩⟩⟩⟩⟩⟩⟩⟩
set_option maxRecDepth 20000 in
theorem gwX10_read : GoodIn lw_tbl wsX10_read := goodIn_sub (List.forall_mem_cons.mpr ⟨tq_237, (List.forall_mem_append.mpr ⟨(List.forall_mem_append.mpr ⟨wkX10_read_r1, (List.forall_mem_append.mpr ⟨wkX10_read_r2, wkX10_read_r3⟩)⟩), inT_i10⟩)⟩) (by decide +kernel)
theorem tq_289 : Cond.methodLink RL 29 yX10_read ∈ lw_tbl := tb_3 (i := 185) rfl
theorem tq_290 : Cond.instanceMethod yX10_read ∈ lw_tbl := tb_3 (i := 186) rfl
theorem tq_291 : Cond.selects RX10 yX10_read yX10_read ∈ lw_tbl := tb_3 (i := 187) rfl
set_option maxRecDepth 20000 in
theorem gc_X10_read : GoodIn lw_tbl (wsV RL 29 RX10 yX10_read wsX10_read) := goodIn_app (goodIn_sub (List.forall_mem_cons.mpr ⟨tq_289, List.forall_mem_cons.mpr ⟨tq_290, List.forall_mem_cons.mpr ⟨tq_291, List.forall_mem_cons.mpr ⟨tq_85, fun _ h => absurd h List.not_mem_nil⟩⟩⟩⟩) (by decide +kernel)) gwX10_read
theorem tq_292 : Cond.code yX9_place cX9_place 1 (some .int) ∈ lw_tbl := tb_2 (i := 39) rfl
set_option maxRecDepth 20000 in
theorem gwX9_place : GoodIn lw_tbl wsX9_place := goodIn_sub (List.forall_mem_cons.mpr ⟨tq_292, (List.forall_mem_append.mpr ⟨(List.forall_mem_cons.mpr ⟨tq_17, fun _ h => absurd h List.not_mem_nil⟩), inT_i9⟩)⟩) (by decide +kernel)
theorem tq_293 : Cond.methodLink RL 30 yX9_place ∈ lw_tbl := tb_2 (i := 36) rfl
theorem tq_294 : Cond.instanceMethod yX9_place ∈ lw_tbl := tb_2 (i := 37) rfl
theorem tq_295 : Cond.selects RX9 yX9_place yX9_place ∈ lw_tbl := tb_2 (i := 38) rfl
set_option maxRecDepth 20000 in
theorem gc_X9_place : GoodIn lw_tbl (wsV RL 30 RX9 yX9_place wsX9_place) := goodIn_app (goodIn_sub (List.forall_mem_cons.mpr ⟨tq_293, List.forall_mem_cons.mpr ⟨tq_294, List.forall_mem_cons.mpr ⟨tq_295, List.forall_mem_cons.mpr ⟨tq_78, fun _ h => absurd h List.not_mem_nil⟩⟩⟩⟩) (by decide +kernel)) gwX9_place
theorem tq_296 : Cond.code yX10_place cX10_place 1 (some .int) ∈ lw_tbl := tb_3 (i := 237) rfl
set_option maxRecDepth 20000 in
theorem gwX10_place : GoodIn lw_tbl wsX10_place := goodIn_sub (List.forall_mem_cons.mpr ⟨tq_296, (List.forall_mem_append.mpr ⟨(List.forall_mem_cons.mpr ⟨tq_62, fun _ h => absurd h List.not_mem_nil⟩), inT_i10⟩)⟩) (by decide +kernel)
theorem tq_297 : Cond.methodLink RL 33 yX10_place ∈ lw_tbl := tb_3 (i := 234) rfl
theorem tq_298 : Cond.instanceMethod yX10_place ∈ lw_tbl := tb_3 (i := 235) rfl
theorem tq_299 : Cond.selects RX10 yX10_place yX10_place ∈ lw_tbl := tb_3 (i := 236) rfl
set_option maxRecDepth 20000 in
theorem gc_X10_place : GoodIn lw_tbl (wsV RL 33 RX10 yX10_place wsX10_place) := goodIn_app (goodIn_sub (List.forall_mem_cons.mpr ⟨tq_297, List.forall_mem_cons.mpr ⟨tq_298, List.forall_mem_cons.mpr ⟨tq_299, List.forall_mem_cons.mpr ⟨tq_85, fun _ h => absurd h List.not_mem_nil⟩⟩⟩⟩) (by decide +kernel)) gwX10_place
theorem tq_300 : Cond.code yX9_told cX9_told 2 (some .int) ∈ lw_tbl := tb_2 (i := 43) rfl
theorem tq_301 : Cond.fieldLink RX9 71 "BlorbRows$House" "entries" "I" ∈ lw_tbl := tb_1 (i := 64) rfl
theorem tq_302 : Cond.fieldLink RX9 74 "BlorbRows$House" "data" "LBlorbRows$Row;" ∈ lw_tbl := tb_1 (i := 52) rfl
set_option maxRecDepth 20000 in
theorem gwX9_told : GoodIn lw_tbl wsX9_told := goodIn_sub (List.forall_mem_cons.mpr ⟨tq_300, (List.forall_mem_append.mpr ⟨(List.forall_mem_append.mpr ⟨(List.forall_mem_append.mpr ⟨(List.forall_mem_cons.mpr ⟨tq_12, List.forall_mem_cons.mpr ⟨tq_104, List.forall_mem_cons.mpr ⟨tq_301, List.forall_mem_cons.mpr ⟨tq_302, List.forall_mem_cons.mpr ⟨tq_65, List.forall_mem_cons.mpr ⟨tq_7, List.forall_mem_cons.mpr ⟨tq_8, fun _ h => absurd h List.not_mem_nil⟩⟩⟩⟩⟩⟩⟩), inT_i9⟩), inT_i0⟩), inT_i6⟩)⟩) (by decide +kernel)
theorem tq_303 : Cond.methodLink RL 34 yX9_told ∈ lw_tbl := tb_2 (i := 40) rfl
theorem tq_304 : Cond.instanceMethod yX9_told ∈ lw_tbl := tb_2 (i := 41) rfl
theorem tq_305 : Cond.selects RX9 yX9_told yX9_told ∈ lw_tbl := tb_2 (i := 42) rfl
set_option maxRecDepth 20000 in
theorem gc_X9_told : GoodIn lw_tbl (wsV RL 34 RX9 yX9_told wsX9_told) := goodIn_app (goodIn_sub (List.forall_mem_cons.mpr ⟨tq_303, List.forall_mem_cons.mpr ⟨tq_304, List.forall_mem_cons.mpr ⟨tq_305, List.forall_mem_cons.mpr ⟨tq_78, fun _ h => absurd h List.not_mem_nil⟩⟩⟩⟩) (by decide +kernel)) gwX9_told
theorem tq_306 : Cond.code yX10_told cX10_told 2 (some .int) ∈ lw_tbl := tb_4 (i := 1) rfl
theorem tq_307 : Cond.fieldLink RX10 122 "BlorbRowsModel" "outSize" "I" ∈ lw_tbl := tb_3 (i := 129) rfl
set_option maxRecDepth 20000 in
theorem gwX10_told : GoodIn lw_tbl wsX10_told := goodIn_sub (List.forall_mem_cons.mpr ⟨tq_306, (List.forall_mem_append.mpr ⟨(List.forall_mem_cons.mpr ⟨tq_239, List.forall_mem_cons.mpr ⟨tq_288, List.forall_mem_cons.mpr ⟨tq_287, List.forall_mem_cons.mpr ⟨tq_81, List.forall_mem_cons.mpr ⟨tq_307, fun _ h => absurd h List.not_mem_nil⟩⟩⟩⟩⟩), inT_i10⟩)⟩) (by decide +kernel)
theorem tq_308 : Cond.methodLink RL 37 yX10_told ∈ lw_tbl := tb_3 (i := 238) rfl
theorem tq_309 : Cond.instanceMethod yX10_told ∈ lw_tbl := tb_3 (i := 239) rfl
theorem tq_310 : Cond.selects RX10 yX10_told yX10_told ∈ lw_tbl := tb_4 (i := 0) rfl
set_option maxRecDepth 20000 in
theorem gc_X10_told : GoodIn lw_tbl (wsV RL 37 RX10 yX10_told wsX10_told) := goodIn_app (goodIn_sub (List.forall_mem_cons.mpr ⟨tq_308, List.forall_mem_cons.mpr ⟨tq_309, List.forall_mem_cons.mpr ⟨tq_310, List.forall_mem_cons.mpr ⟨tq_85, fun _ h => absurd h List.not_mem_nil⟩⟩⟩⟩) (by decide +kernel)) gwX10_told
theorem tq_311 : Cond.code yX9_chunk cX9_chunk 3 (some .int) ∈ lw_tbl := tb_2 (i := 47) rfl
theorem tq_312 : Cond.methodLink RX9 77 yX0_hasChunk ∈ lw_tbl := tb_2 (i := 48) rfl
theorem tq_313 : Cond.instanceMethod yX0_hasChunk ∈ lw_tbl := tb_2 (i := 49) rfl
theorem tq_314 : Cond.selects RX0 yX0_hasChunk yX0_hasChunk ∈ lw_tbl := tb_2 (i := 50) rfl
theorem tq_315 : Cond.code yX0_hasChunk cX0_hasChunk 2 (some .boolean) ∈ lw_tbl := tb_2 (i := 51) rfl
theorem tq_316 : Cond.methodLink RX9 81 yX0_kindOf ∈ lw_tbl := tb_2 (i := 52) rfl
theorem tq_317 : Cond.instanceMethod yX0_kindOf ∈ lw_tbl := tb_2 (i := 53) rfl
theorem tq_318 : Cond.selects RX0 yX0_kindOf yX0_kindOf ∈ lw_tbl := tb_2 (i := 54) rfl
theorem tq_319 : Cond.code yX0_kindOf cX0_kindOf 2 (some .int) ∈ lw_tbl := tb_2 (i := 55) rfl
theorem tq_320 : Cond.methodLink RX0 51 yX0_hasChunk ∈ lw_tbl := tb_2 (i := 56) rfl
theorem tq_321 : Cond.methodLink RX9 85 yX0_lengthOf ∈ lw_tbl := tb_2 (i := 57) rfl
theorem tq_322 : Cond.instanceMethod yX0_lengthOf ∈ lw_tbl := tb_2 (i := 58) rfl
theorem tq_323 : Cond.selects RX0 yX0_lengthOf yX0_lengthOf ∈ lw_tbl := tb_2 (i := 59) rfl
theorem tq_324 : Cond.code yX0_lengthOf cX0_lengthOf 2 (some .int) ∈ lw_tbl := tb_2 (i := 60) rfl
theorem tq_325 : Cond.methodLink RX9 88 yX0_placeOf ∈ lw_tbl := tb_2 (i := 61) rfl
theorem tq_326 : Cond.instanceMethod yX0_placeOf ∈ lw_tbl := tb_2 (i := 62) rfl
theorem tq_327 : Cond.selects RX0 yX0_placeOf yX0_placeOf ∈ lw_tbl := tb_2 (i := 63) rfl
theorem tq_328 : Cond.code yX0_placeOf cX0_placeOf 4 (some .int) ∈ lw_tbl := tb_2 (i := 64) rfl
theorem tq_329 : Cond.methodLink RX0 57 yX0_lengthOf ∈ lw_tbl := tb_2 (i := 65) rfl
theorem wkX9_chunk_r1 : ∀ w ∈ wsX9_chunk_r1, w ∈ lw_tbl := List.forall_mem_cons.mpr ⟨tq_12, List.forall_mem_cons.mpr ⟨tq_312, List.forall_mem_cons.mpr ⟨tq_313, List.forall_mem_cons.mpr ⟨tq_314, List.forall_mem_cons.mpr ⟨tq_11, List.forall_mem_cons.mpr ⟨tq_315, List.forall_mem_cons.mpr ⟨tq_38, List.forall_mem_cons.mpr ⟨tq_316, List.forall_mem_cons.mpr ⟨tq_317, List.forall_mem_cons.mpr ⟨tq_318, List.forall_mem_cons.mpr ⟨tq_319, List.forall_mem_cons.mpr ⟨tq_36, List.forall_mem_cons.mpr ⟨tq_320, List.forall_mem_cons.mpr ⟨tq_321, List.forall_mem_cons.mpr ⟨tq_322, List.forall_mem_cons.mpr ⟨tq_323, List.forall_mem_cons.mpr ⟨tq_324, List.forall_mem_cons.mpr ⟨tq_37, List.forall_mem_cons.mpr ⟨tq_325, List.forall_mem_cons.mpr ⟨tq_326, List.forall_mem_cons.mpr ⟨tq_327, List.forall_mem_cons.mpr ⟨tq_328, List.forall_mem_cons.mpr ⟨tq_43, List.forall_mem_cons.mpr ⟨tq_329, fun _ h => absurd h List.not_mem_nil⟩⟩⟩⟩⟩⟩⟩⟩⟩⟩⟩⟩⟩⟩⟩⟩⟩⟩⟩⟩⟩⟩⟩⟩
theorem tq_330 : Cond.methodLink RX9 91 yX0_meaningsOf ∈ lw_tbl := tb_2 (i := 66) rfl
theorem tq_331 : Cond.instanceMethod yX0_meaningsOf ∈ lw_tbl := tb_2 (i := 67) rfl
theorem tq_332 : Cond.selects RX0 yX0_meaningsOf yX0_meaningsOf ∈ lw_tbl := tb_2 (i := 68) rfl
theorem tq_333 : Cond.code yX0_meaningsOf cX0_meaningsOf 4 (some .int) ∈ lw_tbl := tb_2 (i := 69) rfl
theorem wkX9_chunk_r2 : ∀ w ∈ wsX9_chunk_r2, w ∈ lw_tbl := List.forall_mem_cons.mpr ⟨tq_330, List.forall_mem_cons.mpr ⟨tq_331, List.forall_mem_cons.mpr ⟨tq_332, List.forall_mem_cons.mpr ⟨tq_333, List.forall_mem_cons.mpr ⟨tq_42, fun _ h => absurd h List.not_mem_nil⟩⟩⟩⟩⟩
set_option maxRecDepth 20000 in
theorem gwX9_chunk : GoodIn lw_tbl wsX9_chunk := goodIn_sub (List.forall_mem_cons.mpr ⟨tq_311, (List.forall_mem_append.mpr ⟨(List.forall_mem_append.mpr ⟨(List.forall_mem_append.mpr ⟨wkX9_chunk_r1, wkX9_chunk_r2⟩), inT_i9⟩), inT_i0⟩)⟩) (by decide +kernel)
theorem tq_334 : Cond.methodLink RL 38 yX9_chunk ∈ lw_tbl := tb_2 (i := 44) rfl
theorem tq_335 : Cond.instanceMethod yX9_chunk ∈ lw_tbl := tb_2 (i := 45) rfl
theorem tq_336 : Cond.selects RX9 yX9_chunk yX9_chunk ∈ lw_tbl := tb_2 (i := 46) rfl
set_option maxRecDepth 20000 in
theorem gc_X9_chunk : GoodIn lw_tbl (wsV RL 38 RX9 yX9_chunk wsX9_chunk) := goodIn_app (goodIn_sub (List.forall_mem_cons.mpr ⟨tq_334, List.forall_mem_cons.mpr ⟨tq_335, List.forall_mem_cons.mpr ⟨tq_336, List.forall_mem_cons.mpr ⟨tq_78, fun _ h => absurd h List.not_mem_nil⟩⟩⟩⟩) (by decide +kernel)) gwX9_chunk
theorem tq_337 : Cond.code yX10_chunk cX10_chunk 3 (some .int) ∈ lw_tbl := tb_4 (i := 5) rfl
theorem tq_338 : Cond.constantLong RX10 128 (3) ∈ lw_tbl := tb_4 (i := 10) rfl
theorem tq_339 : Cond.methodLink RX10 125 yX10_isChunk ∈ lw_tbl := tb_4 (i := 6) rfl
theorem tq_340 : Cond.instanceMethod yX10_isChunk ∈ lw_tbl := tb_4 (i := 8) rfl
theorem tq_341 : Cond.selects RX10 yX10_isChunk yX10_isChunk ∈ lw_tbl := tb_0 (i := 14) rfl
theorem tq_342 : Cond.code yX10_isChunk cX10_isChunk 2 (some .boolean) ∈ lw_tbl := tb_4 (i := 9) rfl
theorem tq_343 : Cond.methodLink RX10 130 yX10_placeOf ∈ lw_tbl := tb_4 (i := 11) rfl
theorem tq_344 : Cond.instanceMethod yX10_placeOf ∈ lw_tbl := tb_4 (i := 13) rfl
theorem tq_345 : Cond.selects RX10 yX10_placeOf yX10_placeOf ∈ lw_tbl := tb_0 (i := 15) rfl
theorem tq_346 : Cond.code yX10_placeOf cX10_placeOf 4 (some .int) ∈ lw_tbl := tb_4 (i := 14) rfl
theorem tq_347 : Cond.methodLink RX10 133 yX10_meant ∈ lw_tbl := tb_4 (i := 15) rfl
theorem tq_348 : Cond.instanceMethod yX10_meant ∈ lw_tbl := tb_4 (i := 17) rfl
theorem tq_349 : Cond.selects RX10 yX10_meant yX10_meant ∈ lw_tbl := tb_0 (i := 16) rfl
theorem tq_350 : Cond.code yX10_meant cX10_meant 4 (some .int) ∈ lw_tbl := tb_4 (i := 18) rfl
set_option maxRecDepth 20000 in
theorem gwX10_chunk : GoodIn lw_tbl wsX10_chunk := goodIn_sub (List.forall_mem_cons.mpr ⟨tq_337, (List.forall_mem_append.mpr ⟨(List.forall_mem_cons.mpr ⟨tq_338, List.forall_mem_cons.mpr ⟨tq_56, List.forall_mem_cons.mpr ⟨tq_57, List.forall_mem_cons.mpr ⟨tq_339, List.forall_mem_cons.mpr ⟨tq_340, List.forall_mem_cons.mpr ⟨tq_341, List.forall_mem_cons.mpr ⟨tq_85, List.forall_mem_cons.mpr ⟨tq_342, List.forall_mem_cons.mpr ⟨tq_239, List.forall_mem_cons.mpr ⟨tq_83, List.forall_mem_cons.mpr ⟨tq_84, List.forall_mem_cons.mpr ⟨tq_86, List.forall_mem_cons.mpr ⟨tq_343, List.forall_mem_cons.mpr ⟨tq_344, List.forall_mem_cons.mpr ⟨tq_345, List.forall_mem_cons.mpr ⟨tq_346, List.forall_mem_cons.mpr ⟨tq_288, List.forall_mem_cons.mpr ⟨tq_347, List.forall_mem_cons.mpr ⟨tq_348, List.forall_mem_cons.mpr ⟨tq_349, List.forall_mem_cons.mpr ⟨tq_350, List.forall_mem_cons.mpr ⟨tq_60, fun _ h => absurd h List.not_mem_nil⟩⟩⟩⟩⟩⟩⟩⟩⟩⟩⟩⟩⟩⟩⟩⟩⟩⟩⟩⟩⟩⟩), inT_i10⟩)⟩) (by decide +kernel)
theorem tq_351 : Cond.methodLink RL 42 yX10_chunk ∈ lw_tbl := tb_4 (i := 2) rfl
theorem tq_352 : Cond.instanceMethod yX10_chunk ∈ lw_tbl := tb_4 (i := 3) rfl
theorem tq_353 : Cond.selects RX10 yX10_chunk yX10_chunk ∈ lw_tbl := tb_4 (i := 4) rfl
set_option maxRecDepth 20000 in
theorem gc_X10_chunk : GoodIn lw_tbl (wsV RL 42 RX10 yX10_chunk wsX10_chunk) := goodIn_app (goodIn_sub (List.forall_mem_cons.mpr ⟨tq_351, List.forall_mem_cons.mpr ⟨tq_352, List.forall_mem_cons.mpr ⟨tq_353, List.forall_mem_cons.mpr ⟨tq_85, fun _ h => absurd h List.not_mem_nil⟩⟩⟩⟩) (by decide +kernel)) gwX10_chunk
theorem tq_354 : Cond.code yX9_octet cX9_octet 4 (some .int) ∈ lw_tbl := tb_2 (i := 73) rfl
theorem tq_355 : Cond.methodLink RX9 94 yX0_dataOf ∈ lw_tbl := tb_2 (i := 74) rfl
theorem tq_356 : Cond.instanceMethod yX0_dataOf ∈ lw_tbl := tb_2 (i := 75) rfl
theorem tq_357 : Cond.selects RX0 yX0_dataOf yX0_dataOf ∈ lw_tbl := tb_2 (i := 76) rfl
theorem tq_358 : Cond.code yX0_dataOf cX0_dataOf 2 (some (.object "BlorbRows$Part")) ∈ lw_tbl := tb_2 (i := 77) rfl
theorem tq_359 : Cond.classLink RX0 55 RX3 ∈ lw_tbl := tb_2 (i := 78) rfl
theorem tq_360 : Cond.methodLink RX0 61 yX3_init ∈ lw_tbl := tb_2 (i := 79) rfl
theorem wkX9_octet_r1 : ∀ w ∈ wsX9_octet_r1, w ∈ lw_tbl := List.forall_mem_cons.mpr ⟨tq_12, List.forall_mem_cons.mpr ⟨tq_355, List.forall_mem_cons.mpr ⟨tq_356, List.forall_mem_cons.mpr ⟨tq_357, List.forall_mem_cons.mpr ⟨tq_11, List.forall_mem_cons.mpr ⟨tq_358, List.forall_mem_cons.mpr ⟨tq_359, List.forall_mem_cons.mpr ⟨tq_110, List.forall_mem_cons.mpr ⟨tq_111, List.forall_mem_cons.mpr ⟨tq_34, List.forall_mem_cons.mpr ⟨tq_37, List.forall_mem_cons.mpr ⟨tq_320, List.forall_mem_cons.mpr ⟨tq_313, List.forall_mem_cons.mpr ⟨tq_314, List.forall_mem_cons.mpr ⟨tq_315, List.forall_mem_cons.mpr ⟨tq_38, List.forall_mem_cons.mpr ⟨tq_329, List.forall_mem_cons.mpr ⟨tq_322, List.forall_mem_cons.mpr ⟨tq_323, List.forall_mem_cons.mpr ⟨tq_324, List.forall_mem_cons.mpr ⟨tq_360, List.forall_mem_cons.mpr ⟨tq_113, List.forall_mem_cons.mpr ⟨tq_114, List.forall_mem_cons.mpr ⟨tq_115, fun _ h => absurd h List.not_mem_nil⟩⟩⟩⟩⟩⟩⟩⟩⟩⟩⟩⟩⟩⟩⟩⟩⟩⟩⟩⟩⟩⟩⟩⟩
theorem tq_361 : Cond.methodLink RX9 98 yX3_holds ∈ lw_tbl := tb_2 (i := 80) rfl
theorem tq_362 : Cond.methodLink RX9 104 yX3_at ∈ lw_tbl := tb_2 (i := 81) rfl
theorem wkX9_octet_r2 : ∀ w ∈ wsX9_octet_r2, w ∈ lw_tbl := List.forall_mem_cons.mpr ⟨tq_2, List.forall_mem_cons.mpr ⟨tq_3, List.forall_mem_cons.mpr ⟨tq_116, List.forall_mem_cons.mpr ⟨tq_117, List.forall_mem_cons.mpr ⟨tq_118, List.forall_mem_cons.mpr ⟨tq_119, List.forall_mem_cons.mpr ⟨tq_361, List.forall_mem_cons.mpr ⟨tq_146, List.forall_mem_cons.mpr ⟨tq_147, List.forall_mem_cons.mpr ⟨tq_148, List.forall_mem_cons.mpr ⟨tq_362, List.forall_mem_cons.mpr ⟨tq_167, List.forall_mem_cons.mpr ⟨tq_168, List.forall_mem_cons.mpr ⟨tq_169, List.forall_mem_cons.mpr ⟨tq_139, List.forall_mem_cons.mpr ⟨tq_140, List.forall_mem_cons.mpr ⟨tq_141, List.forall_mem_cons.mpr ⟨tq_142, List.forall_mem_cons.mpr ⟨tq_143, List.forall_mem_cons.mpr ⟨tq_144, List.forall_mem_cons.mpr ⟨tq_145, fun _ h => absurd h List.not_mem_nil⟩⟩⟩⟩⟩⟩⟩⟩⟩⟩⟩⟩⟩⟩⟩⟩⟩⟩⟩⟩⟩
set_option maxRecDepth 20000 in
theorem gwX9_octet : GoodIn lw_tbl wsX9_octet := goodIn_sub (List.forall_mem_cons.mpr ⟨tq_354, (List.forall_mem_append.mpr ⟨(List.forall_mem_append.mpr ⟨(List.forall_mem_append.mpr ⟨(List.forall_mem_append.mpr ⟨(List.forall_mem_append.mpr ⟨wkX9_octet_r1, wkX9_octet_r2⟩), inT_i9⟩), inT_i3⟩), inT_i0⟩), inT_i6⟩)⟩) (by decide +kernel)
theorem tq_363 : Cond.methodLink RL 43 yX9_octet ∈ lw_tbl := tb_2 (i := 70) rfl
theorem tq_364 : Cond.instanceMethod yX9_octet ∈ lw_tbl := tb_2 (i := 71) rfl
theorem tq_365 : Cond.selects RX9 yX9_octet yX9_octet ∈ lw_tbl := tb_2 (i := 72) rfl
set_option maxRecDepth 20000 in
theorem gc_X9_octet : GoodIn lw_tbl (wsV RL 43 RX9 yX9_octet wsX9_octet) := goodIn_app (goodIn_sub (List.forall_mem_cons.mpr ⟨tq_363, List.forall_mem_cons.mpr ⟨tq_364, List.forall_mem_cons.mpr ⟨tq_365, List.forall_mem_cons.mpr ⟨tq_78, fun _ h => absurd h List.not_mem_nil⟩⟩⟩⟩) (by decide +kernel)) gwX9_octet
theorem tq_366 : Cond.code yX10_octet cX10_octet 3 (some .int) ∈ lw_tbl := tb_4 (i := 22) rfl
theorem tq_367 : Cond.methodLink RX10 136 yX10_fromOf ∈ lw_tbl := tb_4 (i := 23) rfl
theorem tq_368 : Cond.instanceMethod yX10_fromOf ∈ lw_tbl := tb_4 (i := 25) rfl
theorem tq_369 : Cond.selects RX10 yX10_fromOf yX10_fromOf ∈ lw_tbl := tb_0 (i := 17) rfl
theorem tq_370 : Cond.code yX10_fromOf cX10_fromOf 4 (some .int) ∈ lw_tbl := tb_4 (i := 26) rfl
set_option maxRecDepth 20000 in
theorem gwX10_octet : GoodIn lw_tbl wsX10_octet := goodIn_sub (List.forall_mem_cons.mpr ⟨tq_366, (List.forall_mem_append.mpr ⟨(List.forall_mem_cons.mpr ⟨tq_57, List.forall_mem_cons.mpr ⟨tq_55, List.forall_mem_cons.mpr ⟨tq_339, List.forall_mem_cons.mpr ⟨tq_340, List.forall_mem_cons.mpr ⟨tq_341, List.forall_mem_cons.mpr ⟨tq_85, List.forall_mem_cons.mpr ⟨tq_342, List.forall_mem_cons.mpr ⟨tq_239, List.forall_mem_cons.mpr ⟨tq_83, List.forall_mem_cons.mpr ⟨tq_84, List.forall_mem_cons.mpr ⟨tq_86, List.forall_mem_cons.mpr ⟨tq_367, List.forall_mem_cons.mpr ⟨tq_368, List.forall_mem_cons.mpr ⟨tq_369, List.forall_mem_cons.mpr ⟨tq_370, fun _ h => absurd h List.not_mem_nil⟩⟩⟩⟩⟩⟩⟩⟩⟩⟩⟩⟩⟩⟩⟩), inT_i10⟩)⟩) (by decide +kernel)
theorem tq_371 : Cond.methodLink RL 46 yX10_octet ∈ lw_tbl := tb_4 (i := 19) rfl
theorem tq_372 : Cond.instanceMethod yX10_octet ∈ lw_tbl := tb_4 (i := 20) rfl
theorem tq_373 : Cond.selects RX10 yX10_octet yX10_octet ∈ lw_tbl := tb_4 (i := 21) rfl
set_option maxRecDepth 20000 in
theorem gc_X10_octet : GoodIn lw_tbl (wsV RL 46 RX10 yX10_octet wsX10_octet) := goodIn_app (goodIn_sub (List.forall_mem_cons.mpr ⟨tq_371, List.forall_mem_cons.mpr ⟨tq_372, List.forall_mem_cons.mpr ⟨tq_373, List.forall_mem_cons.mpr ⟨tq_85, fun _ h => absurd h List.not_mem_nil⟩⟩⟩⟩) (by decide +kernel)) gwX10_octet
theorem tq_374 : Cond.code yX9_entry cX9_entry 3 (some .long) ∈ lw_tbl := tb_2 (i := 85) rfl
theorem tq_375 : Cond.constantLong RX9 110 (-1) ∈ lw_tbl := tb_2 (i := 90) rfl
theorem tq_376 : Cond.fieldLink RX9 112 "BlorbRows$House" "uses" "[I" ∈ lw_tbl := tb_1 (i := 58) rfl
theorem tq_377 : Cond.fieldLink RX9 116 "BlorbRows$House" "numbers" "[J" ∈ lw_tbl := tb_1 (i := 60) rfl
theorem tq_378 : Cond.fieldLink RX9 120 "BlorbRows$House" "targets" "[I" ∈ lw_tbl := tb_1 (i := 62) rfl
theorem tq_379 : Cond.methodLink RX9 107 yX0_hasEntry ∈ lw_tbl := tb_2 (i := 86) rfl
theorem tq_380 : Cond.instanceMethod yX0_hasEntry ∈ lw_tbl := tb_2 (i := 87) rfl
theorem tq_381 : Cond.selects RX0 yX0_hasEntry yX0_hasEntry ∈ lw_tbl := tb_2 (i := 88) rfl
theorem tq_382 : Cond.code yX0_hasEntry cX0_hasEntry 2 (some .boolean) ∈ lw_tbl := tb_2 (i := 89) rfl
theorem tq_383 : Cond.methodLink RX9 123 yX0_goes ∈ lw_tbl := tb_2 (i := 91) rfl
theorem tq_384 : Cond.instanceMethod yX0_goes ∈ lw_tbl := tb_2 (i := 92) rfl
theorem tq_385 : Cond.selects RX0 yX0_goes yX0_goes ∈ lw_tbl := tb_2 (i := 93) rfl
theorem tq_386 : Cond.code yX0_goes cX0_goes 3 (some .boolean) ∈ lw_tbl := tb_2 (i := 94) rfl
theorem tq_387 : Cond.methodLink RX0 64 yX0_hasEntry ∈ lw_tbl := tb_2 (i := 95) rfl
theorem tq_388 : Cond.methodLink RX0 67 yX0_kindOf ∈ lw_tbl := tb_2 (i := 96) rfl
theorem wkX9_entry_r1 : ∀ w ∈ wsX9_entry_r1, w ∈ lw_tbl := List.forall_mem_cons.mpr ⟨tq_12, List.forall_mem_cons.mpr ⟨tq_375, List.forall_mem_cons.mpr ⟨tq_376, List.forall_mem_cons.mpr ⟨tq_377, List.forall_mem_cons.mpr ⟨tq_378, List.forall_mem_cons.mpr ⟨tq_379, List.forall_mem_cons.mpr ⟨tq_380, List.forall_mem_cons.mpr ⟨tq_381, List.forall_mem_cons.mpr ⟨tq_11, List.forall_mem_cons.mpr ⟨tq_382, List.forall_mem_cons.mpr ⟨tq_43, List.forall_mem_cons.mpr ⟨tq_383, List.forall_mem_cons.mpr ⟨tq_384, List.forall_mem_cons.mpr ⟨tq_385, List.forall_mem_cons.mpr ⟨tq_386, List.forall_mem_cons.mpr ⟨tq_42, List.forall_mem_cons.mpr ⟨tq_39, List.forall_mem_cons.mpr ⟨tq_387, List.forall_mem_cons.mpr ⟨tq_388, List.forall_mem_cons.mpr ⟨tq_317, List.forall_mem_cons.mpr ⟨tq_318, List.forall_mem_cons.mpr ⟨tq_319, List.forall_mem_cons.mpr ⟨tq_36, List.forall_mem_cons.mpr ⟨tq_320, fun _ h => absurd h List.not_mem_nil⟩⟩⟩⟩⟩⟩⟩⟩⟩⟩⟩⟩⟩⟩⟩⟩⟩⟩⟩⟩⟩⟩⟩⟩
theorem tq_389 : Cond.methodLink RX0 70 yX0_dataOf ∈ lw_tbl := tb_2 (i := 97) rfl
theorem wkX9_entry_r2 : ∀ w ∈ wsX9_entry_r2, w ∈ lw_tbl := List.forall_mem_cons.mpr ⟨tq_313, List.forall_mem_cons.mpr ⟨tq_314, List.forall_mem_cons.mpr ⟨tq_315, List.forall_mem_cons.mpr ⟨tq_38, List.forall_mem_cons.mpr ⟨tq_389, List.forall_mem_cons.mpr ⟨tq_356, List.forall_mem_cons.mpr ⟨tq_357, List.forall_mem_cons.mpr ⟨tq_358, List.forall_mem_cons.mpr ⟨tq_359, List.forall_mem_cons.mpr ⟨tq_110, List.forall_mem_cons.mpr ⟨tq_111, List.forall_mem_cons.mpr ⟨tq_34, List.forall_mem_cons.mpr ⟨tq_37, List.forall_mem_cons.mpr ⟨tq_329, List.forall_mem_cons.mpr ⟨tq_322, List.forall_mem_cons.mpr ⟨tq_323, List.forall_mem_cons.mpr ⟨tq_324, List.forall_mem_cons.mpr ⟨tq_360, List.forall_mem_cons.mpr ⟨tq_113, List.forall_mem_cons.mpr ⟨tq_114, List.forall_mem_cons.mpr ⟨tq_115, List.forall_mem_cons.mpr ⟨tq_2, List.forall_mem_cons.mpr ⟨tq_3, List.forall_mem_cons.mpr ⟨tq_116, fun _ h => absurd h List.not_mem_nil⟩⟩⟩⟩⟩⟩⟩⟩⟩⟩⟩⟩⟩⟩⟩⟩⟩⟩⟩⟩⟩⟩⟩⟩
theorem tq_390 : Cond.methodLink RX0 74 yX2_goTogether ∈ lw_tbl := tb_2 (i := 98) rfl
theorem tq_391 : Cond.static yX2_goTogether ∈ lw_tbl := tb_2 (i := 99) rfl
theorem tq_392 : Cond.code yX2_goTogether cX2_goTogether 3 (some .boolean) ∈ lw_tbl := tb_2 (i := 100) rfl
theorem tq_393 : Cond.constant RX2 17 (1347307296) ∈ lw_tbl := tb_2 (i := 101) rfl
theorem tq_394 : Cond.constant RX2 18 (1246774599) ∈ lw_tbl := tb_2 (i := 102) rfl
theorem tq_395 : Cond.constant RX2 19 (1382376308) ∈ lw_tbl := tb_2 (i := 103) rfl
theorem tq_396 : Cond.constant RX2 20 (1330071382) ∈ lw_tbl := tb_2 (i := 104) rfl
theorem tq_397 : Cond.constant RX2 21 (1297040416) ∈ lw_tbl := tb_2 (i := 105) rfl
theorem tq_398 : Cond.constant RX2 22 (1397706311) ∈ lw_tbl := tb_2 (i := 106) rfl
theorem tq_399 : Cond.constant RX2 23 (1179603533) ∈ lw_tbl := tb_2 (i := 107) rfl
theorem tq_400 : Cond.constantLong RX2 30 (1095321158) ∈ lw_tbl := tb_2 (i := 109) rfl
theorem tq_401 : Cond.constant RX2 32 (1413830740) ∈ lw_tbl := tb_2 (i := 110) rfl
theorem tq_402 : Cond.constant RX2 33 (1112100417) ∈ lw_tbl := tb_2 (i := 111) rfl
theorem tq_403 : Cond.constant RX2 34 (1514360644) ∈ lw_tbl := tb_2 (i := 112) rfl
theorem tq_404 : Cond.constant RX2 35 (1196184908) ∈ lw_tbl := tb_2 (i := 113) rfl
theorem tq_405 : Cond.methodLink RX2 24 yX3_u4 ∈ lw_tbl := tb_2 (i := 108) rfl
theorem wkX9_entry_r3 : ∀ w ∈ wsX9_entry_r3, w ∈ lw_tbl := List.forall_mem_cons.mpr ⟨tq_117, List.forall_mem_cons.mpr ⟨tq_118, List.forall_mem_cons.mpr ⟨tq_119, List.forall_mem_cons.mpr ⟨tq_390, List.forall_mem_cons.mpr ⟨tq_391, List.forall_mem_cons.mpr ⟨tq_161, List.forall_mem_cons.mpr ⟨tq_392, List.forall_mem_cons.mpr ⟨tq_393, List.forall_mem_cons.mpr ⟨tq_394, List.forall_mem_cons.mpr ⟨tq_395, List.forall_mem_cons.mpr ⟨tq_396, List.forall_mem_cons.mpr ⟨tq_397, List.forall_mem_cons.mpr ⟨tq_398, List.forall_mem_cons.mpr ⟨tq_399, List.forall_mem_cons.mpr ⟨tq_400, List.forall_mem_cons.mpr ⟨tq_401, List.forall_mem_cons.mpr ⟨tq_402, List.forall_mem_cons.mpr ⟨tq_403, List.forall_mem_cons.mpr ⟨tq_404, List.forall_mem_cons.mpr ⟨tq_405, List.forall_mem_cons.mpr ⟨tq_136, List.forall_mem_cons.mpr ⟨tq_137, List.forall_mem_cons.mpr ⟨tq_138, List.forall_mem_cons.mpr ⟨tq_139, fun _ h => absurd h List.not_mem_nil⟩⟩⟩⟩⟩⟩⟩⟩⟩⟩⟩⟩⟩⟩⟩⟩⟩⟩⟩⟩⟩⟩⟩⟩
theorem wkX9_entry_r4 : ∀ w ∈ wsX9_entry_r4, w ∈ lw_tbl := List.forall_mem_cons.mpr ⟨tq_140, List.forall_mem_cons.mpr ⟨tq_141, List.forall_mem_cons.mpr ⟨tq_142, List.forall_mem_cons.mpr ⟨tq_143, List.forall_mem_cons.mpr ⟨tq_144, List.forall_mem_cons.mpr ⟨tq_145, List.forall_mem_cons.mpr ⟨tq_146, List.forall_mem_cons.mpr ⟨tq_147, List.forall_mem_cons.mpr ⟨tq_148, fun _ h => absurd h List.not_mem_nil⟩⟩⟩⟩⟩⟩⟩⟩⟩
set_option maxRecDepth 20000 in
theorem gwX9_entry : GoodIn lw_tbl wsX9_entry := goodIn_sub (List.forall_mem_cons.mpr ⟨tq_374, (List.forall_mem_append.mpr ⟨(List.forall_mem_append.mpr ⟨(List.forall_mem_append.mpr ⟨(List.forall_mem_append.mpr ⟨(List.forall_mem_append.mpr ⟨wkX9_entry_r1, (List.forall_mem_append.mpr ⟨wkX9_entry_r2, (List.forall_mem_append.mpr ⟨wkX9_entry_r3, wkX9_entry_r4⟩)⟩)⟩), inT_i9⟩), inT_i0⟩), inT_i3⟩), inT_i6⟩)⟩) (by decide +kernel)
theorem tq_406 : Cond.methodLink RL 47 yX9_entry ∈ lw_tbl := tb_2 (i := 82) rfl
theorem tq_407 : Cond.instanceMethod yX9_entry ∈ lw_tbl := tb_2 (i := 83) rfl
theorem tq_408 : Cond.selects RX9 yX9_entry yX9_entry ∈ lw_tbl := tb_2 (i := 84) rfl
set_option maxRecDepth 20000 in
theorem gc_X9_entry : GoodIn lw_tbl (wsV RL 47 RX9 yX9_entry wsX9_entry) := goodIn_app (goodIn_sub (List.forall_mem_cons.mpr ⟨tq_406, List.forall_mem_cons.mpr ⟨tq_407, List.forall_mem_cons.mpr ⟨tq_408, List.forall_mem_cons.mpr ⟨tq_78, fun _ h => absurd h List.not_mem_nil⟩⟩⟩⟩) (by decide +kernel)) gwX9_entry
theorem tq_409 : Cond.code yX10_entry cX10_entry 3 (some .long) ∈ lw_tbl := tb_4 (i := 30) rfl
theorem tq_410 : Cond.constantLong RX10 150 (-1) ∈ lw_tbl := tb_4 (i := 31) rfl
theorem tq_411 : Cond.methodLink RX10 152 yX10_goes ∈ lw_tbl := tb_4 (i := 32) rfl
theorem tq_412 : Cond.instanceMethod yX10_goes ∈ lw_tbl := tb_4 (i := 34) rfl
theorem tq_413 : Cond.selects RX10 yX10_goes yX10_goes ∈ lw_tbl := tb_0 (i := 18) rfl
theorem tq_414 : Cond.code yX10_goes cX10_goes 4 (some .boolean) ∈ lw_tbl := tb_4 (i := 35) rfl
theorem tq_415 : Cond.constant RX10 139 (1347307296) ∈ lw_tbl := tb_4 (i := 36) rfl
theorem tq_416 : Cond.constant RX10 140 (1246774599) ∈ lw_tbl := tb_4 (i := 37) rfl
theorem tq_417 : Cond.constant RX10 141 (1382376308) ∈ lw_tbl := tb_4 (i := 38) rfl
theorem tq_418 : Cond.constant RX10 142 (1095321158) ∈ lw_tbl := tb_4 (i := 39) rfl
theorem wkX10_entry_r1 : ∀ w ∈ wsX10_entry_r1, w ∈ lw_tbl := List.forall_mem_cons.mpr ⟨tq_288, List.forall_mem_cons.mpr ⟨tq_338, List.forall_mem_cons.mpr ⟨tq_410, List.forall_mem_cons.mpr ⟨tq_58, List.forall_mem_cons.mpr ⟨tq_59, List.forall_mem_cons.mpr ⟨tq_60, List.forall_mem_cons.mpr ⟨tq_83, List.forall_mem_cons.mpr ⟨tq_84, List.forall_mem_cons.mpr ⟨tq_85, List.forall_mem_cons.mpr ⟨tq_86, List.forall_mem_cons.mpr ⟨tq_411, List.forall_mem_cons.mpr ⟨tq_412, List.forall_mem_cons.mpr ⟨tq_413, List.forall_mem_cons.mpr ⟨tq_414, List.forall_mem_cons.mpr ⟨tq_56, List.forall_mem_cons.mpr ⟨tq_279, List.forall_mem_cons.mpr ⟨tq_415, List.forall_mem_cons.mpr ⟨tq_416, List.forall_mem_cons.mpr ⟨tq_417, List.forall_mem_cons.mpr ⟨tq_280, List.forall_mem_cons.mpr ⟨tq_244, List.forall_mem_cons.mpr ⟨tq_57, List.forall_mem_cons.mpr ⟨tq_55, List.forall_mem_cons.mpr ⟨tq_418, fun _ h => absurd h List.not_mem_nil⟩⟩⟩⟩⟩⟩⟩⟩⟩⟩⟩⟩⟩⟩⟩⟩⟩⟩⟩⟩⟩⟩⟩⟩
theorem tq_419 : Cond.constant RX10 143 (1330071382) ∈ lw_tbl := tb_4 (i := 40) rfl
theorem tq_420 : Cond.constant RX10 144 (1297040416) ∈ lw_tbl := tb_4 (i := 41) rfl
theorem tq_421 : Cond.constant RX10 145 (1397706311) ∈ lw_tbl := tb_4 (i := 42) rfl
theorem tq_422 : Cond.constant RX10 146 (1413830740) ∈ lw_tbl := tb_4 (i := 43) rfl
theorem tq_423 : Cond.constant RX10 147 (1112100417) ∈ lw_tbl := tb_4 (i := 44) rfl
theorem tq_424 : Cond.constant RX10 148 (1514360644) ∈ lw_tbl := tb_4 (i := 45) rfl
theorem tq_425 : Cond.constant RX10 149 (1196184908) ∈ lw_tbl := tb_4 (i := 46) rfl
theorem wkX10_entry_r2 : ∀ w ∈ wsX10_entry_r2, w ∈ lw_tbl := List.forall_mem_cons.mpr ⟨tq_419, List.forall_mem_cons.mpr ⟨tq_420, List.forall_mem_cons.mpr ⟨tq_421, List.forall_mem_cons.mpr ⟨tq_281, List.forall_mem_cons.mpr ⟨tq_422, List.forall_mem_cons.mpr ⟨tq_423, List.forall_mem_cons.mpr ⟨tq_424, List.forall_mem_cons.mpr ⟨tq_425, List.forall_mem_cons.mpr ⟨tq_367, List.forall_mem_cons.mpr ⟨tq_368, List.forall_mem_cons.mpr ⟨tq_369, List.forall_mem_cons.mpr ⟨tq_370, List.forall_mem_cons.mpr ⟨tq_254, List.forall_mem_cons.mpr ⟨tq_255, List.forall_mem_cons.mpr ⟨tq_256, fun _ h => absurd h List.not_mem_nil⟩⟩⟩⟩⟩⟩⟩⟩⟩⟩⟩⟩⟩⟩⟩
set_option maxRecDepth 20000 in
theorem gwX10_entry : GoodIn lw_tbl wsX10_entry := goodIn_sub (List.forall_mem_cons.mpr ⟨tq_409, (List.forall_mem_append.mpr ⟨(List.forall_mem_append.mpr ⟨wkX10_entry_r1, wkX10_entry_r2⟩), inT_i10⟩)⟩) (by decide +kernel)
theorem tq_426 : Cond.methodLink RL 51 yX10_entry ∈ lw_tbl := tb_4 (i := 27) rfl
theorem tq_427 : Cond.instanceMethod yX10_entry ∈ lw_tbl := tb_4 (i := 28) rfl
theorem tq_428 : Cond.selects RX10 yX10_entry yX10_entry ∈ lw_tbl := tb_4 (i := 29) rfl
set_option maxRecDepth 20000 in
theorem gc_X10_entry : GoodIn lw_tbl (wsV RL 51 RX10 yX10_entry wsX10_entry) := goodIn_app (goodIn_sub (List.forall_mem_cons.mpr ⟨tq_426, List.forall_mem_cons.mpr ⟨tq_427, List.forall_mem_cons.mpr ⟨tq_428, List.forall_mem_cons.mpr ⟨tq_85, fun _ h => absurd h List.not_mem_nil⟩⟩⟩⟩) (by decide +kernel)) gwX10_entry
theorem tq_429 : Cond.code yX9_find cX9_find 5 (some .int) ∈ lw_tbl := tb_2 (i := 117) rfl
theorem tq_430 : Cond.methodLink RX9 126 yX9_isName ∈ lw_tbl := tb_2 (i := 118) rfl
theorem tq_431 : Cond.static yX9_isName ∈ lw_tbl := tb_2 (i := 119) rfl
theorem tq_432 : Cond.code yX9_isName cX9_isName 3 (some .boolean) ∈ lw_tbl := tb_2 (i := 120) rfl
theorem tq_433 : Cond.methodLink RX9 236 yX2_isUse ∈ lw_tbl := tb_2 (i := 121) rfl
theorem tq_434 : Cond.methodLink RX9 171 yX9_isNumber ∈ lw_tbl := tb_2 (i := 122) rfl
theorem tq_435 : Cond.static yX9_isNumber ∈ lw_tbl := tb_2 (i := 123) rfl
theorem tq_436 : Cond.code yX9_isNumber cX9_isNumber 2 (some .boolean) ∈ lw_tbl := tb_2 (i := 124) rfl
theorem tq_437 : Cond.constantLong RX9 234 (4294967295) ∈ lw_tbl := tb_2 (i := 125) rfl
theorem tq_438 : Cond.methodLink RX9 130 yX0_entryOf ∈ lw_tbl := tb_2 (i := 126) rfl
theorem tq_439 : Cond.instanceMethod yX0_entryOf ∈ lw_tbl := tb_2 (i := 127) rfl
theorem tq_440 : Cond.selects RX0 yX0_entryOf yX0_entryOf ∈ lw_tbl := tb_2 (i := 128) rfl
theorem tq_441 : Cond.code yX0_entryOf cX0_entryOf 5 (some .int) ∈ lw_tbl := tb_2 (i := 129) rfl
theorem wkX9_find_r1 : ∀ w ∈ wsX9_find_r1, w ∈ lw_tbl := List.forall_mem_cons.mpr ⟨tq_12, List.forall_mem_cons.mpr ⟨tq_378, List.forall_mem_cons.mpr ⟨tq_430, List.forall_mem_cons.mpr ⟨tq_431, List.forall_mem_cons.mpr ⟨tq_78, List.forall_mem_cons.mpr ⟨tq_432, List.forall_mem_cons.mpr ⟨tq_433, List.forall_mem_cons.mpr ⟨tq_185, List.forall_mem_cons.mpr ⟨tq_161, List.forall_mem_cons.mpr ⟨tq_186, List.forall_mem_cons.mpr ⟨tq_187, List.forall_mem_cons.mpr ⟨tq_188, List.forall_mem_cons.mpr ⟨tq_189, List.forall_mem_cons.mpr ⟨tq_190, List.forall_mem_cons.mpr ⟨tq_434, List.forall_mem_cons.mpr ⟨tq_435, List.forall_mem_cons.mpr ⟨tq_436, List.forall_mem_cons.mpr ⟨tq_437, List.forall_mem_cons.mpr ⟨tq_438, List.forall_mem_cons.mpr ⟨tq_439, List.forall_mem_cons.mpr ⟨tq_440, List.forall_mem_cons.mpr ⟨tq_11, List.forall_mem_cons.mpr ⟨tq_441, List.forall_mem_cons.mpr ⟨tq_43, fun _ h => absurd h List.not_mem_nil⟩⟩⟩⟩⟩⟩⟩⟩⟩⟩⟩⟩⟩⟩⟩⟩⟩⟩⟩⟩⟩⟩⟩⟩
theorem wkX9_find_r2 : ∀ w ∈ wsX9_find_r2, w ∈ lw_tbl := List.forall_mem_cons.mpr ⟨tq_39, List.forall_mem_cons.mpr ⟨tq_41, List.forall_mem_cons.mpr ⟨tq_379, List.forall_mem_cons.mpr ⟨tq_380, List.forall_mem_cons.mpr ⟨tq_381, List.forall_mem_cons.mpr ⟨tq_382, fun _ h => absurd h List.not_mem_nil⟩⟩⟩⟩⟩⟩
set_option maxRecDepth 20000 in
theorem gwX9_find : GoodIn lw_tbl wsX9_find := goodIn_sub (List.forall_mem_cons.mpr ⟨tq_429, (List.forall_mem_append.mpr ⟨(List.forall_mem_append.mpr ⟨(List.forall_mem_append.mpr ⟨wkX9_find_r1, wkX9_find_r2⟩), inT_i9⟩), inT_i0⟩)⟩) (by decide +kernel)
theorem tq_442 : Cond.methodLink RL 52 yX9_find ∈ lw_tbl := tb_2 (i := 114) rfl
theorem tq_443 : Cond.instanceMethod yX9_find ∈ lw_tbl := tb_2 (i := 115) rfl
theorem tq_444 : Cond.selects RX9 yX9_find yX9_find ∈ lw_tbl := tb_2 (i := 116) rfl
set_option maxRecDepth 20000 in
theorem gc_X9_find : GoodIn lw_tbl (wsV RL 52 RX9 yX9_find wsX9_find) := goodIn_app (goodIn_sub (List.forall_mem_cons.mpr ⟨tq_442, List.forall_mem_cons.mpr ⟨tq_443, List.forall_mem_cons.mpr ⟨tq_444, List.forall_mem_cons.mpr ⟨tq_78, fun _ h => absurd h List.not_mem_nil⟩⟩⟩⟩) (by decide +kernel)) gwX9_find
theorem tq_445 : Cond.code yX10_find cX10_find 5 (some .int) ∈ lw_tbl := tb_4 (i := 50) rfl
theorem tq_446 : Cond.methodLink RX10 156 yX10_isNumber ∈ lw_tbl := tb_4 (i := 51) rfl
theorem tq_447 : Cond.static yX10_isNumber ∈ lw_tbl := tb_4 (i := 52) rfl
theorem tq_448 : Cond.code yX10_isNumber cX10_isNumber 2 (some .boolean) ∈ lw_tbl := tb_4 (i := 53) rfl
theorem tq_449 : Cond.methodLink RX10 160 yX10_entryFor ∈ lw_tbl := tb_4 (i := 54) rfl
theorem tq_450 : Cond.instanceMethod yX10_entryFor ∈ lw_tbl := tb_4 (i := 56) rfl
theorem tq_451 : Cond.selects RX10 yX10_entryFor yX10_entryFor ∈ lw_tbl := tb_0 (i := 19) rfl
theorem tq_452 : Cond.code yX10_entryFor cX10_entryFor 6 (some .int) ∈ lw_tbl := tb_4 (i := 57) rfl
set_option maxRecDepth 20000 in
theorem gwX10_find : GoodIn lw_tbl wsX10_find := goodIn_sub (List.forall_mem_cons.mpr ⟨tq_445, (List.forall_mem_append.mpr ⟨(List.forall_mem_cons.mpr ⟨tq_60, List.forall_mem_cons.mpr ⟨tq_276, List.forall_mem_cons.mpr ⟨tq_277, List.forall_mem_cons.mpr ⟨tq_85, List.forall_mem_cons.mpr ⟨tq_278, List.forall_mem_cons.mpr ⟨tq_279, List.forall_mem_cons.mpr ⟨tq_280, List.forall_mem_cons.mpr ⟨tq_281, List.forall_mem_cons.mpr ⟨tq_282, List.forall_mem_cons.mpr ⟨tq_446, List.forall_mem_cons.mpr ⟨tq_447, List.forall_mem_cons.mpr ⟨tq_448, List.forall_mem_cons.mpr ⟨tq_260, List.forall_mem_cons.mpr ⟨tq_83, List.forall_mem_cons.mpr ⟨tq_84, List.forall_mem_cons.mpr ⟨tq_86, List.forall_mem_cons.mpr ⟨tq_449, List.forall_mem_cons.mpr ⟨tq_450, List.forall_mem_cons.mpr ⟨tq_451, List.forall_mem_cons.mpr ⟨tq_452, List.forall_mem_cons.mpr ⟨tq_288, List.forall_mem_cons.mpr ⟨tq_58, List.forall_mem_cons.mpr ⟨tq_59, fun _ h => absurd h List.not_mem_nil⟩⟩⟩⟩⟩⟩⟩⟩⟩⟩⟩⟩⟩⟩⟩⟩⟩⟩⟩⟩⟩⟩⟩), inT_i10⟩)⟩) (by decide +kernel)
theorem tq_453 : Cond.methodLink RL 55 yX10_find ∈ lw_tbl := tb_4 (i := 47) rfl
theorem tq_454 : Cond.instanceMethod yX10_find ∈ lw_tbl := tb_4 (i := 48) rfl
theorem tq_455 : Cond.selects RX10 yX10_find yX10_find ∈ lw_tbl := tb_4 (i := 49) rfl
set_option maxRecDepth 20000 in
theorem gc_X10_find : GoodIn lw_tbl (wsV RL 55 RX10 yX10_find wsX10_find) := goodIn_app (goodIn_sub (List.forall_mem_cons.mpr ⟨tq_453, List.forall_mem_cons.mpr ⟨tq_454, List.forall_mem_cons.mpr ⟨tq_455, List.forall_mem_cons.mpr ⟨tq_85, fun _ h => absurd h List.not_mem_nil⟩⟩⟩⟩) (by decide +kernel)) gwX10_find
theorem tq_456 : Cond.code yX9_size cX9_size 3 (some .long) ∈ lw_tbl := tb_2 (i := 133) rfl
theorem tq_457 : Cond.methodLink RX9 134 yX9_isAxis ∈ lw_tbl := tb_2 (i := 134) rfl
theorem tq_458 : Cond.static yX9_isAxis ∈ lw_tbl := tb_2 (i := 135) rfl
theorem tq_459 : Cond.code yX9_isAxis cX9_isAxis 1 (some .boolean) ∈ lw_tbl := tb_2 (i := 136) rfl
theorem wkX9_size_r1 : ∀ w ∈ wsX9_size_r1, w ∈ lw_tbl := List.forall_mem_cons.mpr ⟨tq_12, List.forall_mem_cons.mpr ⟨tq_375, List.forall_mem_cons.mpr ⟨tq_312, List.forall_mem_cons.mpr ⟨tq_313, List.forall_mem_cons.mpr ⟨tq_314, List.forall_mem_cons.mpr ⟨tq_11, List.forall_mem_cons.mpr ⟨tq_315, List.forall_mem_cons.mpr ⟨tq_38, List.forall_mem_cons.mpr ⟨tq_457, List.forall_mem_cons.mpr ⟨tq_458, List.forall_mem_cons.mpr ⟨tq_78, List.forall_mem_cons.mpr ⟨tq_459, List.forall_mem_cons.mpr ⟨tq_316, List.forall_mem_cons.mpr ⟨tq_317, List.forall_mem_cons.mpr ⟨tq_318, List.forall_mem_cons.mpr ⟨tq_319, List.forall_mem_cons.mpr ⟨tq_36, List.forall_mem_cons.mpr ⟨tq_320, List.forall_mem_cons.mpr ⟨tq_355, List.forall_mem_cons.mpr ⟨tq_356, List.forall_mem_cons.mpr ⟨tq_357, List.forall_mem_cons.mpr ⟨tq_358, List.forall_mem_cons.mpr ⟨tq_359, List.forall_mem_cons.mpr ⟨tq_110, fun _ h => absurd h List.not_mem_nil⟩⟩⟩⟩⟩⟩⟩⟩⟩⟩⟩⟩⟩⟩⟩⟩⟩⟩⟩⟩⟩⟩⟩⟩
theorem tq_460 : Cond.methodLink RX9 137 yX4_measure ∈ lw_tbl := tb_2 (i := 137) rfl
theorem tq_461 : Cond.static yX4_measure ∈ lw_tbl := tb_2 (i := 138) rfl
theorem tq_462 : Cond.initialized RX4 ∈ lw_tbl := tb_1 (i := 10) rfl
theorem tq_463 : Cond.code yX4_measure cX4_measure 3 (some .long) ∈ lw_tbl := tb_2 (i := 139) rfl
theorem tq_464 : Cond.constantLong RX4 21 (-2) ∈ lw_tbl := tb_2 (i := 144) rfl
theorem tq_465 : Cond.methodLink RX4 9 yX4_ofRect ∈ lw_tbl := tb_2 (i := 140) rfl
theorem tq_466 : Cond.static yX4_ofRect ∈ lw_tbl := tb_2 (i := 141) rfl
theorem wkX9_size_r2 : ∀ w ∈ wsX9_size_r2, w ∈ lw_tbl := List.forall_mem_cons.mpr ⟨tq_111, List.forall_mem_cons.mpr ⟨tq_34, List.forall_mem_cons.mpr ⟨tq_37, List.forall_mem_cons.mpr ⟨tq_329, List.forall_mem_cons.mpr ⟨tq_322, List.forall_mem_cons.mpr ⟨tq_323, List.forall_mem_cons.mpr ⟨tq_324, List.forall_mem_cons.mpr ⟨tq_360, List.forall_mem_cons.mpr ⟨tq_113, List.forall_mem_cons.mpr ⟨tq_114, List.forall_mem_cons.mpr ⟨tq_115, List.forall_mem_cons.mpr ⟨tq_2, List.forall_mem_cons.mpr ⟨tq_3, List.forall_mem_cons.mpr ⟨tq_116, List.forall_mem_cons.mpr ⟨tq_117, List.forall_mem_cons.mpr ⟨tq_118, List.forall_mem_cons.mpr ⟨tq_119, List.forall_mem_cons.mpr ⟨tq_460, List.forall_mem_cons.mpr ⟨tq_461, List.forall_mem_cons.mpr ⟨tq_462, List.forall_mem_cons.mpr ⟨tq_463, List.forall_mem_cons.mpr ⟨tq_464, List.forall_mem_cons.mpr ⟨tq_465, List.forall_mem_cons.mpr ⟨tq_466, fun _ h => absurd h List.not_mem_nil⟩⟩⟩⟩⟩⟩⟩⟩⟩⟩⟩⟩⟩⟩⟩⟩⟩⟩⟩⟩⟩⟩⟩⟩
theorem tq_467 : Cond.code yX4_ofRect cX4_ofRect 2 (some .long) ∈ lw_tbl := tb_2 (i := 142) rfl
theorem tq_468 : Cond.fieldLink RX4 23 "BlorbRows$Part" "length" "I" ∈ lw_tbl := tb_1 (i := 161) rfl
theorem tq_469 : Cond.methodLink RX4 29 yX3_u4 ∈ lw_tbl := tb_2 (i := 143) rfl
theorem tq_470 : Cond.methodLink RX4 15 yX4_ofPng ∈ lw_tbl := tb_2 (i := 145) rfl
theorem tq_471 : Cond.static yX4_ofPng ∈ lw_tbl := tb_2 (i := 146) rfl
theorem tq_472 : Cond.code yX4_ofPng cX4_ofPng 3 (some .long) ∈ lw_tbl := tb_2 (i := 147) rfl
theorem tq_473 : Cond.constantLong RX4 33 (2303741511) ∈ lw_tbl := tb_2 (i := 148) rfl
theorem tq_474 : Cond.constantLong RX4 35 (218765834) ∈ lw_tbl := tb_2 (i := 149) rfl
theorem tq_475 : Cond.constantLong RX4 39 (1229472850) ∈ lw_tbl := tb_2 (i := 150) rfl
theorem tq_476 : Cond.methodLink RX4 18 yX4_ofJpeg ∈ lw_tbl := tb_2 (i := 151) rfl
theorem tq_477 : Cond.static yX4_ofJpeg ∈ lw_tbl := tb_2 (i := 152) rfl
theorem wkX9_size_r3 : ∀ w ∈ wsX9_size_r3, w ∈ lw_tbl := List.forall_mem_cons.mpr ⟨tq_467, List.forall_mem_cons.mpr ⟨tq_468, List.forall_mem_cons.mpr ⟨tq_469, List.forall_mem_cons.mpr ⟨tq_136, List.forall_mem_cons.mpr ⟨tq_137, List.forall_mem_cons.mpr ⟨tq_138, List.forall_mem_cons.mpr ⟨tq_139, List.forall_mem_cons.mpr ⟨tq_140, List.forall_mem_cons.mpr ⟨tq_141, List.forall_mem_cons.mpr ⟨tq_142, List.forall_mem_cons.mpr ⟨tq_143, List.forall_mem_cons.mpr ⟨tq_144, List.forall_mem_cons.mpr ⟨tq_145, List.forall_mem_cons.mpr ⟨tq_146, List.forall_mem_cons.mpr ⟨tq_147, List.forall_mem_cons.mpr ⟨tq_148, List.forall_mem_cons.mpr ⟨tq_470, List.forall_mem_cons.mpr ⟨tq_471, List.forall_mem_cons.mpr ⟨tq_472, List.forall_mem_cons.mpr ⟨tq_473, List.forall_mem_cons.mpr ⟨tq_474, List.forall_mem_cons.mpr ⟨tq_475, List.forall_mem_cons.mpr ⟨tq_476, List.forall_mem_cons.mpr ⟨tq_477, fun _ h => absurd h List.not_mem_nil⟩⟩⟩⟩⟩⟩⟩⟩⟩⟩⟩⟩⟩⟩⟩⟩⟩⟩⟩⟩⟩⟩⟩⟩
theorem tq_478 : Cond.code yX4_ofJpeg cX4_ofJpeg 6 (some .long) ∈ lw_tbl := tb_2 (i := 153) rfl
theorem tq_479 : Cond.constant RX4 45 (65496) ∈ lw_tbl := tb_2 (i := 158) rfl
theorem tq_480 : Cond.methodLink RX4 41 yX3_u2 ∈ lw_tbl := tb_2 (i := 154) rfl
theorem tq_481 : Cond.instanceMethod yX3_u2 ∈ lw_tbl := tb_2 (i := 155) rfl
theorem tq_482 : Cond.selects RX3 yX3_u2 yX3_u2 ∈ lw_tbl := tb_2 (i := 156) rfl
theorem tq_483 : Cond.code yX3_u2 cX3_u2 2 (some .int) ∈ lw_tbl := tb_2 (i := 157) rfl
theorem tq_484 : Cond.methodLink RX4 46 yX3_at ∈ lw_tbl := tb_2 (i := 159) rfl
theorem tq_485 : Cond.methodLink RX4 49 yX4_behindFill ∈ lw_tbl := tb_2 (i := 160) rfl
theorem tq_486 : Cond.static yX4_behindFill ∈ lw_tbl := tb_2 (i := 161) rfl
theorem tq_487 : Cond.code yX4_behindFill cX4_behindFill 3 (some .int) ∈ lw_tbl := tb_2 (i := 162) rfl
theorem tq_488 : Cond.methodLink RX4 53 yX4_standsAlone ∈ lw_tbl := tb_2 (i := 163) rfl
theorem tq_489 : Cond.static yX4_standsAlone ∈ lw_tbl := tb_2 (i := 164) rfl
theorem tq_490 : Cond.code yX4_standsAlone cX4_standsAlone 1 (some .boolean) ∈ lw_tbl := tb_2 (i := 165) rfl
theorem tq_491 : Cond.methodLink RX4 57 yX4_hasNoMeasure ∈ lw_tbl := tb_2 (i := 166) rfl
theorem tq_492 : Cond.static yX4_hasNoMeasure ∈ lw_tbl := tb_2 (i := 167) rfl
theorem tq_493 : Cond.code yX4_hasNoMeasure cX4_hasNoMeasure 1 (some .boolean) ∈ lw_tbl := tb_2 (i := 168) rfl
theorem tq_494 : Cond.methodLink RX4 60 yX4_isFrame ∈ lw_tbl := tb_2 (i := 169) rfl
theorem tq_495 : Cond.static yX4_isFrame ∈ lw_tbl := tb_2 (i := 170) rfl
theorem tq_496 : Cond.code yX4_isFrame cX4_isFrame 1 (some .boolean) ∈ lw_tbl := tb_2 (i := 171) rfl
theorem tq_497 : Cond.methodLink RX4 63 yX4_ofFrame ∈ lw_tbl := tb_2 (i := 172) rfl
theorem tq_498 : Cond.static yX4_ofFrame ∈ lw_tbl := tb_2 (i := 173) rfl
theorem wkX9_size_r4 : ∀ w ∈ wsX9_size_r4, w ∈ lw_tbl := List.forall_mem_cons.mpr ⟨tq_478, List.forall_mem_cons.mpr ⟨tq_479, List.forall_mem_cons.mpr ⟨tq_480, List.forall_mem_cons.mpr ⟨tq_481, List.forall_mem_cons.mpr ⟨tq_482, List.forall_mem_cons.mpr ⟨tq_483, List.forall_mem_cons.mpr ⟨tq_484, List.forall_mem_cons.mpr ⟨tq_167, List.forall_mem_cons.mpr ⟨tq_168, List.forall_mem_cons.mpr ⟨tq_169, List.forall_mem_cons.mpr ⟨tq_485, List.forall_mem_cons.mpr ⟨tq_486, List.forall_mem_cons.mpr ⟨tq_487, List.forall_mem_cons.mpr ⟨tq_488, List.forall_mem_cons.mpr ⟨tq_489, List.forall_mem_cons.mpr ⟨tq_490, List.forall_mem_cons.mpr ⟨tq_491, List.forall_mem_cons.mpr ⟨tq_492, List.forall_mem_cons.mpr ⟨tq_493, List.forall_mem_cons.mpr ⟨tq_494, List.forall_mem_cons.mpr ⟨tq_495, List.forall_mem_cons.mpr ⟨tq_496, List.forall_mem_cons.mpr ⟨tq_497, List.forall_mem_cons.mpr ⟨tq_498, fun _ h => absurd h List.not_mem_nil⟩⟩⟩⟩⟩⟩⟩⟩⟩⟩⟩⟩⟩⟩⟩⟩⟩⟩⟩⟩⟩⟩⟩⟩
theorem tq_499 : Cond.code yX4_ofFrame cX4_ofFrame 3 (some .long) ∈ lw_tbl := tb_2 (i := 174) rfl
theorem tq_500 : Cond.methodLink RX4 67 yX3_holds ∈ lw_tbl := tb_2 (i := 175) rfl
theorem wkX9_size_r5 : ∀ w ∈ wsX9_size_r5, w ∈ lw_tbl := List.forall_mem_cons.mpr ⟨tq_499, List.forall_mem_cons.mpr ⟨tq_500, fun _ h => absurd h List.not_mem_nil⟩⟩
set_option maxRecDepth 20000 in
theorem gwX9_size : GoodIn lw_tbl wsX9_size := goodIn_sub (List.forall_mem_cons.mpr ⟨tq_456, (List.forall_mem_append.mpr ⟨(List.forall_mem_append.mpr ⟨(List.forall_mem_append.mpr ⟨(List.forall_mem_append.mpr ⟨(List.forall_mem_append.mpr ⟨wkX9_size_r1, (List.forall_mem_append.mpr ⟨wkX9_size_r2, (List.forall_mem_append.mpr ⟨wkX9_size_r3, (List.forall_mem_append.mpr ⟨wkX9_size_r4, wkX9_size_r5⟩)⟩)⟩)⟩), inT_i9⟩), inT_i0⟩), inT_i3⟩), inT_i6⟩)⟩) (by decide +kernel)
theorem tq_501 : Cond.methodLink RL 56 yX9_size ∈ lw_tbl := tb_2 (i := 130) rfl
theorem tq_502 : Cond.instanceMethod yX9_size ∈ lw_tbl := tb_2 (i := 131) rfl
theorem tq_503 : Cond.selects RX9 yX9_size yX9_size ∈ lw_tbl := tb_2 (i := 132) rfl
set_option maxRecDepth 20000 in
theorem gc_X9_size : GoodIn lw_tbl (wsV RL 56 RX9 yX9_size wsX9_size) := goodIn_app (goodIn_sub (List.forall_mem_cons.mpr ⟨tq_501, List.forall_mem_cons.mpr ⟨tq_502, List.forall_mem_cons.mpr ⟨tq_503, List.forall_mem_cons.mpr ⟨tq_78, fun _ h => absurd h List.not_mem_nil⟩⟩⟩⟩) (by decide +kernel)) gwX9_size
theorem tq_504 : Cond.code yX10_size cX10_size 3 (some .long) ∈ lw_tbl := tb_4 (i := 61) rfl
theorem tq_505 : Cond.methodLink RX10 187 yX10_sizeOf ∈ lw_tbl := tb_4 (i := 62) rfl
theorem tq_506 : Cond.instanceMethod yX10_sizeOf ∈ lw_tbl := tb_4 (i := 64) rfl
theorem tq_507 : Cond.selects RX10 yX10_sizeOf yX10_sizeOf ∈ lw_tbl := tb_0 (i := 20) rfl
theorem tq_508 : Cond.code yX10_sizeOf cX10_sizeOf 4 (some .long) ∈ lw_tbl := tb_4 (i := 65) rfl
theorem tq_509 : Cond.constantLong RX10 164 (-2) ∈ lw_tbl := tb_4 (i := 66) rfl
theorem wkX10_size_r1 : ∀ w ∈ wsX10_size_r1, w ∈ lw_tbl := List.forall_mem_cons.mpr ⟨tq_410, List.forall_mem_cons.mpr ⟨tq_339, List.forall_mem_cons.mpr ⟨tq_340, List.forall_mem_cons.mpr ⟨tq_341, List.forall_mem_cons.mpr ⟨tq_85, List.forall_mem_cons.mpr ⟨tq_342, List.forall_mem_cons.mpr ⟨tq_239, List.forall_mem_cons.mpr ⟨tq_83, List.forall_mem_cons.mpr ⟨tq_84, List.forall_mem_cons.mpr ⟨tq_86, List.forall_mem_cons.mpr ⟨tq_505, List.forall_mem_cons.mpr ⟨tq_506, List.forall_mem_cons.mpr ⟨tq_507, List.forall_mem_cons.mpr ⟨tq_508, List.forall_mem_cons.mpr ⟨tq_56, List.forall_mem_cons.mpr ⟨tq_417, List.forall_mem_cons.mpr ⟨tq_57, List.forall_mem_cons.mpr ⟨tq_55, List.forall_mem_cons.mpr ⟨tq_509, List.forall_mem_cons.mpr ⟨tq_415, List.forall_mem_cons.mpr ⟨tq_416, List.forall_mem_cons.mpr ⟨tq_367, List.forall_mem_cons.mpr ⟨tq_368, List.forall_mem_cons.mpr ⟨tq_369, fun _ h => absurd h List.not_mem_nil⟩⟩⟩⟩⟩⟩⟩⟩⟩⟩⟩⟩⟩⟩⟩⟩⟩⟩⟩⟩⟩⟩⟩⟩
theorem tq_510 : Cond.methodLink RX10 180 yX10_isPng ∈ lw_tbl := tb_4 (i := 67) rfl
theorem tq_511 : Cond.instanceMethod yX10_isPng ∈ lw_tbl := tb_4 (i := 69) rfl
theorem tq_512 : Cond.selects RX10 yX10_isPng yX10_isPng ∈ lw_tbl := tb_0 (i := 21) rfl
theorem tq_513 : Cond.code yX10_isPng cX10_isPng 3 (some .boolean) ∈ lw_tbl := tb_4 (i := 70) rfl
theorem tq_514 : Cond.constant RX10 177 (-1991225785) ∈ lw_tbl := tb_4 (i := 71) rfl
theorem tq_515 : Cond.constant RX10 178 (218765834) ∈ lw_tbl := tb_4 (i := 72) rfl
theorem tq_516 : Cond.constant RX10 179 (1229472850) ∈ lw_tbl := tb_4 (i := 73) rfl
theorem tq_517 : Cond.methodLink RX10 183 yX10_jpeg ∈ lw_tbl := tb_4 (i := 74) rfl
theorem tq_518 : Cond.instanceMethod yX10_jpeg ∈ lw_tbl := tb_4 (i := 76) rfl
theorem tq_519 : Cond.selects RX10 yX10_jpeg yX10_jpeg ∈ lw_tbl := tb_0 (i := 22) rfl
theorem tq_520 : Cond.code yX10_jpeg cX10_jpeg 7 (some .long) ∈ lw_tbl := tb_4 (i := 77) rfl
theorem tq_521 : Cond.constantLong RX10 166 (208) ∈ lw_tbl := tb_4 (i := 78) rfl
theorem tq_522 : Cond.constantLong RX10 168 (215) ∈ lw_tbl := tb_4 (i := 79) rfl
theorem tq_523 : Cond.constantLong RX10 173 (192) ∈ lw_tbl := tb_4 (i := 83) rfl
theorem tq_524 : Cond.constantLong RX10 175 (207) ∈ lw_tbl := tb_4 (i := 84) rfl
theorem tq_525 : Cond.methodLink RX10 170 yX10_two ∈ lw_tbl := tb_4 (i := 80) rfl
theorem wkX10_size_r2 : ∀ w ∈ wsX10_size_r2, w ∈ lw_tbl := List.forall_mem_cons.mpr ⟨tq_370, List.forall_mem_cons.mpr ⟨tq_257, List.forall_mem_cons.mpr ⟨tq_258, List.forall_mem_cons.mpr ⟨tq_259, List.forall_mem_cons.mpr ⟨tq_260, List.forall_mem_cons.mpr ⟨tq_254, List.forall_mem_cons.mpr ⟨tq_255, List.forall_mem_cons.mpr ⟨tq_256, List.forall_mem_cons.mpr ⟨tq_510, List.forall_mem_cons.mpr ⟨tq_511, List.forall_mem_cons.mpr ⟨tq_512, List.forall_mem_cons.mpr ⟨tq_513, List.forall_mem_cons.mpr ⟨tq_514, List.forall_mem_cons.mpr ⟨tq_515, List.forall_mem_cons.mpr ⟨tq_516, List.forall_mem_cons.mpr ⟨tq_517, List.forall_mem_cons.mpr ⟨tq_518, List.forall_mem_cons.mpr ⟨tq_519, List.forall_mem_cons.mpr ⟨tq_520, List.forall_mem_cons.mpr ⟨tq_521, List.forall_mem_cons.mpr ⟨tq_522, List.forall_mem_cons.mpr ⟨tq_523, List.forall_mem_cons.mpr ⟨tq_524, List.forall_mem_cons.mpr ⟨tq_525, fun _ h => absurd h List.not_mem_nil⟩⟩⟩⟩⟩⟩⟩⟩⟩⟩⟩⟩⟩⟩⟩⟩⟩⟩⟩⟩⟩⟩⟩⟩
theorem tq_526 : Cond.static yX10_two ∈ lw_tbl := tb_4 (i := 81) rfl
theorem tq_527 : Cond.code yX10_two cX10_two 2 (some .int) ∈ lw_tbl := tb_4 (i := 82) rfl
theorem wkX10_size_r3 : ∀ w ∈ wsX10_size_r3, w ∈ lw_tbl := List.forall_mem_cons.mpr ⟨tq_526, List.forall_mem_cons.mpr ⟨tq_527, fun _ h => absurd h List.not_mem_nil⟩⟩
set_option maxRecDepth 20000 in
theorem gwX10_size : GoodIn lw_tbl wsX10_size := goodIn_sub (List.forall_mem_cons.mpr ⟨tq_504, (List.forall_mem_append.mpr ⟨(List.forall_mem_append.mpr ⟨wkX10_size_r1, (List.forall_mem_append.mpr ⟨wkX10_size_r2, wkX10_size_r3⟩)⟩), inT_i10⟩)⟩) (by decide +kernel)
theorem tq_528 : Cond.methodLink RL 59 yX10_size ∈ lw_tbl := tb_4 (i := 58) rfl
theorem tq_529 : Cond.instanceMethod yX10_size ∈ lw_tbl := tb_4 (i := 59) rfl
theorem tq_530 : Cond.selects RX10 yX10_size yX10_size ∈ lw_tbl := tb_4 (i := 60) rfl
set_option maxRecDepth 20000 in
theorem gc_X10_size : GoodIn lw_tbl (wsV RL 59 RX10 yX10_size wsX10_size) := goodIn_app (goodIn_sub (List.forall_mem_cons.mpr ⟨tq_528, List.forall_mem_cons.mpr ⟨tq_529, List.forall_mem_cons.mpr ⟨tq_530, List.forall_mem_cons.mpr ⟨tq_85, fun _ h => absurd h List.not_mem_nil⟩⟩⟩⟩) (by decide +kernel)) gwX10_size
theorem tq_531 : Cond.code yX9_sound cX9_sound 3 (some .long) ∈ lw_tbl := tb_2 (i := 179) rfl
theorem tq_532 : Cond.constant RX9 145 (1179603533) ∈ lw_tbl := tb_2 (i := 180) rfl
theorem tq_533 : Cond.constantLong RX9 151 (-2) ∈ lw_tbl := tb_2 (i := 197) rfl
theorem wkX9_sound_r1 : ∀ w ∈ wsX9_sound_r1, w ∈ lw_tbl := List.forall_mem_cons.mpr ⟨tq_12, List.forall_mem_cons.mpr ⟨tq_375, List.forall_mem_cons.mpr ⟨tq_532, List.forall_mem_cons.mpr ⟨tq_533, List.forall_mem_cons.mpr ⟨tq_312, List.forall_mem_cons.mpr ⟨tq_313, List.forall_mem_cons.mpr ⟨tq_314, List.forall_mem_cons.mpr ⟨tq_11, List.forall_mem_cons.mpr ⟨tq_315, List.forall_mem_cons.mpr ⟨tq_38, List.forall_mem_cons.mpr ⟨tq_316, List.forall_mem_cons.mpr ⟨tq_317, List.forall_mem_cons.mpr ⟨tq_318, List.forall_mem_cons.mpr ⟨tq_319, List.forall_mem_cons.mpr ⟨tq_36, List.forall_mem_cons.mpr ⟨tq_320, List.forall_mem_cons.mpr ⟨tq_355, List.forall_mem_cons.mpr ⟨tq_356, List.forall_mem_cons.mpr ⟨tq_357, List.forall_mem_cons.mpr ⟨tq_358, List.forall_mem_cons.mpr ⟨tq_359, List.forall_mem_cons.mpr ⟨tq_110, List.forall_mem_cons.mpr ⟨tq_111, List.forall_mem_cons.mpr ⟨tq_34, fun _ h => absurd h List.not_mem_nil⟩⟩⟩⟩⟩⟩⟩⟩⟩⟩⟩⟩⟩⟩⟩⟩⟩⟩⟩⟩⟩⟩⟩⟩
theorem tq_534 : Cond.methodLink RX9 146 yX7_measure ∈ lw_tbl := tb_2 (i := 181) rfl
theorem tq_535 : Cond.static yX7_measure ∈ lw_tbl := tb_2 (i := 182) rfl
theorem tq_536 : Cond.initialized RX7 ∈ lw_tbl := tb_1 (i := 11) rfl
theorem tq_537 : Cond.code yX7_measure cX7_measure 6 (some .long) ∈ lw_tbl := tb_2 (i := 183) rfl
theorem tq_538 : Cond.constantLong RX7 17 (1095321158) ∈ lw_tbl := tb_2 (i := 185) rfl
theorem tq_539 : Cond.constantLong RX7 19 (-2) ∈ lw_tbl := tb_2 (i := 186) rfl
theorem tq_540 : Cond.fieldLink RX7 21 "BlorbRows$Part" "length" "I" ∈ lw_tbl := tb_1 (i := 160) rfl
theorem tq_541 : Cond.constantLong RX7 29 (1129270605) ∈ lw_tbl := tb_2 (i := 188) rfl
theorem tq_542 : Cond.constantLong RX7 33 (18) ∈ lw_tbl := tb_2 (i := 189) rfl
theorem wkX9_sound_r2 : ∀ w ∈ wsX9_sound_r2, w ∈ lw_tbl := List.forall_mem_cons.mpr ⟨tq_37, List.forall_mem_cons.mpr ⟨tq_329, List.forall_mem_cons.mpr ⟨tq_322, List.forall_mem_cons.mpr ⟨tq_323, List.forall_mem_cons.mpr ⟨tq_324, List.forall_mem_cons.mpr ⟨tq_360, List.forall_mem_cons.mpr ⟨tq_113, List.forall_mem_cons.mpr ⟨tq_114, List.forall_mem_cons.mpr ⟨tq_115, List.forall_mem_cons.mpr ⟨tq_2, List.forall_mem_cons.mpr ⟨tq_3, List.forall_mem_cons.mpr ⟨tq_116, List.forall_mem_cons.mpr ⟨tq_117, List.forall_mem_cons.mpr ⟨tq_118, List.forall_mem_cons.mpr ⟨tq_119, List.forall_mem_cons.mpr ⟨tq_534, List.forall_mem_cons.mpr ⟨tq_535, List.forall_mem_cons.mpr ⟨tq_536, List.forall_mem_cons.mpr ⟨tq_537, List.forall_mem_cons.mpr ⟨tq_538, List.forall_mem_cons.mpr ⟨tq_539, List.forall_mem_cons.mpr ⟨tq_540, List.forall_mem_cons.mpr ⟨tq_541, List.forall_mem_cons.mpr ⟨tq_542, fun _ h => absurd h List.not_mem_nil⟩⟩⟩⟩⟩⟩⟩⟩⟩⟩⟩⟩⟩⟩⟩⟩⟩⟩⟩⟩⟩⟩⟩⟩
theorem tq_543 : Cond.methodLink RX7 9 yX3_u4 ∈ lw_tbl := tb_2 (i := 184) rfl
theorem tq_544 : Cond.methodLink RX7 25 yX3_holds ∈ lw_tbl := tb_2 (i := 187) rfl
theorem tq_545 : Cond.methodLink RX7 35 yX7_ofComm ∈ lw_tbl := tb_2 (i := 190) rfl
theorem tq_546 : Cond.static yX7_ofComm ∈ lw_tbl := tb_2 (i := 191) rfl
theorem tq_547 : Cond.code yX7_ofComm cX7_ofComm 3 (some .long) ∈ lw_tbl := tb_2 (i := 192) rfl
theorem tq_548 : Cond.methodLink RX7 39 yX3_u2 ∈ lw_tbl := tb_2 (i := 193) rfl
theorem tq_549 : Cond.methodLink RX7 43 yX7_rate ∈ lw_tbl := tb_2 (i := 194) rfl
theorem tq_550 : Cond.static yX7_rate ∈ lw_tbl := tb_2 (i := 195) rfl
theorem wkX9_sound_r3 : ∀ w ∈ wsX9_sound_r3, w ∈ lw_tbl := List.forall_mem_cons.mpr ⟨tq_543, List.forall_mem_cons.mpr ⟨tq_136, List.forall_mem_cons.mpr ⟨tq_137, List.forall_mem_cons.mpr ⟨tq_138, List.forall_mem_cons.mpr ⟨tq_139, List.forall_mem_cons.mpr ⟨tq_140, List.forall_mem_cons.mpr ⟨tq_141, List.forall_mem_cons.mpr ⟨tq_142, List.forall_mem_cons.mpr ⟨tq_143, List.forall_mem_cons.mpr ⟨tq_144, List.forall_mem_cons.mpr ⟨tq_145, List.forall_mem_cons.mpr ⟨tq_146, List.forall_mem_cons.mpr ⟨tq_147, List.forall_mem_cons.mpr ⟨tq_148, List.forall_mem_cons.mpr ⟨tq_544, List.forall_mem_cons.mpr ⟨tq_545, List.forall_mem_cons.mpr ⟨tq_546, List.forall_mem_cons.mpr ⟨tq_547, List.forall_mem_cons.mpr ⟨tq_548, List.forall_mem_cons.mpr ⟨tq_481, List.forall_mem_cons.mpr ⟨tq_482, List.forall_mem_cons.mpr ⟨tq_483, List.forall_mem_cons.mpr ⟨tq_549, List.forall_mem_cons.mpr ⟨tq_550, fun _ h => absurd h List.not_mem_nil⟩⟩⟩⟩⟩⟩⟩⟩⟩⟩⟩⟩⟩⟩⟩⟩⟩⟩⟩⟩⟩⟩⟩⟩
theorem tq_551 : Cond.code yX7_rate cX7_rate 6 (some .long) ∈ lw_tbl := tb_2 (i := 196) rfl
theorem wkX9_sound_r4 : ∀ w ∈ wsX9_sound_r4, w ∈ lw_tbl := List.forall_mem_cons.mpr ⟨tq_551, fun _ h => absurd h List.not_mem_nil⟩
set_option maxRecDepth 20000 in
theorem gwX9_sound : GoodIn lw_tbl wsX9_sound := goodIn_sub (List.forall_mem_cons.mpr ⟨tq_531, (List.forall_mem_append.mpr ⟨(List.forall_mem_append.mpr ⟨(List.forall_mem_append.mpr ⟨(List.forall_mem_append.mpr ⟨(List.forall_mem_append.mpr ⟨wkX9_sound_r1, (List.forall_mem_append.mpr ⟨wkX9_sound_r2, (List.forall_mem_append.mpr ⟨wkX9_sound_r3, wkX9_sound_r4⟩)⟩)⟩), inT_i9⟩), inT_i0⟩), inT_i3⟩), inT_i6⟩)⟩) (by decide +kernel)
theorem tq_552 : Cond.methodLink RL 60 yX9_sound ∈ lw_tbl := tb_2 (i := 176) rfl
theorem tq_553 : Cond.instanceMethod yX9_sound ∈ lw_tbl := tb_2 (i := 177) rfl
theorem tq_554 : Cond.selects RX9 yX9_sound yX9_sound ∈ lw_tbl := tb_2 (i := 178) rfl
set_option maxRecDepth 20000 in
theorem gc_X9_sound : GoodIn lw_tbl (wsV RL 60 RX9 yX9_sound wsX9_sound) := goodIn_app (goodIn_sub (List.forall_mem_cons.mpr ⟨tq_552, List.forall_mem_cons.mpr ⟨tq_553, List.forall_mem_cons.mpr ⟨tq_554, List.forall_mem_cons.mpr ⟨tq_78, fun _ h => absurd h List.not_mem_nil⟩⟩⟩⟩) (by decide +kernel)) gwX9_sound
theorem tq_555 : Cond.code yX10_sound cX10_sound 8 (some .long) ∈ lw_tbl := tb_4 (i := 88) rfl
theorem tq_556 : Cond.methodLink RX10 194 yX10_commOf ∈ lw_tbl := tb_4 (i := 89) rfl
theorem tq_557 : Cond.instanceMethod yX10_commOf ∈ lw_tbl := tb_4 (i := 91) rfl
theorem tq_558 : Cond.selects RX10 yX10_commOf yX10_commOf ∈ lw_tbl := tb_0 (i := 23) rfl
theorem tq_559 : Cond.code yX10_commOf cX10_commOf 8 (some .int) ∈ lw_tbl := tb_4 (i := 92) rfl
theorem tq_560 : Cond.constant RX10 191 (1129270605) ∈ lw_tbl := tb_4 (i := 93) rfl
theorem wkX10_sound_r1 : ∀ w ∈ wsX10_sound_r1, w ∈ lw_tbl := List.forall_mem_cons.mpr ⟨tq_338, List.forall_mem_cons.mpr ⟨tq_410, List.forall_mem_cons.mpr ⟨tq_509, List.forall_mem_cons.mpr ⟨tq_55, List.forall_mem_cons.mpr ⟨tq_339, List.forall_mem_cons.mpr ⟨tq_340, List.forall_mem_cons.mpr ⟨tq_341, List.forall_mem_cons.mpr ⟨tq_85, List.forall_mem_cons.mpr ⟨tq_342, List.forall_mem_cons.mpr ⟨tq_239, List.forall_mem_cons.mpr ⟨tq_83, List.forall_mem_cons.mpr ⟨tq_84, List.forall_mem_cons.mpr ⟨tq_86, List.forall_mem_cons.mpr ⟨tq_556, List.forall_mem_cons.mpr ⟨tq_557, List.forall_mem_cons.mpr ⟨tq_558, List.forall_mem_cons.mpr ⟨tq_559, List.forall_mem_cons.mpr ⟨tq_56, List.forall_mem_cons.mpr ⟨tq_244, List.forall_mem_cons.mpr ⟨tq_57, List.forall_mem_cons.mpr ⟨tq_418, List.forall_mem_cons.mpr ⟨tq_248, List.forall_mem_cons.mpr ⟨tq_80, List.forall_mem_cons.mpr ⟨tq_560, fun _ h => absurd h List.not_mem_nil⟩⟩⟩⟩⟩⟩⟩⟩⟩⟩⟩⟩⟩⟩⟩⟩⟩⟩⟩⟩⟩⟩⟩⟩
theorem tq_561 : Cond.constantLong RX10 192 (18) ∈ lw_tbl := tb_4 (i := 94) rfl
theorem wkX10_sound_r2 : ∀ w ∈ wsX10_sound_r2, w ∈ lw_tbl := List.forall_mem_cons.mpr ⟨tq_561, List.forall_mem_cons.mpr ⟨tq_266, List.forall_mem_cons.mpr ⟨tq_367, List.forall_mem_cons.mpr ⟨tq_368, List.forall_mem_cons.mpr ⟨tq_369, List.forall_mem_cons.mpr ⟨tq_370, List.forall_mem_cons.mpr ⟨tq_254, List.forall_mem_cons.mpr ⟨tq_255, List.forall_mem_cons.mpr ⟨tq_256, List.forall_mem_cons.mpr ⟨tq_257, List.forall_mem_cons.mpr ⟨tq_258, List.forall_mem_cons.mpr ⟨tq_259, List.forall_mem_cons.mpr ⟨tq_260, List.forall_mem_cons.mpr ⟨tq_525, List.forall_mem_cons.mpr ⟨tq_526, List.forall_mem_cons.mpr ⟨tq_527, fun _ h => absurd h List.not_mem_nil⟩⟩⟩⟩⟩⟩⟩⟩⟩⟩⟩⟩⟩⟩⟩⟩
set_option maxRecDepth 20000 in
theorem gwX10_sound : GoodIn lw_tbl wsX10_sound := goodIn_sub (List.forall_mem_cons.mpr ⟨tq_555, (List.forall_mem_append.mpr ⟨(List.forall_mem_append.mpr ⟨wkX10_sound_r1, wkX10_sound_r2⟩), inT_i10⟩)⟩) (by decide +kernel)
theorem tq_562 : Cond.methodLink RL 63 yX10_sound ∈ lw_tbl := tb_4 (i := 85) rfl
theorem tq_563 : Cond.instanceMethod yX10_sound ∈ lw_tbl := tb_4 (i := 86) rfl
theorem tq_564 : Cond.selects RX10 yX10_sound yX10_sound ∈ lw_tbl := tb_4 (i := 87) rfl
set_option maxRecDepth 20000 in
theorem gc_X10_sound : GoodIn lw_tbl (wsV RL 63 RX10 yX10_sound wsX10_sound) := goodIn_app (goodIn_sub (List.forall_mem_cons.mpr ⟨tq_562, List.forall_mem_cons.mpr ⟨tq_563, List.forall_mem_cons.mpr ⟨tq_564, List.forall_mem_cons.mpr ⟨tq_85, fun _ h => absurd h List.not_mem_nil⟩⟩⟩⟩) (by decide +kernel)) gwX10_sound
theorem tq_565 : Cond.code yX9_front cX9_front 2 (some .long) ∈ lw_tbl := tb_2 (i := 201) rfl
theorem tq_566 : Cond.constant RX9 153 (1181970531) ∈ lw_tbl := tb_2 (i := 202) rfl
theorem tq_567 : Cond.methodLink RX9 154 yX0_firstWith ∈ lw_tbl := tb_2 (i := 203) rfl
theorem tq_568 : Cond.instanceMethod yX0_firstWith ∈ lw_tbl := tb_2 (i := 204) rfl
theorem tq_569 : Cond.selects RX0 yX0_firstWith yX0_firstWith ∈ lw_tbl := tb_2 (i := 205) rfl
theorem tq_570 : Cond.code yX0_firstWith cX0_firstWith 4 (some .int) ∈ lw_tbl := tb_2 (i := 206) rfl
theorem wkX9_front_r1 : ∀ w ∈ wsX9_front_r1, w ∈ lw_tbl := List.forall_mem_cons.mpr ⟨tq_12, List.forall_mem_cons.mpr ⟨tq_566, List.forall_mem_cons.mpr ⟨tq_533, List.forall_mem_cons.mpr ⟨tq_567, List.forall_mem_cons.mpr ⟨tq_568, List.forall_mem_cons.mpr ⟨tq_569, List.forall_mem_cons.mpr ⟨tq_11, List.forall_mem_cons.mpr ⟨tq_570, List.forall_mem_cons.mpr ⟨tq_38, List.forall_mem_cons.mpr ⟨tq_36, List.forall_mem_cons.mpr ⟨tq_329, List.forall_mem_cons.mpr ⟨tq_322, List.forall_mem_cons.mpr ⟨tq_323, List.forall_mem_cons.mpr ⟨tq_324, List.forall_mem_cons.mpr ⟨tq_37, List.forall_mem_cons.mpr ⟨tq_320, List.forall_mem_cons.mpr ⟨tq_313, List.forall_mem_cons.mpr ⟨tq_314, List.forall_mem_cons.mpr ⟨tq_315, List.forall_mem_cons.mpr ⟨tq_312, List.forall_mem_cons.mpr ⟨tq_355, List.forall_mem_cons.mpr ⟨tq_356, List.forall_mem_cons.mpr ⟨tq_357, List.forall_mem_cons.mpr ⟨tq_358, fun _ h => absurd h List.not_mem_nil⟩⟩⟩⟩⟩⟩⟩⟩⟩⟩⟩⟩⟩⟩⟩⟩⟩⟩⟩⟩⟩⟩⟩⟩
theorem tq_571 : Cond.methodLink RX9 158 yX3_u4 ∈ lw_tbl := tb_2 (i := 207) rfl
theorem wkX9_front_r2 : ∀ w ∈ wsX9_front_r2, w ∈ lw_tbl := List.forall_mem_cons.mpr ⟨tq_359, List.forall_mem_cons.mpr ⟨tq_110, List.forall_mem_cons.mpr ⟨tq_111, List.forall_mem_cons.mpr ⟨tq_34, List.forall_mem_cons.mpr ⟨tq_360, List.forall_mem_cons.mpr ⟨tq_113, List.forall_mem_cons.mpr ⟨tq_114, List.forall_mem_cons.mpr ⟨tq_115, List.forall_mem_cons.mpr ⟨tq_2, List.forall_mem_cons.mpr ⟨tq_3, List.forall_mem_cons.mpr ⟨tq_116, List.forall_mem_cons.mpr ⟨tq_117, List.forall_mem_cons.mpr ⟨tq_118, List.forall_mem_cons.mpr ⟨tq_119, List.forall_mem_cons.mpr ⟨tq_571, List.forall_mem_cons.mpr ⟨tq_136, List.forall_mem_cons.mpr ⟨tq_137, List.forall_mem_cons.mpr ⟨tq_138, List.forall_mem_cons.mpr ⟨tq_139, List.forall_mem_cons.mpr ⟨tq_140, List.forall_mem_cons.mpr ⟨tq_141, List.forall_mem_cons.mpr ⟨tq_142, List.forall_mem_cons.mpr ⟨tq_143, List.forall_mem_cons.mpr ⟨tq_144, fun _ h => absurd h List.not_mem_nil⟩⟩⟩⟩⟩⟩⟩⟩⟩⟩⟩⟩⟩⟩⟩⟩⟩⟩⟩⟩⟩⟩⟩⟩
theorem wkX9_front_r3 : ∀ w ∈ wsX9_front_r3, w ∈ lw_tbl := List.forall_mem_cons.mpr ⟨tq_145, List.forall_mem_cons.mpr ⟨tq_146, List.forall_mem_cons.mpr ⟨tq_147, List.forall_mem_cons.mpr ⟨tq_148, fun _ h => absurd h List.not_mem_nil⟩⟩⟩⟩
set_option maxRecDepth 20000 in
theorem gwX9_front : GoodIn lw_tbl wsX9_front := goodIn_sub (List.forall_mem_cons.mpr ⟨tq_565, (List.forall_mem_append.mpr ⟨(List.forall_mem_append.mpr ⟨(List.forall_mem_append.mpr ⟨(List.forall_mem_append.mpr ⟨(List.forall_mem_append.mpr ⟨wkX9_front_r1, (List.forall_mem_append.mpr ⟨wkX9_front_r2, wkX9_front_r3⟩)⟩), inT_i9⟩), inT_i0⟩), inT_i3⟩), inT_i6⟩)⟩) (by decide +kernel)
theorem tq_572 : Cond.methodLink RL 64 yX9_front ∈ lw_tbl := tb_2 (i := 198) rfl
theorem tq_573 : Cond.instanceMethod yX9_front ∈ lw_tbl := tb_2 (i := 199) rfl
theorem tq_574 : Cond.selects RX9 yX9_front yX9_front ∈ lw_tbl := tb_2 (i := 200) rfl
set_option maxRecDepth 20000 in
theorem gc_X9_front : GoodIn lw_tbl (wsV RL 64 RX9 yX9_front wsX9_front) := goodIn_app (goodIn_sub (List.forall_mem_cons.mpr ⟨tq_572, List.forall_mem_cons.mpr ⟨tq_573, List.forall_mem_cons.mpr ⟨tq_574, List.forall_mem_cons.mpr ⟨tq_78, fun _ h => absurd h List.not_mem_nil⟩⟩⟩⟩) (by decide +kernel)) gwX9_front
theorem tq_575 : Cond.code yX10_front cX10_front 2 (some .long) ∈ lw_tbl := tb_4 (i := 98) rfl
theorem tq_576 : Cond.constant RX10 197 (1181970531) ∈ lw_tbl := tb_4 (i := 99) rfl
theorem tq_577 : Cond.methodLink RX10 198 yX10_first ∈ lw_tbl := tb_4 (i := 100) rfl
theorem tq_578 : Cond.instanceMethod yX10_first ∈ lw_tbl := tb_4 (i := 102) rfl
theorem tq_579 : Cond.selects RX10 yX10_first yX10_first ∈ lw_tbl := tb_0 (i := 24) rfl
theorem tq_580 : Cond.code yX10_first cX10_first 5 (some .int) ∈ lw_tbl := tb_4 (i := 103) rfl
set_option maxRecDepth 20000 in
theorem gwX10_front : GoodIn lw_tbl wsX10_front := goodIn_sub (List.forall_mem_cons.mpr ⟨tq_575, (List.forall_mem_append.mpr ⟨(List.forall_mem_cons.mpr ⟨tq_576, List.forall_mem_cons.mpr ⟨tq_509, List.forall_mem_cons.mpr ⟨tq_55, List.forall_mem_cons.mpr ⟨tq_577, List.forall_mem_cons.mpr ⟨tq_578, List.forall_mem_cons.mpr ⟨tq_579, List.forall_mem_cons.mpr ⟨tq_85, List.forall_mem_cons.mpr ⟨tq_580, List.forall_mem_cons.mpr ⟨tq_239, List.forall_mem_cons.mpr ⟨tq_56, List.forall_mem_cons.mpr ⟨tq_57, List.forall_mem_cons.mpr ⟨tq_367, List.forall_mem_cons.mpr ⟨tq_368, List.forall_mem_cons.mpr ⟨tq_369, List.forall_mem_cons.mpr ⟨tq_370, List.forall_mem_cons.mpr ⟨tq_257, List.forall_mem_cons.mpr ⟨tq_258, List.forall_mem_cons.mpr ⟨tq_259, List.forall_mem_cons.mpr ⟨tq_260, List.forall_mem_cons.mpr ⟨tq_254, List.forall_mem_cons.mpr ⟨tq_255, List.forall_mem_cons.mpr ⟨tq_256, fun _ h => absurd h List.not_mem_nil⟩⟩⟩⟩⟩⟩⟩⟩⟩⟩⟩⟩⟩⟩⟩⟩⟩⟩⟩⟩⟩⟩), inT_i10⟩)⟩) (by decide +kernel)
theorem tq_581 : Cond.methodLink RL 68 yX10_front ∈ lw_tbl := tb_4 (i := 95) rfl
theorem tq_582 : Cond.instanceMethod yX10_front ∈ lw_tbl := tb_4 (i := 96) rfl
theorem tq_583 : Cond.selects RX10 yX10_front yX10_front ∈ lw_tbl := tb_4 (i := 97) rfl
set_option maxRecDepth 20000 in
theorem gc_X10_front : GoodIn lw_tbl (wsV RL 68 RX10 yX10_front wsX10_front) := goodIn_app (goodIn_sub (List.forall_mem_cons.mpr ⟨tq_581, List.forall_mem_cons.mpr ⟨tq_582, List.forall_mem_cons.mpr ⟨tq_583, List.forall_mem_cons.mpr ⟨tq_85, fun _ h => absurd h List.not_mem_nil⟩⟩⟩⟩) (by decide +kernel)) gwX10_front
theorem tq_584 : Cond.code yX9_release cX9_release 2 (some .int) ∈ lw_tbl := tb_2 (i := 211) rfl
theorem tq_585 : Cond.constant RX9 162 (1382378574) ∈ lw_tbl := tb_2 (i := 212) rfl
theorem wkX9_release_r1 : ∀ w ∈ wsX9_release_r1, w ∈ lw_tbl := List.forall_mem_cons.mpr ⟨tq_12, List.forall_mem_cons.mpr ⟨tq_585, List.forall_mem_cons.mpr ⟨tq_567, List.forall_mem_cons.mpr ⟨tq_568, List.forall_mem_cons.mpr ⟨tq_569, List.forall_mem_cons.mpr ⟨tq_11, List.forall_mem_cons.mpr ⟨tq_570, List.forall_mem_cons.mpr ⟨tq_38, List.forall_mem_cons.mpr ⟨tq_36, List.forall_mem_cons.mpr ⟨tq_329, List.forall_mem_cons.mpr ⟨tq_322, List.forall_mem_cons.mpr ⟨tq_323, List.forall_mem_cons.mpr ⟨tq_324, List.forall_mem_cons.mpr ⟨tq_37, List.forall_mem_cons.mpr ⟨tq_320, List.forall_mem_cons.mpr ⟨tq_313, List.forall_mem_cons.mpr ⟨tq_314, List.forall_mem_cons.mpr ⟨tq_315, List.forall_mem_cons.mpr ⟨tq_312, List.forall_mem_cons.mpr ⟨tq_355, List.forall_mem_cons.mpr ⟨tq_356, List.forall_mem_cons.mpr ⟨tq_357, List.forall_mem_cons.mpr ⟨tq_358, List.forall_mem_cons.mpr ⟨tq_359, fun _ h => absurd h List.not_mem_nil⟩⟩⟩⟩⟩⟩⟩⟩⟩⟩⟩⟩⟩⟩⟩⟩⟩⟩⟩⟩⟩⟩⟩⟩
theorem tq_586 : Cond.methodLink RX9 163 yX3_u2 ∈ lw_tbl := tb_2 (i := 213) rfl
theorem wkX9_release_r2 : ∀ w ∈ wsX9_release_r2, w ∈ lw_tbl := List.forall_mem_cons.mpr ⟨tq_110, List.forall_mem_cons.mpr ⟨tq_111, List.forall_mem_cons.mpr ⟨tq_34, List.forall_mem_cons.mpr ⟨tq_360, List.forall_mem_cons.mpr ⟨tq_113, List.forall_mem_cons.mpr ⟨tq_114, List.forall_mem_cons.mpr ⟨tq_115, List.forall_mem_cons.mpr ⟨tq_2, List.forall_mem_cons.mpr ⟨tq_3, List.forall_mem_cons.mpr ⟨tq_116, List.forall_mem_cons.mpr ⟨tq_117, List.forall_mem_cons.mpr ⟨tq_118, List.forall_mem_cons.mpr ⟨tq_119, List.forall_mem_cons.mpr ⟨tq_586, List.forall_mem_cons.mpr ⟨tq_481, List.forall_mem_cons.mpr ⟨tq_482, List.forall_mem_cons.mpr ⟨tq_483, List.forall_mem_cons.mpr ⟨tq_139, List.forall_mem_cons.mpr ⟨tq_140, List.forall_mem_cons.mpr ⟨tq_141, List.forall_mem_cons.mpr ⟨tq_142, List.forall_mem_cons.mpr ⟨tq_143, List.forall_mem_cons.mpr ⟨tq_144, List.forall_mem_cons.mpr ⟨tq_145, fun _ h => absurd h List.not_mem_nil⟩⟩⟩⟩⟩⟩⟩⟩⟩⟩⟩⟩⟩⟩⟩⟩⟩⟩⟩⟩⟩⟩⟩⟩
theorem wkX9_release_r3 : ∀ w ∈ wsX9_release_r3, w ∈ lw_tbl := List.forall_mem_cons.mpr ⟨tq_146, List.forall_mem_cons.mpr ⟨tq_147, List.forall_mem_cons.mpr ⟨tq_148, fun _ h => absurd h List.not_mem_nil⟩⟩⟩
set_option maxRecDepth 20000 in
theorem gwX9_release : GoodIn lw_tbl wsX9_release := goodIn_sub (List.forall_mem_cons.mpr ⟨tq_584, (List.forall_mem_append.mpr ⟨(List.forall_mem_append.mpr ⟨(List.forall_mem_append.mpr ⟨(List.forall_mem_append.mpr ⟨(List.forall_mem_append.mpr ⟨wkX9_release_r1, (List.forall_mem_append.mpr ⟨wkX9_release_r2, wkX9_release_r3⟩)⟩), inT_i9⟩), inT_i0⟩), inT_i3⟩), inT_i6⟩)⟩) (by decide +kernel)
theorem tq_587 : Cond.methodLink RL 69 yX9_release ∈ lw_tbl := tb_2 (i := 208) rfl
theorem tq_588 : Cond.instanceMethod yX9_release ∈ lw_tbl := tb_2 (i := 209) rfl
theorem tq_589 : Cond.selects RX9 yX9_release yX9_release ∈ lw_tbl := tb_2 (i := 210) rfl
set_option maxRecDepth 20000 in
theorem gc_X9_release : GoodIn lw_tbl (wsV RL 69 RX9 yX9_release wsX9_release) := goodIn_app (goodIn_sub (List.forall_mem_cons.mpr ⟨tq_587, List.forall_mem_cons.mpr ⟨tq_588, List.forall_mem_cons.mpr ⟨tq_589, List.forall_mem_cons.mpr ⟨tq_78, fun _ h => absurd h List.not_mem_nil⟩⟩⟩⟩) (by decide +kernel)) gwX9_release
theorem tq_590 : Cond.code yX10_release cX10_release 2 (some .int) ∈ lw_tbl := tb_4 (i := 107) rfl
theorem tq_591 : Cond.constant RX10 202 (1382378574) ∈ lw_tbl := tb_4 (i := 108) rfl
set_option maxRecDepth 20000 in
theorem gwX10_release : GoodIn lw_tbl wsX10_release := goodIn_sub (List.forall_mem_cons.mpr ⟨tq_590, (List.forall_mem_append.mpr ⟨(List.forall_mem_cons.mpr ⟨tq_591, List.forall_mem_cons.mpr ⟨tq_55, List.forall_mem_cons.mpr ⟨tq_577, List.forall_mem_cons.mpr ⟨tq_578, List.forall_mem_cons.mpr ⟨tq_579, List.forall_mem_cons.mpr ⟨tq_85, List.forall_mem_cons.mpr ⟨tq_580, List.forall_mem_cons.mpr ⟨tq_239, List.forall_mem_cons.mpr ⟨tq_56, List.forall_mem_cons.mpr ⟨tq_57, List.forall_mem_cons.mpr ⟨tq_367, List.forall_mem_cons.mpr ⟨tq_368, List.forall_mem_cons.mpr ⟨tq_369, List.forall_mem_cons.mpr ⟨tq_370, List.forall_mem_cons.mpr ⟨tq_525, List.forall_mem_cons.mpr ⟨tq_526, List.forall_mem_cons.mpr ⟨tq_527, fun _ h => absurd h List.not_mem_nil⟩⟩⟩⟩⟩⟩⟩⟩⟩⟩⟩⟩⟩⟩⟩⟩⟩), inT_i10⟩)⟩) (by decide +kernel)
theorem tq_592 : Cond.methodLink RL 72 yX10_release ∈ lw_tbl := tb_4 (i := 104) rfl
theorem tq_593 : Cond.instanceMethod yX10_release ∈ lw_tbl := tb_4 (i := 105) rfl
theorem tq_594 : Cond.selects RX10 yX10_release yX10_release ∈ lw_tbl := tb_4 (i := 106) rfl
set_option maxRecDepth 20000 in
theorem gc_X10_release : GoodIn lw_tbl (wsV RL 72 RX10 yX10_release wsX10_release) := goodIn_app (goodIn_sub (List.forall_mem_cons.mpr ⟨tq_592, List.forall_mem_cons.mpr ⟨tq_593, List.forall_mem_cons.mpr ⟨tq_594, List.forall_mem_cons.mpr ⟨tq_85, fun _ h => absurd h List.not_mem_nil⟩⟩⟩⟩) (by decide +kernel)) gwX10_release
theorem tq_595 : Cond.code yX9_colour cX9_colour 3 (some .int) ∈ lw_tbl := tb_2 (i := 217) rfl
theorem tq_596 : Cond.constant RX9 166 (1349284965) ∈ lw_tbl := tb_2 (i := 218) rfl
theorem tq_597 : Cond.fieldLink RX9 170 "BlorbRows$Part" "length" "I" ∈ lw_tbl := tb_1 (i := 165) rfl
theorem tq_598 : Cond.methodLink RX9 167 yX0_firstOf ∈ lw_tbl := tb_2 (i := 219) rfl
theorem tq_599 : Cond.instanceMethod yX0_firstOf ∈ lw_tbl := tb_2 (i := 220) rfl
theorem tq_600 : Cond.selects RX0 yX0_firstOf yX0_firstOf ∈ lw_tbl := tb_2 (i := 221) rfl
theorem tq_601 : Cond.code yX0_firstOf cX0_firstOf 3 (some .int) ∈ lw_tbl := tb_2 (i := 222) rfl
theorem wkX9_colour_r1 : ∀ w ∈ wsX9_colour_r1, w ∈ lw_tbl := List.forall_mem_cons.mpr ⟨tq_12, List.forall_mem_cons.mpr ⟨tq_596, List.forall_mem_cons.mpr ⟨tq_597, List.forall_mem_cons.mpr ⟨tq_598, List.forall_mem_cons.mpr ⟨tq_599, List.forall_mem_cons.mpr ⟨tq_600, List.forall_mem_cons.mpr ⟨tq_11, List.forall_mem_cons.mpr ⟨tq_601, List.forall_mem_cons.mpr ⟨tq_38, List.forall_mem_cons.mpr ⟨tq_36, List.forall_mem_cons.mpr ⟨tq_355, List.forall_mem_cons.mpr ⟨tq_356, List.forall_mem_cons.mpr ⟨tq_357, List.forall_mem_cons.mpr ⟨tq_358, List.forall_mem_cons.mpr ⟨tq_359, List.forall_mem_cons.mpr ⟨tq_110, List.forall_mem_cons.mpr ⟨tq_111, List.forall_mem_cons.mpr ⟨tq_34, List.forall_mem_cons.mpr ⟨tq_37, List.forall_mem_cons.mpr ⟨tq_320, List.forall_mem_cons.mpr ⟨tq_313, List.forall_mem_cons.mpr ⟨tq_314, List.forall_mem_cons.mpr ⟨tq_315, List.forall_mem_cons.mpr ⟨tq_329, fun _ h => absurd h List.not_mem_nil⟩⟩⟩⟩⟩⟩⟩⟩⟩⟩⟩⟩⟩⟩⟩⟩⟩⟩⟩⟩⟩⟩⟩⟩
theorem wkX9_colour_r2 : ∀ w ∈ wsX9_colour_r2, w ∈ lw_tbl := List.forall_mem_cons.mpr ⟨tq_322, List.forall_mem_cons.mpr ⟨tq_323, List.forall_mem_cons.mpr ⟨tq_324, List.forall_mem_cons.mpr ⟨tq_360, List.forall_mem_cons.mpr ⟨tq_113, List.forall_mem_cons.mpr ⟨tq_114, List.forall_mem_cons.mpr ⟨tq_115, List.forall_mem_cons.mpr ⟨tq_2, List.forall_mem_cons.mpr ⟨tq_3, List.forall_mem_cons.mpr ⟨tq_116, List.forall_mem_cons.mpr ⟨tq_117, List.forall_mem_cons.mpr ⟨tq_118, List.forall_mem_cons.mpr ⟨tq_119, List.forall_mem_cons.mpr ⟨tq_586, List.forall_mem_cons.mpr ⟨tq_481, List.forall_mem_cons.mpr ⟨tq_482, List.forall_mem_cons.mpr ⟨tq_483, List.forall_mem_cons.mpr ⟨tq_139, List.forall_mem_cons.mpr ⟨tq_140, List.forall_mem_cons.mpr ⟨tq_141, List.forall_mem_cons.mpr ⟨tq_142, List.forall_mem_cons.mpr ⟨tq_143, List.forall_mem_cons.mpr ⟨tq_144, List.forall_mem_cons.mpr ⟨tq_145, fun _ h => absurd h List.not_mem_nil⟩⟩⟩⟩⟩⟩⟩⟩⟩⟩⟩⟩⟩⟩⟩⟩⟩⟩⟩⟩⟩⟩⟩⟩
theorem wkX9_colour_r3 : ∀ w ∈ wsX9_colour_r3, w ∈ lw_tbl := List.forall_mem_cons.mpr ⟨tq_146, List.forall_mem_cons.mpr ⟨tq_147, List.forall_mem_cons.mpr ⟨tq_148, List.forall_mem_cons.mpr ⟨tq_362, List.forall_mem_cons.mpr ⟨tq_167, List.forall_mem_cons.mpr ⟨tq_168, List.forall_mem_cons.mpr ⟨tq_169, fun _ h => absurd h List.not_mem_nil⟩⟩⟩⟩⟩⟩⟩
set_option maxRecDepth 20000 in
theorem gwX9_colour : GoodIn lw_tbl wsX9_colour := goodIn_sub (List.forall_mem_cons.mpr ⟨tq_595, (List.forall_mem_append.mpr ⟨(List.forall_mem_append.mpr ⟨(List.forall_mem_append.mpr ⟨(List.forall_mem_append.mpr ⟨(List.forall_mem_append.mpr ⟨wkX9_colour_r1, (List.forall_mem_append.mpr ⟨wkX9_colour_r2, wkX9_colour_r3⟩)⟩), inT_i9⟩), inT_i3⟩), inT_i0⟩), inT_i6⟩)⟩) (by decide +kernel)
theorem tq_602 : Cond.methodLink RL 73 yX9_colour ∈ lw_tbl := tb_2 (i := 214) rfl
theorem tq_603 : Cond.instanceMethod yX9_colour ∈ lw_tbl := tb_2 (i := 215) rfl
theorem tq_604 : Cond.selects RX9 yX9_colour yX9_colour ∈ lw_tbl := tb_2 (i := 216) rfl
set_option maxRecDepth 20000 in
theorem gc_X9_colour : GoodIn lw_tbl (wsV RL 73 RX9 yX9_colour wsX9_colour) := goodIn_app (goodIn_sub (List.forall_mem_cons.mpr ⟨tq_602, List.forall_mem_cons.mpr ⟨tq_603, List.forall_mem_cons.mpr ⟨tq_604, List.forall_mem_cons.mpr ⟨tq_78, fun _ h => absurd h List.not_mem_nil⟩⟩⟩⟩) (by decide +kernel)) gwX9_colour
theorem tq_605 : Cond.code yX10_colour cX10_colour 4 (some .int) ∈ lw_tbl := tb_4 (i := 112) rfl
theorem tq_606 : Cond.constant RX10 203 (1349284965) ∈ lw_tbl := tb_4 (i := 113) rfl
set_option maxRecDepth 20000 in
theorem gwX10_colour : GoodIn lw_tbl wsX10_colour := goodIn_sub (List.forall_mem_cons.mpr ⟨tq_605, (List.forall_mem_append.mpr ⟨(List.forall_mem_cons.mpr ⟨tq_606, List.forall_mem_cons.mpr ⟨tq_338, List.forall_mem_cons.mpr ⟨tq_57, List.forall_mem_cons.mpr ⟨tq_55, List.forall_mem_cons.mpr ⟨tq_577, List.forall_mem_cons.mpr ⟨tq_578, List.forall_mem_cons.mpr ⟨tq_579, List.forall_mem_cons.mpr ⟨tq_85, List.forall_mem_cons.mpr ⟨tq_580, List.forall_mem_cons.mpr ⟨tq_239, List.forall_mem_cons.mpr ⟨tq_56, List.forall_mem_cons.mpr ⟨tq_367, List.forall_mem_cons.mpr ⟨tq_368, List.forall_mem_cons.mpr ⟨tq_369, List.forall_mem_cons.mpr ⟨tq_370, fun _ h => absurd h List.not_mem_nil⟩⟩⟩⟩⟩⟩⟩⟩⟩⟩⟩⟩⟩⟩⟩), inT_i10⟩)⟩) (by decide +kernel)
theorem tq_607 : Cond.methodLink RL 76 yX10_colour ∈ lw_tbl := tb_4 (i := 109) rfl
theorem tq_608 : Cond.instanceMethod yX10_colour ∈ lw_tbl := tb_4 (i := 110) rfl
theorem tq_609 : Cond.selects RX10 yX10_colour yX10_colour ∈ lw_tbl := tb_4 (i := 111) rfl
set_option maxRecDepth 20000 in
theorem gc_X10_colour : GoodIn lw_tbl (wsV RL 76 RX10 yX10_colour wsX10_colour) := goodIn_app (goodIn_sub (List.forall_mem_cons.mpr ⟨tq_607, List.forall_mem_cons.mpr ⟨tq_608, List.forall_mem_cons.mpr ⟨tq_609, List.forall_mem_cons.mpr ⟨tq_85, fun _ h => absurd h List.not_mem_nil⟩⟩⟩⟩) (by decide +kernel)) gwX10_colour
theorem tq_610 : Cond.code yX9_scaled cX9_scaled 17 (some .long) ∈ lw_tbl := tb_2 (i := 226) rfl
theorem tq_611 : Cond.constant RX9 178 (1349084020) ∈ lw_tbl := tb_2 (i := 231) rfl
theorem tq_612 : Cond.constant RX9 179 (1382380399) ∈ lw_tbl := tb_2 (i := 232) rfl
theorem tq_613 : Cond.constantLong RX9 186 (65535) ∈ lw_tbl := tb_2 (i := 230) rfl
theorem tq_614 : Cond.methodLink RX9 175 yX9_isSide ∈ lw_tbl := tb_2 (i := 227) rfl
theorem tq_615 : Cond.static yX9_isSide ∈ lw_tbl := tb_2 (i := 228) rfl
theorem tq_616 : Cond.code yX9_isSide cX9_isSide 2 (some .boolean) ∈ lw_tbl := tb_2 (i := 229) rfl
theorem wkX9_scaled_r1 : ∀ w ∈ wsX9_scaled_r1, w ∈ lw_tbl := List.forall_mem_cons.mpr ⟨tq_375, List.forall_mem_cons.mpr ⟨tq_12, List.forall_mem_cons.mpr ⟨tq_611, List.forall_mem_cons.mpr ⟨tq_533, List.forall_mem_cons.mpr ⟨tq_378, List.forall_mem_cons.mpr ⟨tq_612, List.forall_mem_cons.mpr ⟨tq_613, List.forall_mem_cons.mpr ⟨tq_434, List.forall_mem_cons.mpr ⟨tq_435, List.forall_mem_cons.mpr ⟨tq_78, List.forall_mem_cons.mpr ⟨tq_436, List.forall_mem_cons.mpr ⟨tq_437, List.forall_mem_cons.mpr ⟨tq_614, List.forall_mem_cons.mpr ⟨tq_615, List.forall_mem_cons.mpr ⟨tq_616, List.forall_mem_cons.mpr ⟨tq_457, List.forall_mem_cons.mpr ⟨tq_458, List.forall_mem_cons.mpr ⟨tq_459, List.forall_mem_cons.mpr ⟨tq_438, List.forall_mem_cons.mpr ⟨tq_439, List.forall_mem_cons.mpr ⟨tq_440, List.forall_mem_cons.mpr ⟨tq_11, List.forall_mem_cons.mpr ⟨tq_441, List.forall_mem_cons.mpr ⟨tq_43, fun _ h => absurd h List.not_mem_nil⟩⟩⟩⟩⟩⟩⟩⟩⟩⟩⟩⟩⟩⟩⟩⟩⟩⟩⟩⟩⟩⟩⟩⟩
theorem wkX9_scaled_r2 : ∀ w ∈ wsX9_scaled_r2, w ∈ lw_tbl := List.forall_mem_cons.mpr ⟨tq_39, List.forall_mem_cons.mpr ⟨tq_41, List.forall_mem_cons.mpr ⟨tq_379, List.forall_mem_cons.mpr ⟨tq_380, List.forall_mem_cons.mpr ⟨tq_381, List.forall_mem_cons.mpr ⟨tq_382, List.forall_mem_cons.mpr ⟨tq_316, List.forall_mem_cons.mpr ⟨tq_317, List.forall_mem_cons.mpr ⟨tq_318, List.forall_mem_cons.mpr ⟨tq_319, List.forall_mem_cons.mpr ⟨tq_36, List.forall_mem_cons.mpr ⟨tq_320, List.forall_mem_cons.mpr ⟨tq_313, List.forall_mem_cons.mpr ⟨tq_314, List.forall_mem_cons.mpr ⟨tq_315, List.forall_mem_cons.mpr ⟨tq_38, List.forall_mem_cons.mpr ⟨tq_355, List.forall_mem_cons.mpr ⟨tq_356, List.forall_mem_cons.mpr ⟨tq_357, List.forall_mem_cons.mpr ⟨tq_358, List.forall_mem_cons.mpr ⟨tq_359, List.forall_mem_cons.mpr ⟨tq_110, List.forall_mem_cons.mpr ⟨tq_111, List.forall_mem_cons.mpr ⟨tq_34, fun _ h => absurd h List.not_mem_nil⟩⟩⟩⟩⟩⟩⟩⟩⟩⟩⟩⟩⟩⟩⟩⟩⟩⟩⟩⟩⟩⟩⟩⟩
theorem wkX9_scaled_r3 : ∀ w ∈ wsX9_scaled_r3, w ∈ lw_tbl := List.forall_mem_cons.mpr ⟨tq_37, List.forall_mem_cons.mpr ⟨tq_329, List.forall_mem_cons.mpr ⟨tq_322, List.forall_mem_cons.mpr ⟨tq_323, List.forall_mem_cons.mpr ⟨tq_324, List.forall_mem_cons.mpr ⟨tq_360, List.forall_mem_cons.mpr ⟨tq_113, List.forall_mem_cons.mpr ⟨tq_114, List.forall_mem_cons.mpr ⟨tq_115, List.forall_mem_cons.mpr ⟨tq_2, List.forall_mem_cons.mpr ⟨tq_3, List.forall_mem_cons.mpr ⟨tq_116, List.forall_mem_cons.mpr ⟨tq_117, List.forall_mem_cons.mpr ⟨tq_118, List.forall_mem_cons.mpr ⟨tq_119, List.forall_mem_cons.mpr ⟨tq_460, List.forall_mem_cons.mpr ⟨tq_461, List.forall_mem_cons.mpr ⟨tq_462, List.forall_mem_cons.mpr ⟨tq_463, List.forall_mem_cons.mpr ⟨tq_464, List.forall_mem_cons.mpr ⟨tq_465, List.forall_mem_cons.mpr ⟨tq_466, List.forall_mem_cons.mpr ⟨tq_467, List.forall_mem_cons.mpr ⟨tq_468, fun _ h => absurd h List.not_mem_nil⟩⟩⟩⟩⟩⟩⟩⟩⟩⟩⟩⟩⟩⟩⟩⟩⟩⟩⟩⟩⟩⟩⟩⟩
theorem wkX9_scaled_r4 : ∀ w ∈ wsX9_scaled_r4, w ∈ lw_tbl := List.forall_mem_cons.mpr ⟨tq_469, List.forall_mem_cons.mpr ⟨tq_136, List.forall_mem_cons.mpr ⟨tq_137, List.forall_mem_cons.mpr ⟨tq_138, List.forall_mem_cons.mpr ⟨tq_139, List.forall_mem_cons.mpr ⟨tq_140, List.forall_mem_cons.mpr ⟨tq_141, List.forall_mem_cons.mpr ⟨tq_142, List.forall_mem_cons.mpr ⟨tq_143, List.forall_mem_cons.mpr ⟨tq_144, List.forall_mem_cons.mpr ⟨tq_145, List.forall_mem_cons.mpr ⟨tq_146, List.forall_mem_cons.mpr ⟨tq_147, List.forall_mem_cons.mpr ⟨tq_148, List.forall_mem_cons.mpr ⟨tq_470, List.forall_mem_cons.mpr ⟨tq_471, List.forall_mem_cons.mpr ⟨tq_472, List.forall_mem_cons.mpr ⟨tq_473, List.forall_mem_cons.mpr ⟨tq_474, List.forall_mem_cons.mpr ⟨tq_475, List.forall_mem_cons.mpr ⟨tq_476, List.forall_mem_cons.mpr ⟨tq_477, List.forall_mem_cons.mpr ⟨tq_478, List.forall_mem_cons.mpr ⟨tq_479, fun _ h => absurd h List.not_mem_nil⟩⟩⟩⟩⟩⟩⟩⟩⟩⟩⟩⟩⟩⟩⟩⟩⟩⟩⟩⟩⟩⟩⟩⟩
theorem wkX9_scaled_r5 : ∀ w ∈ wsX9_scaled_r5, w ∈ lw_tbl := List.forall_mem_cons.mpr ⟨tq_480, List.forall_mem_cons.mpr ⟨tq_481, List.forall_mem_cons.mpr ⟨tq_482, List.forall_mem_cons.mpr ⟨tq_483, List.forall_mem_cons.mpr ⟨tq_484, List.forall_mem_cons.mpr ⟨tq_167, List.forall_mem_cons.mpr ⟨tq_168, List.forall_mem_cons.mpr ⟨tq_169, List.forall_mem_cons.mpr ⟨tq_485, List.forall_mem_cons.mpr ⟨tq_486, List.forall_mem_cons.mpr ⟨tq_487, List.forall_mem_cons.mpr ⟨tq_488, List.forall_mem_cons.mpr ⟨tq_489, List.forall_mem_cons.mpr ⟨tq_490, List.forall_mem_cons.mpr ⟨tq_491, List.forall_mem_cons.mpr ⟨tq_492, List.forall_mem_cons.mpr ⟨tq_493, List.forall_mem_cons.mpr ⟨tq_494, List.forall_mem_cons.mpr ⟨tq_495, List.forall_mem_cons.mpr ⟨tq_496, List.forall_mem_cons.mpr ⟨tq_497, List.forall_mem_cons.mpr ⟨tq_498, List.forall_mem_cons.mpr ⟨tq_499, List.forall_mem_cons.mpr ⟨tq_500, fun _ h => absurd h List.not_mem_nil⟩⟩⟩⟩⟩⟩⟩⟩⟩⟩⟩⟩⟩⟩⟩⟩⟩⟩⟩⟩⟩⟩⟩⟩
theorem tq_617 : Cond.methodLink RX9 180 yX8_rowOf ∈ lw_tbl := tb_2 (i := 233) rfl
theorem tq_618 : Cond.static yX8_rowOf ∈ lw_tbl := tb_2 (i := 234) rfl
theorem tq_619 : Cond.initialized RX8 ∈ lw_tbl := tb_1 (i := 12) rfl
theorem tq_620 : Cond.code yX8_rowOf cX8_rowOf 4 (some .int) ∈ lw_tbl := tb_2 (i := 235) rfl
theorem tq_621 : Cond.fieldLink RX8 9 "BlorbRows$Part" "length" "I" ∈ lw_tbl := tb_1 (i := 159) rfl
theorem tq_622 : Cond.methodLink RX8 17 yX3_u4 ∈ lw_tbl := tb_2 (i := 236) rfl
theorem tq_623 : Cond.methodLink RX9 188 yX8_ratioOn ∈ lw_tbl := tb_2 (i := 237) rfl
theorem tq_624 : Cond.static yX8_ratioOn ∈ lw_tbl := tb_2 (i := 238) rfl
theorem tq_625 : Cond.code yX8_ratioOn cX8_ratioOn 11 (some (.object "BlorbRows$Ratio")) ∈ lw_tbl := tb_2 (i := 239) rfl
theorem tq_626 : Cond.classLink RX8 21 RX5 ∈ lw_tbl := tb_3 (i := 0) rfl
theorem tq_627 : Cond.instantiable RX5 2 ∈ lw_tbl := tb_3 (i := 1) rfl
theorem tq_628 : Cond.initialized RX5 ∈ lw_tbl := tb_1 (i := 13) rfl
theorem tq_629 : Cond.methodLink RX8 23 yX5_init ∈ lw_tbl := tb_3 (i := 2) rfl
theorem tq_630 : Cond.instanceMethod yX5_init ∈ lw_tbl := tb_3 (i := 3) rfl
theorem tq_631 : Cond.code yX5_init cX5_init 5 none ∈ lw_tbl := tb_3 (i := 4) rfl
theorem tq_632 : Cond.methodLink RX5 3 objectInit ∈ lw_tbl := tb_3 (i := 5) rfl
theorem tq_633 : Cond.fieldLink RX5 9 "BlorbRows$Ratio" "above" "J" ∈ lw_tbl := tb_3 (i := 6) rfl
theorem tq_634 : Cond.fieldLink RX5 15 "BlorbRows$Ratio" "below" "J" ∈ lw_tbl := tb_3 (i := 7) rfl
theorem tq_635 : Cond.methodLink RX8 26 yX8_ratioAt ∈ lw_tbl := tb_3 (i := 13) rfl
theorem tq_636 : Cond.static yX8_ratioAt ∈ lw_tbl := tb_3 (i := 14) rfl
theorem wkX9_scaled_r6 : ∀ w ∈ wsX9_scaled_r6, w ∈ lw_tbl := List.forall_mem_cons.mpr ⟨tq_598, List.forall_mem_cons.mpr ⟨tq_599, List.forall_mem_cons.mpr ⟨tq_600, List.forall_mem_cons.mpr ⟨tq_601, List.forall_mem_cons.mpr ⟨tq_617, List.forall_mem_cons.mpr ⟨tq_618, List.forall_mem_cons.mpr ⟨tq_619, List.forall_mem_cons.mpr ⟨tq_620, List.forall_mem_cons.mpr ⟨tq_621, List.forall_mem_cons.mpr ⟨tq_622, List.forall_mem_cons.mpr ⟨tq_623, List.forall_mem_cons.mpr ⟨tq_624, List.forall_mem_cons.mpr ⟨tq_625, List.forall_mem_cons.mpr ⟨tq_626, List.forall_mem_cons.mpr ⟨tq_627, List.forall_mem_cons.mpr ⟨tq_628, List.forall_mem_cons.mpr ⟨tq_629, List.forall_mem_cons.mpr ⟨tq_630, List.forall_mem_cons.mpr ⟨tq_631, List.forall_mem_cons.mpr ⟨tq_632, List.forall_mem_cons.mpr ⟨tq_633, List.forall_mem_cons.mpr ⟨tq_634, List.forall_mem_cons.mpr ⟨tq_635, List.forall_mem_cons.mpr ⟨tq_636, fun _ h => absurd h List.not_mem_nil⟩⟩⟩⟩⟩⟩⟩⟩⟩⟩⟩⟩⟩⟩⟩⟩⟩⟩⟩⟩⟩⟩⟩⟩
theorem tq_637 : Cond.code yX8_ratioAt cX8_ratioAt 2 (some (.object "BlorbRows$Ratio")) ∈ lw_tbl := tb_3 (i := 15) rfl
theorem tq_638 : Cond.methodLink RX8 30 yX5_isUsable ∈ lw_tbl := tb_3 (i := 16) rfl
theorem tq_639 : Cond.instanceMethod yX5_isUsable ∈ lw_tbl := tb_3 (i := 17) rfl
theorem tq_640 : Cond.selects RX5 yX5_isUsable yX5_isUsable ∈ lw_tbl := tb_3 (i := 18) rfl
theorem tq_641 : Cond.code yX5_isUsable cX5_isUsable 1 (some .boolean) ∈ lw_tbl := tb_3 (i := 19) rfl
theorem tq_642 : Cond.constantLong RX5 22 (65535) ∈ lw_tbl := tb_3 (i := 24) rfl
theorem tq_643 : Cond.methodLink RX5 18 yX5_isProper ∈ lw_tbl := tb_3 (i := 20) rfl
theorem tq_644 : Cond.instanceMethod yX5_isProper ∈ lw_tbl := tb_3 (i := 21) rfl
theorem tq_645 : Cond.selects RX5 yX5_isProper yX5_isProper ∈ lw_tbl := tb_3 (i := 22) rfl
theorem tq_646 : Cond.code yX5_isProper cX5_isProper 1 (some .boolean) ∈ lw_tbl := tb_3 (i := 23) rfl
theorem tq_647 : Cond.methodLink RX8 34 yX5_isLimit ∈ lw_tbl := tb_3 (i := 25) rfl
theorem tq_648 : Cond.instanceMethod yX5_isLimit ∈ lw_tbl := tb_3 (i := 26) rfl
theorem tq_649 : Cond.selects RX5 yX5_isLimit yX5_isLimit ∈ lw_tbl := tb_3 (i := 27) rfl
theorem tq_650 : Cond.code yX5_isLimit cX5_isLimit 1 (some .boolean) ∈ lw_tbl := tb_3 (i := 28) rfl
theorem tq_651 : Cond.methodLink RX5 24 yX5_isNothing ∈ lw_tbl := tb_3 (i := 29) rfl
theorem tq_652 : Cond.instanceMethod yX5_isNothing ∈ lw_tbl := tb_3 (i := 30) rfl
theorem tq_653 : Cond.selects RX5 yX5_isNothing yX5_isNothing ∈ lw_tbl := tb_3 (i := 31) rfl
theorem tq_654 : Cond.code yX5_isNothing cX5_isNothing 1 (some .boolean) ∈ lw_tbl := tb_3 (i := 32) rfl
theorem tq_655 : Cond.methodLink RX5 27 yX5_isUsable ∈ lw_tbl := tb_3 (i := 33) rfl
theorem tq_656 : Cond.methodLink RX8 37 yX5_isBelow ∈ lw_tbl := tb_3 (i := 34) rfl
theorem tq_657 : Cond.instanceMethod yX5_isBelow ∈ lw_tbl := tb_3 (i := 35) rfl
theorem tq_658 : Cond.selects RX5 yX5_isBelow yX5_isBelow ∈ lw_tbl := tb_3 (i := 36) rfl
theorem tq_659 : Cond.code yX5_isBelow cX5_isBelow 2 (some .boolean) ∈ lw_tbl := tb_3 (i := 37) rfl
theorem tq_660 : Cond.methodLink RX8 41 yX5_times ∈ lw_tbl := tb_3 (i := 38) rfl
theorem wkX9_scaled_r7 : ∀ w ∈ wsX9_scaled_r7, w ∈ lw_tbl := List.forall_mem_cons.mpr ⟨tq_637, List.forall_mem_cons.mpr ⟨tq_638, List.forall_mem_cons.mpr ⟨tq_639, List.forall_mem_cons.mpr ⟨tq_640, List.forall_mem_cons.mpr ⟨tq_641, List.forall_mem_cons.mpr ⟨tq_642, List.forall_mem_cons.mpr ⟨tq_643, List.forall_mem_cons.mpr ⟨tq_644, List.forall_mem_cons.mpr ⟨tq_645, List.forall_mem_cons.mpr ⟨tq_646, List.forall_mem_cons.mpr ⟨tq_647, List.forall_mem_cons.mpr ⟨tq_648, List.forall_mem_cons.mpr ⟨tq_649, List.forall_mem_cons.mpr ⟨tq_650, List.forall_mem_cons.mpr ⟨tq_651, List.forall_mem_cons.mpr ⟨tq_652, List.forall_mem_cons.mpr ⟨tq_653, List.forall_mem_cons.mpr ⟨tq_654, List.forall_mem_cons.mpr ⟨tq_655, List.forall_mem_cons.mpr ⟨tq_656, List.forall_mem_cons.mpr ⟨tq_657, List.forall_mem_cons.mpr ⟨tq_658, List.forall_mem_cons.mpr ⟨tq_659, List.forall_mem_cons.mpr ⟨tq_660, fun _ h => absurd h List.not_mem_nil⟩⟩⟩⟩⟩⟩⟩⟩⟩⟩⟩⟩⟩⟩⟩⟩⟩⟩⟩⟩⟩⟩⟩⟩
theorem tq_661 : Cond.instanceMethod yX5_times ∈ lw_tbl := tb_3 (i := 39) rfl
theorem tq_662 : Cond.selects RX5 yX5_times yX5_times ∈ lw_tbl := tb_3 (i := 40) rfl
theorem tq_663 : Cond.code yX5_times cX5_times 2 (some (.object "BlorbRows$Ratio")) ∈ lw_tbl := tb_3 (i := 41) rfl
theorem tq_664 : Cond.classLink RX5 10 RX5 ∈ lw_tbl := tb_3 (i := 42) rfl
theorem tq_665 : Cond.methodLink RX5 30 yX5_init ∈ lw_tbl := tb_3 (i := 43) rfl
theorem tq_666 : Cond.methodLink RX8 45 yX5_isNothing ∈ lw_tbl := tb_3 (i := 44) rfl
theorem tq_667 : Cond.methodLink RX9 192 yX5_isProper ∈ lw_tbl := tb_3 (i := 45) rfl
theorem tq_668 : Cond.methodLink RX9 198 yX5_of ∈ lw_tbl := tb_3 (i := 46) rfl
theorem tq_669 : Cond.instanceMethod yX5_of ∈ lw_tbl := tb_3 (i := 47) rfl
theorem tq_670 : Cond.selects RX5 yX5_of yX5_of ∈ lw_tbl := tb_3 (i := 48) rfl
theorem tq_671 : Cond.code yX5_of cX5_of 3 (some .long) ∈ lw_tbl := tb_3 (i := 49) rfl
theorem tq_672 : Cond.constantLong RX5 33 (-2) ∈ lw_tbl := tb_3 (i := 50) rfl
theorem wkX9_scaled_r8 : ∀ w ∈ wsX9_scaled_r8, w ∈ lw_tbl := List.forall_mem_cons.mpr ⟨tq_661, List.forall_mem_cons.mpr ⟨tq_662, List.forall_mem_cons.mpr ⟨tq_663, List.forall_mem_cons.mpr ⟨tq_664, List.forall_mem_cons.mpr ⟨tq_665, List.forall_mem_cons.mpr ⟨tq_666, List.forall_mem_cons.mpr ⟨tq_667, List.forall_mem_cons.mpr ⟨tq_668, List.forall_mem_cons.mpr ⟨tq_669, List.forall_mem_cons.mpr ⟨tq_670, List.forall_mem_cons.mpr ⟨tq_671, List.forall_mem_cons.mpr ⟨tq_672, fun _ h => absurd h List.not_mem_nil⟩⟩⟩⟩⟩⟩⟩⟩⟩⟩⟩⟩
set_option maxRecDepth 20000 in
theorem gwX9_scaled : GoodIn lw_tbl wsX9_scaled := goodIn_sub (List.forall_mem_cons.mpr ⟨tq_610, (List.forall_mem_append.mpr ⟨(List.forall_mem_append.mpr ⟨(List.forall_mem_append.mpr ⟨(List.forall_mem_append.mpr ⟨(List.forall_mem_append.mpr ⟨(List.forall_mem_append.mpr ⟨wkX9_scaled_r1, (List.forall_mem_append.mpr ⟨wkX9_scaled_r2, (List.forall_mem_append.mpr ⟨wkX9_scaled_r3, (List.forall_mem_append.mpr ⟨wkX9_scaled_r4, (List.forall_mem_append.mpr ⟨wkX9_scaled_r5, (List.forall_mem_append.mpr ⟨wkX9_scaled_r6, (List.forall_mem_append.mpr ⟨wkX9_scaled_r7, wkX9_scaled_r8⟩)⟩)⟩)⟩)⟩)⟩)⟩), inT_i9⟩), inT_i0⟩), inT_i3⟩), inT_i6⟩), inT_i5⟩)⟩) (by decide +kernel)
theorem tq_673 : Cond.methodLink RL 77 yX9_scaled ∈ lw_tbl := tb_2 (i := 223) rfl
theorem tq_674 : Cond.instanceMethod yX9_scaled ∈ lw_tbl := tb_2 (i := 224) rfl
theorem tq_675 : Cond.selects RX9 yX9_scaled yX9_scaled ∈ lw_tbl := tb_2 (i := 225) rfl
set_option maxRecDepth 20000 in
theorem gc_X9_scaled : GoodIn lw_tbl (wsV RL 77 RX9 yX9_scaled wsX9_scaled) := goodIn_app (goodIn_sub (List.forall_mem_cons.mpr ⟨tq_673, List.forall_mem_cons.mpr ⟨tq_674, List.forall_mem_cons.mpr ⟨tq_675, List.forall_mem_cons.mpr ⟨tq_78, fun _ h => absurd h List.not_mem_nil⟩⟩⟩⟩) (by decide +kernel)) gwX9_scaled
theorem tq_676 : Cond.code yX10_scaled cX10_scaled 35 (some .long) ∈ lw_tbl := tb_4 (i := 117) rfl
theorem tq_677 : Cond.constantLong RX10 205 (65535) ∈ lw_tbl := tb_4 (i := 118) rfl
theorem tq_678 : Cond.constant RX10 204 (1382380399) ∈ lw_tbl := tb_4 (i := 123) rfl
theorem wkX10_scaled_r1 : ∀ w ∈ wsX10_scaled_r1, w ∈ lw_tbl := List.forall_mem_cons.mpr ⟨tq_677, List.forall_mem_cons.mpr ⟨tq_410, List.forall_mem_cons.mpr ⟨tq_279, List.forall_mem_cons.mpr ⟨tq_509, List.forall_mem_cons.mpr ⟨tq_60, List.forall_mem_cons.mpr ⟨tq_678, List.forall_mem_cons.mpr ⟨tq_55, List.forall_mem_cons.mpr ⟨tq_446, List.forall_mem_cons.mpr ⟨tq_447, List.forall_mem_cons.mpr ⟨tq_85, List.forall_mem_cons.mpr ⟨tq_448, List.forall_mem_cons.mpr ⟨tq_260, List.forall_mem_cons.mpr ⟨tq_83, List.forall_mem_cons.mpr ⟨tq_84, List.forall_mem_cons.mpr ⟨tq_86, List.forall_mem_cons.mpr ⟨tq_449, List.forall_mem_cons.mpr ⟨tq_450, List.forall_mem_cons.mpr ⟨tq_451, List.forall_mem_cons.mpr ⟨tq_452, List.forall_mem_cons.mpr ⟨tq_288, List.forall_mem_cons.mpr ⟨tq_58, List.forall_mem_cons.mpr ⟨tq_59, List.forall_mem_cons.mpr ⟨tq_505, List.forall_mem_cons.mpr ⟨tq_506, fun _ h => absurd h List.not_mem_nil⟩⟩⟩⟩⟩⟩⟩⟩⟩⟩⟩⟩⟩⟩⟩⟩⟩⟩⟩⟩⟩⟩⟩⟩
theorem wkX10_scaled_r2 : ∀ w ∈ wsX10_scaled_r2, w ∈ lw_tbl := List.forall_mem_cons.mpr ⟨tq_507, List.forall_mem_cons.mpr ⟨tq_508, List.forall_mem_cons.mpr ⟨tq_56, List.forall_mem_cons.mpr ⟨tq_417, List.forall_mem_cons.mpr ⟨tq_57, List.forall_mem_cons.mpr ⟨tq_415, List.forall_mem_cons.mpr ⟨tq_416, List.forall_mem_cons.mpr ⟨tq_367, List.forall_mem_cons.mpr ⟨tq_368, List.forall_mem_cons.mpr ⟨tq_369, List.forall_mem_cons.mpr ⟨tq_370, List.forall_mem_cons.mpr ⟨tq_257, List.forall_mem_cons.mpr ⟨tq_258, List.forall_mem_cons.mpr ⟨tq_259, List.forall_mem_cons.mpr ⟨tq_254, List.forall_mem_cons.mpr ⟨tq_255, List.forall_mem_cons.mpr ⟨tq_256, List.forall_mem_cons.mpr ⟨tq_510, List.forall_mem_cons.mpr ⟨tq_511, List.forall_mem_cons.mpr ⟨tq_512, List.forall_mem_cons.mpr ⟨tq_513, List.forall_mem_cons.mpr ⟨tq_514, List.forall_mem_cons.mpr ⟨tq_515, List.forall_mem_cons.mpr ⟨tq_516, fun _ h => absurd h List.not_mem_nil⟩⟩⟩⟩⟩⟩⟩⟩⟩⟩⟩⟩⟩⟩⟩⟩⟩⟩⟩⟩⟩⟩⟩⟩
theorem tq_679 : Cond.methodLink RX10 207 yX10_ratiosOf ∈ lw_tbl := tb_4 (i := 119) rfl
theorem tq_680 : Cond.instanceMethod yX10_ratiosOf ∈ lw_tbl := tb_4 (i := 121) rfl
theorem tq_681 : Cond.selects RX10 yX10_ratiosOf yX10_ratiosOf ∈ lw_tbl := tb_0 (i := 25) rfl
theorem tq_682 : Cond.code yX10_ratiosOf cX10_ratiosOf 6 (some .int) ∈ lw_tbl := tb_4 (i := 122) rfl
theorem wkX10_scaled_r3 : ∀ w ∈ wsX10_scaled_r3, w ∈ lw_tbl := List.forall_mem_cons.mpr ⟨tq_517, List.forall_mem_cons.mpr ⟨tq_518, List.forall_mem_cons.mpr ⟨tq_519, List.forall_mem_cons.mpr ⟨tq_520, List.forall_mem_cons.mpr ⟨tq_521, List.forall_mem_cons.mpr ⟨tq_522, List.forall_mem_cons.mpr ⟨tq_523, List.forall_mem_cons.mpr ⟨tq_524, List.forall_mem_cons.mpr ⟨tq_525, List.forall_mem_cons.mpr ⟨tq_526, List.forall_mem_cons.mpr ⟨tq_527, List.forall_mem_cons.mpr ⟨tq_679, List.forall_mem_cons.mpr ⟨tq_680, List.forall_mem_cons.mpr ⟨tq_681, List.forall_mem_cons.mpr ⟨tq_682, List.forall_mem_cons.mpr ⟨tq_577, List.forall_mem_cons.mpr ⟨tq_578, List.forall_mem_cons.mpr ⟨tq_579, List.forall_mem_cons.mpr ⟨tq_580, List.forall_mem_cons.mpr ⟨tq_239, fun _ h => absurd h List.not_mem_nil⟩⟩⟩⟩⟩⟩⟩⟩⟩⟩⟩⟩⟩⟩⟩⟩⟩⟩⟩⟩
set_option maxRecDepth 20000 in
theorem gwX10_scaled : GoodIn lw_tbl wsX10_scaled := goodIn_sub (List.forall_mem_cons.mpr ⟨tq_676, (List.forall_mem_append.mpr ⟨(List.forall_mem_append.mpr ⟨wkX10_scaled_r1, (List.forall_mem_append.mpr ⟨wkX10_scaled_r2, wkX10_scaled_r3⟩)⟩), inT_i10⟩)⟩) (by decide +kernel)
theorem tq_683 : Cond.methodLink RL 81 yX10_scaled ∈ lw_tbl := tb_4 (i := 114) rfl
theorem tq_684 : Cond.instanceMethod yX10_scaled ∈ lw_tbl := tb_4 (i := 115) rfl
theorem tq_685 : Cond.selects RX10 yX10_scaled yX10_scaled ∈ lw_tbl := tb_4 (i := 116) rfl
set_option maxRecDepth 20000 in
theorem gc_X10_scaled : GoodIn lw_tbl (wsV RL 81 RX10 yX10_scaled wsX10_scaled) := goodIn_app (goodIn_sub (List.forall_mem_cons.mpr ⟨tq_683, List.forall_mem_cons.mpr ⟨tq_684, List.forall_mem_cons.mpr ⟨tq_685, List.forall_mem_cons.mpr ⟨tq_85, fun _ h => absurd h List.not_mem_nil⟩⟩⟩⟩) (by decide +kernel)) gwX10_scaled
theorem tq_686 : Cond.code yX9_add cX9_add 2 (some .int) ∈ lw_tbl := tb_3 (i := 54) rfl
theorem tq_687 : Cond.constant RX9 205 (1380541560) ∈ lw_tbl := tb_3 (i := 56) rfl
theorem tq_688 : Cond.methodLink RX9 202 yX2_isKind ∈ lw_tbl := tb_3 (i := 55) rfl
theorem tq_689 : Cond.methodLink RX9 206 yX0_hasChunkRoom ∈ lw_tbl := tb_3 (i := 57) rfl
theorem wkX9_add_r1 : ∀ w ∈ wsX9_add_r1, w ∈ lw_tbl := List.forall_mem_cons.mpr ⟨tq_687, List.forall_mem_cons.mpr ⟨tq_12, List.forall_mem_cons.mpr ⟨tq_7, List.forall_mem_cons.mpr ⟨tq_65, List.forall_mem_cons.mpr ⟨tq_104, List.forall_mem_cons.mpr ⟨tq_688, List.forall_mem_cons.mpr ⟨tq_160, List.forall_mem_cons.mpr ⟨tq_161, List.forall_mem_cons.mpr ⟨tq_162, List.forall_mem_cons.mpr ⟨tq_163, List.forall_mem_cons.mpr ⟨tq_164, List.forall_mem_cons.mpr ⟨tq_165, List.forall_mem_cons.mpr ⟨tq_689, List.forall_mem_cons.mpr ⟨tq_215, List.forall_mem_cons.mpr ⟨tq_216, List.forall_mem_cons.mpr ⟨tq_11, List.forall_mem_cons.mpr ⟨tq_217, List.forall_mem_cons.mpr ⟨tq_38, List.forall_mem_cons.mpr ⟨tq_34, List.forall_mem_cons.mpr ⟨tq_218, List.forall_mem_cons.mpr ⟨tq_67, List.forall_mem_cons.mpr ⟨tq_68, List.forall_mem_cons.mpr ⟨tq_6, List.forall_mem_cons.mpr ⟨tq_69, fun _ h => absurd h List.not_mem_nil⟩⟩⟩⟩⟩⟩⟩⟩⟩⟩⟩⟩⟩⟩⟩⟩⟩⟩⟩⟩⟩⟩⟩⟩
theorem tq_690 : Cond.methodLink RX9 209 yX0_addChunk ∈ lw_tbl := tb_3 (i := 58) rfl
theorem wkX9_add_r2 : ∀ w ∈ wsX9_add_r2, w ∈ lw_tbl := List.forall_mem_cons.mpr ⟨tq_27, List.forall_mem_cons.mpr ⟨tq_28, List.forall_mem_cons.mpr ⟨tq_105, List.forall_mem_cons.mpr ⟨tq_106, List.forall_mem_cons.mpr ⟨tq_107, List.forall_mem_cons.mpr ⟨tq_108, List.forall_mem_cons.mpr ⟨tq_109, List.forall_mem_cons.mpr ⟨tq_110, List.forall_mem_cons.mpr ⟨tq_111, List.forall_mem_cons.mpr ⟨tq_112, List.forall_mem_cons.mpr ⟨tq_113, List.forall_mem_cons.mpr ⟨tq_114, List.forall_mem_cons.mpr ⟨tq_115, List.forall_mem_cons.mpr ⟨tq_2, List.forall_mem_cons.mpr ⟨tq_3, List.forall_mem_cons.mpr ⟨tq_116, List.forall_mem_cons.mpr ⟨tq_117, List.forall_mem_cons.mpr ⟨tq_118, List.forall_mem_cons.mpr ⟨tq_119, List.forall_mem_cons.mpr ⟨tq_690, List.forall_mem_cons.mpr ⟨tq_209, List.forall_mem_cons.mpr ⟨tq_210, List.forall_mem_cons.mpr ⟨tq_211, List.forall_mem_cons.mpr ⟨tq_212, fun _ h => absurd h List.not_mem_nil⟩⟩⟩⟩⟩⟩⟩⟩⟩⟩⟩⟩⟩⟩⟩⟩⟩⟩⟩⟩⟩⟩⟩⟩
theorem wkX9_add_r3 : ∀ w ∈ wsX9_add_r3, w ∈ lw_tbl := List.forall_mem_cons.mpr ⟨tq_36, List.forall_mem_cons.mpr ⟨tq_37, List.forall_mem_cons.mpr ⟨tq_213, List.forall_mem_cons.mpr ⟨tq_214, List.forall_mem_cons.mpr ⟨tq_219, List.forall_mem_cons.mpr ⟨tq_220, List.forall_mem_cons.mpr ⟨tq_221, List.forall_mem_cons.mpr ⟨tq_222, List.forall_mem_cons.mpr ⟨tq_223, List.forall_mem_cons.mpr ⟨tq_224, List.forall_mem_cons.mpr ⟨tq_225, List.forall_mem_cons.mpr ⟨tq_226, List.forall_mem_cons.mpr ⟨tq_227, List.forall_mem_cons.mpr ⟨tq_228, List.forall_mem_cons.mpr ⟨tq_229, List.forall_mem_cons.mpr ⟨tq_74, List.forall_mem_cons.mpr ⟨tq_91, List.forall_mem_cons.mpr ⟨tq_92, List.forall_mem_cons.mpr ⟨tq_93, List.forall_mem_cons.mpr ⟨tq_94, fun _ h => absurd h List.not_mem_nil⟩⟩⟩⟩⟩⟩⟩⟩⟩⟩⟩⟩⟩⟩⟩⟩⟩⟩⟩⟩
set_option maxRecDepth 20000 in
theorem gwX9_add : GoodIn lw_tbl wsX9_add := goodIn_sub (List.forall_mem_cons.mpr ⟨tq_686, (List.forall_mem_append.mpr ⟨(List.forall_mem_append.mpr ⟨(List.forall_mem_append.mpr ⟨(List.forall_mem_append.mpr ⟨(List.forall_mem_append.mpr ⟨wkX9_add_r1, (List.forall_mem_append.mpr ⟨wkX9_add_r2, wkX9_add_r3⟩)⟩), inT_i9⟩), inT_i6⟩), inT_i0⟩), inT_i3⟩)⟩) (by decide +kernel)
theorem tq_691 : Cond.methodLink RL 82 yX9_add ∈ lw_tbl := tb_3 (i := 51) rfl
theorem tq_692 : Cond.instanceMethod yX9_add ∈ lw_tbl := tb_3 (i := 52) rfl
theorem tq_693 : Cond.selects RX9 yX9_add yX9_add ∈ lw_tbl := tb_3 (i := 53) rfl
set_option maxRecDepth 20000 in
theorem gc_X9_add : GoodIn lw_tbl (wsV RL 82 RX9 yX9_add wsX9_add) := goodIn_app (goodIn_sub (List.forall_mem_cons.mpr ⟨tq_691, List.forall_mem_cons.mpr ⟨tq_692, List.forall_mem_cons.mpr ⟨tq_693, List.forall_mem_cons.mpr ⟨tq_78, fun _ h => absurd h List.not_mem_nil⟩⟩⟩⟩) (by decide +kernel)) gwX9_add
theorem tq_694 : Cond.code yX10_add cX10_add 2 (some .int) ∈ lw_tbl := tb_4 (i := 127) rfl
theorem tq_695 : Cond.methodLink RX10 211 yX10_replace ∈ lw_tbl := tb_4 (i := 128) rfl
theorem tq_696 : Cond.instanceMethod yX10_replace ∈ lw_tbl := tb_4 (i := 130) rfl
theorem tq_697 : Cond.selects RX10 yX10_replace yX10_replace ∈ lw_tbl := tb_0 (i := 26) rfl
theorem tq_698 : Cond.code yX10_replace cX10_replace 7 none ∈ lw_tbl := tb_4 (i := 131) rfl
theorem wkX10_add_r1 : ∀ w ∈ wsX10_add_r1, w ∈ lw_tbl := List.forall_mem_cons.mpr ⟨tq_265, List.forall_mem_cons.mpr ⟨tq_239, List.forall_mem_cons.mpr ⟨tq_287, List.forall_mem_cons.mpr ⟨tq_81, List.forall_mem_cons.mpr ⟨tq_56, List.forall_mem_cons.mpr ⟨tq_57, List.forall_mem_cons.mpr ⟨tq_267, List.forall_mem_cons.mpr ⟨tq_268, List.forall_mem_cons.mpr ⟨tq_85, List.forall_mem_cons.mpr ⟨tq_269, List.forall_mem_cons.mpr ⟨tq_270, List.forall_mem_cons.mpr ⟨tq_271, List.forall_mem_cons.mpr ⟨tq_83, List.forall_mem_cons.mpr ⟨tq_84, List.forall_mem_cons.mpr ⟨tq_86, List.forall_mem_cons.mpr ⟨tq_695, List.forall_mem_cons.mpr ⟨tq_696, List.forall_mem_cons.mpr ⟨tq_697, List.forall_mem_cons.mpr ⟨tq_698, List.forall_mem_cons.mpr ⟨tq_55, List.forall_mem_cons.mpr ⟨tq_54, List.forall_mem_cons.mpr ⟨tq_367, List.forall_mem_cons.mpr ⟨tq_368, List.forall_mem_cons.mpr ⟨tq_369, fun _ h => absurd h List.not_mem_nil⟩⟩⟩⟩⟩⟩⟩⟩⟩⟩⟩⟩⟩⟩⟩⟩⟩⟩⟩⟩⟩⟩⟩⟩
theorem wkX10_add_r2 : ∀ w ∈ wsX10_add_r2, w ∈ lw_tbl := List.forall_mem_cons.mpr ⟨tq_370, fun _ h => absurd h List.not_mem_nil⟩
set_option maxRecDepth 20000 in
theorem gwX10_add : GoodIn lw_tbl wsX10_add := goodIn_sub (List.forall_mem_cons.mpr ⟨tq_694, (List.forall_mem_append.mpr ⟨(List.forall_mem_append.mpr ⟨wkX10_add_r1, wkX10_add_r2⟩), inT_i10⟩)⟩) (by decide +kernel)
theorem tq_699 : Cond.methodLink RL 85 yX10_add ∈ lw_tbl := tb_4 (i := 124) rfl
theorem tq_700 : Cond.instanceMethod yX10_add ∈ lw_tbl := tb_4 (i := 125) rfl
theorem tq_701 : Cond.selects RX10 yX10_add yX10_add ∈ lw_tbl := tb_4 (i := 126) rfl
set_option maxRecDepth 20000 in
theorem gc_X10_add : GoodIn lw_tbl (wsV RL 85 RX10 yX10_add wsX10_add) := goodIn_app (goodIn_sub (List.forall_mem_cons.mpr ⟨tq_699, List.forall_mem_cons.mpr ⟨tq_700, List.forall_mem_cons.mpr ⟨tq_701, List.forall_mem_cons.mpr ⟨tq_85, fun _ h => absurd h List.not_mem_nil⟩⟩⟩⟩) (by decide +kernel)) gwX10_add
theorem tq_702 : Cond.code yX9_mean cX9_mean 5 (some .int) ∈ lw_tbl := tb_3 (i := 62) rfl
theorem wkX9_mean_r1 : ∀ w ∈ wsX9_mean_r1, w ∈ lw_tbl := List.forall_mem_cons.mpr ⟨tq_12, List.forall_mem_cons.mpr ⟨tq_301, List.forall_mem_cons.mpr ⟨tq_430, List.forall_mem_cons.mpr ⟨tq_431, List.forall_mem_cons.mpr ⟨tq_78, List.forall_mem_cons.mpr ⟨tq_432, List.forall_mem_cons.mpr ⟨tq_433, List.forall_mem_cons.mpr ⟨tq_185, List.forall_mem_cons.mpr ⟨tq_161, List.forall_mem_cons.mpr ⟨tq_186, List.forall_mem_cons.mpr ⟨tq_187, List.forall_mem_cons.mpr ⟨tq_188, List.forall_mem_cons.mpr ⟨tq_189, List.forall_mem_cons.mpr ⟨tq_190, List.forall_mem_cons.mpr ⟨tq_434, List.forall_mem_cons.mpr ⟨tq_435, List.forall_mem_cons.mpr ⟨tq_436, List.forall_mem_cons.mpr ⟨tq_437, List.forall_mem_cons.mpr ⟨tq_312, List.forall_mem_cons.mpr ⟨tq_313, List.forall_mem_cons.mpr ⟨tq_314, List.forall_mem_cons.mpr ⟨tq_11, List.forall_mem_cons.mpr ⟨tq_315, List.forall_mem_cons.mpr ⟨tq_38, fun _ h => absurd h List.not_mem_nil⟩⟩⟩⟩⟩⟩⟩⟩⟩⟩⟩⟩⟩⟩⟩⟩⟩⟩⟩⟩⟩⟩⟩⟩
theorem tq_703 : Cond.methodLink RX9 213 yX0_addEntry ∈ lw_tbl := tb_3 (i := 63) rfl
theorem wkX9_mean_r2 : ∀ w ∈ wsX9_mean_r2, w ∈ lw_tbl := List.forall_mem_cons.mpr ⟨tq_438, List.forall_mem_cons.mpr ⟨tq_439, List.forall_mem_cons.mpr ⟨tq_440, List.forall_mem_cons.mpr ⟨tq_441, List.forall_mem_cons.mpr ⟨tq_43, List.forall_mem_cons.mpr ⟨tq_39, List.forall_mem_cons.mpr ⟨tq_41, List.forall_mem_cons.mpr ⟨tq_379, List.forall_mem_cons.mpr ⟨tq_380, List.forall_mem_cons.mpr ⟨tq_381, List.forall_mem_cons.mpr ⟨tq_382, List.forall_mem_cons.mpr ⟨tq_703, List.forall_mem_cons.mpr ⟨tq_231, List.forall_mem_cons.mpr ⟨tq_232, List.forall_mem_cons.mpr ⟨tq_233, List.forall_mem_cons.mpr ⟨tq_42, fun _ h => absurd h List.not_mem_nil⟩⟩⟩⟩⟩⟩⟩⟩⟩⟩⟩⟩⟩⟩⟩⟩
set_option maxRecDepth 20000 in
theorem gwX9_mean : GoodIn lw_tbl wsX9_mean := goodIn_sub (List.forall_mem_cons.mpr ⟨tq_702, (List.forall_mem_append.mpr ⟨(List.forall_mem_append.mpr ⟨(List.forall_mem_append.mpr ⟨wkX9_mean_r1, wkX9_mean_r2⟩), inT_i9⟩), inT_i0⟩)⟩) (by decide +kernel)
theorem tq_704 : Cond.methodLink RL 86 yX9_mean ∈ lw_tbl := tb_3 (i := 59) rfl
theorem tq_705 : Cond.instanceMethod yX9_mean ∈ lw_tbl := tb_3 (i := 60) rfl
theorem tq_706 : Cond.selects RX9 yX9_mean yX9_mean ∈ lw_tbl := tb_3 (i := 61) rfl
set_option maxRecDepth 20000 in
theorem gc_X9_mean : GoodIn lw_tbl (wsV RL 86 RX9 yX9_mean wsX9_mean) := goodIn_app (goodIn_sub (List.forall_mem_cons.mpr ⟨tq_704, List.forall_mem_cons.mpr ⟨tq_705, List.forall_mem_cons.mpr ⟨tq_706, List.forall_mem_cons.mpr ⟨tq_78, fun _ h => absurd h List.not_mem_nil⟩⟩⟩⟩) (by decide +kernel)) gwX9_mean
theorem tq_707 : Cond.code yX10_mean cX10_mean 5 (some .int) ∈ lw_tbl := tb_4 (i := 135) rfl
theorem wkX10_mean_r1 : ∀ w ∈ wsX10_mean_r1, w ∈ lw_tbl := List.forall_mem_cons.mpr ⟨tq_288, List.forall_mem_cons.mpr ⟨tq_58, List.forall_mem_cons.mpr ⟨tq_59, List.forall_mem_cons.mpr ⟨tq_60, List.forall_mem_cons.mpr ⟨tq_276, List.forall_mem_cons.mpr ⟨tq_277, List.forall_mem_cons.mpr ⟨tq_85, List.forall_mem_cons.mpr ⟨tq_278, List.forall_mem_cons.mpr ⟨tq_279, List.forall_mem_cons.mpr ⟨tq_280, List.forall_mem_cons.mpr ⟨tq_281, List.forall_mem_cons.mpr ⟨tq_282, List.forall_mem_cons.mpr ⟨tq_446, List.forall_mem_cons.mpr ⟨tq_447, List.forall_mem_cons.mpr ⟨tq_448, List.forall_mem_cons.mpr ⟨tq_260, List.forall_mem_cons.mpr ⟨tq_83, List.forall_mem_cons.mpr ⟨tq_84, List.forall_mem_cons.mpr ⟨tq_86, List.forall_mem_cons.mpr ⟨tq_339, List.forall_mem_cons.mpr ⟨tq_340, List.forall_mem_cons.mpr ⟨tq_341, List.forall_mem_cons.mpr ⟨tq_342, List.forall_mem_cons.mpr ⟨tq_239, fun _ h => absurd h List.not_mem_nil⟩⟩⟩⟩⟩⟩⟩⟩⟩⟩⟩⟩⟩⟩⟩⟩⟩⟩⟩⟩⟩⟩⟩⟩
theorem wkX10_mean_r2 : ∀ w ∈ wsX10_mean_r2, w ∈ lw_tbl := List.forall_mem_cons.mpr ⟨tq_449, List.forall_mem_cons.mpr ⟨tq_450, List.forall_mem_cons.mpr ⟨tq_451, List.forall_mem_cons.mpr ⟨tq_452, fun _ h => absurd h List.not_mem_nil⟩⟩⟩⟩
set_option maxRecDepth 20000 in
theorem gwX10_mean : GoodIn lw_tbl wsX10_mean := goodIn_sub (List.forall_mem_cons.mpr ⟨tq_707, (List.forall_mem_append.mpr ⟨(List.forall_mem_append.mpr ⟨wkX10_mean_r1, wkX10_mean_r2⟩), inT_i10⟩)⟩) (by decide +kernel)
theorem tq_708 : Cond.methodLink RL 90 yX10_mean ∈ lw_tbl := tb_4 (i := 132) rfl
theorem tq_709 : Cond.instanceMethod yX10_mean ∈ lw_tbl := tb_4 (i := 133) rfl
theorem tq_710 : Cond.selects RX10 yX10_mean yX10_mean ∈ lw_tbl := tb_4 (i := 134) rfl
set_option maxRecDepth 20000 in
theorem gc_X10_mean : GoodIn lw_tbl (wsV RL 90 RX10 yX10_mean wsX10_mean) := goodIn_app (goodIn_sub (List.forall_mem_cons.mpr ⟨tq_708, List.forall_mem_cons.mpr ⟨tq_709, List.forall_mem_cons.mpr ⟨tq_710, List.forall_mem_cons.mpr ⟨tq_85, fun _ h => absurd h List.not_mem_nil⟩⟩⟩⟩) (by decide +kernel)) gwX10_mean
theorem tq_711 : Cond.code yX9_change cX9_change 3 (some .int) ∈ lw_tbl := tb_3 (i := 67) rfl
theorem wkX9_change_r1 : ∀ w ∈ wsX9_change_r1, w ∈ lw_tbl := List.forall_mem_cons.mpr ⟨tq_12, List.forall_mem_cons.mpr ⟨tq_7, List.forall_mem_cons.mpr ⟨tq_65, List.forall_mem_cons.mpr ⟨tq_302, List.forall_mem_cons.mpr ⟨tq_312, List.forall_mem_cons.mpr ⟨tq_313, List.forall_mem_cons.mpr ⟨tq_314, List.forall_mem_cons.mpr ⟨tq_11, List.forall_mem_cons.mpr ⟨tq_315, List.forall_mem_cons.mpr ⟨tq_38, List.forall_mem_cons.mpr ⟨tq_321, List.forall_mem_cons.mpr ⟨tq_322, List.forall_mem_cons.mpr ⟨tq_323, List.forall_mem_cons.mpr ⟨tq_324, List.forall_mem_cons.mpr ⟨tq_37, List.forall_mem_cons.mpr ⟨tq_320, List.forall_mem_cons.mpr ⟨tq_66, List.forall_mem_cons.mpr ⟨tq_67, List.forall_mem_cons.mpr ⟨tq_68, List.forall_mem_cons.mpr ⟨tq_6, List.forall_mem_cons.mpr ⟨tq_69, List.forall_mem_cons.mpr ⟨tq_27, List.forall_mem_cons.mpr ⟨tq_28, List.forall_mem_cons.mpr ⟨tq_105, fun _ h => absurd h List.not_mem_nil⟩⟩⟩⟩⟩⟩⟩⟩⟩⟩⟩⟩⟩⟩⟩⟩⟩⟩⟩⟩⟩⟩⟩⟩
theorem tq_712 : Cond.methodLink RX9 217 yX0_setData ∈ lw_tbl := tb_3 (i := 68) rfl
theorem tq_713 : Cond.instanceMethod yX0_setData ∈ lw_tbl := tb_3 (i := 69) rfl
theorem tq_714 : Cond.selects RX0 yX0_setData yX0_setData ∈ lw_tbl := tb_3 (i := 70) rfl
theorem tq_715 : Cond.code yX0_setData cX0_setData 5 none ∈ lw_tbl := tb_3 (i := 71) rfl
theorem wkX9_change_r2 : ∀ w ∈ wsX9_change_r2, w ∈ lw_tbl := List.forall_mem_cons.mpr ⟨tq_106, List.forall_mem_cons.mpr ⟨tq_107, List.forall_mem_cons.mpr ⟨tq_108, List.forall_mem_cons.mpr ⟨tq_109, List.forall_mem_cons.mpr ⟨tq_110, List.forall_mem_cons.mpr ⟨tq_111, List.forall_mem_cons.mpr ⟨tq_112, List.forall_mem_cons.mpr ⟨tq_113, List.forall_mem_cons.mpr ⟨tq_114, List.forall_mem_cons.mpr ⟨tq_115, List.forall_mem_cons.mpr ⟨tq_2, List.forall_mem_cons.mpr ⟨tq_3, List.forall_mem_cons.mpr ⟨tq_116, List.forall_mem_cons.mpr ⟨tq_117, List.forall_mem_cons.mpr ⟨tq_118, List.forall_mem_cons.mpr ⟨tq_119, List.forall_mem_cons.mpr ⟨tq_712, List.forall_mem_cons.mpr ⟨tq_713, List.forall_mem_cons.mpr ⟨tq_714, List.forall_mem_cons.mpr ⟨tq_715, List.forall_mem_cons.mpr ⟨tq_212, List.forall_mem_cons.mpr ⟨tq_34, List.forall_mem_cons.mpr ⟨tq_329, List.forall_mem_cons.mpr ⟨tq_218, fun _ h => absurd h List.not_mem_nil⟩⟩⟩⟩⟩⟩⟩⟩⟩⟩⟩⟩⟩⟩⟩⟩⟩⟩⟩⟩⟩⟩⟩⟩
theorem wkX9_change_r3 : ∀ w ∈ wsX9_change_r3, w ∈ lw_tbl := List.forall_mem_cons.mpr ⟨tq_219, List.forall_mem_cons.mpr ⟨tq_220, List.forall_mem_cons.mpr ⟨tq_221, List.forall_mem_cons.mpr ⟨tq_222, List.forall_mem_cons.mpr ⟨tq_223, List.forall_mem_cons.mpr ⟨tq_224, List.forall_mem_cons.mpr ⟨tq_225, List.forall_mem_cons.mpr ⟨tq_226, List.forall_mem_cons.mpr ⟨tq_227, List.forall_mem_cons.mpr ⟨tq_228, List.forall_mem_cons.mpr ⟨tq_229, List.forall_mem_cons.mpr ⟨tq_74, List.forall_mem_cons.mpr ⟨tq_91, List.forall_mem_cons.mpr ⟨tq_92, List.forall_mem_cons.mpr ⟨tq_93, List.forall_mem_cons.mpr ⟨tq_94, fun _ h => absurd h List.not_mem_nil⟩⟩⟩⟩⟩⟩⟩⟩⟩⟩⟩⟩⟩⟩⟩⟩
set_option maxRecDepth 20000 in
theorem gwX9_change : GoodIn lw_tbl wsX9_change := goodIn_sub (List.forall_mem_cons.mpr ⟨tq_711, (List.forall_mem_append.mpr ⟨(List.forall_mem_append.mpr ⟨(List.forall_mem_append.mpr ⟨(List.forall_mem_append.mpr ⟨(List.forall_mem_append.mpr ⟨wkX9_change_r1, (List.forall_mem_append.mpr ⟨wkX9_change_r2, wkX9_change_r3⟩)⟩), inT_i9⟩), inT_i6⟩), inT_i0⟩), inT_i3⟩)⟩) (by decide +kernel)
theorem tq_716 : Cond.methodLink RL 91 yX9_change ∈ lw_tbl := tb_3 (i := 64) rfl
theorem tq_717 : Cond.instanceMethod yX9_change ∈ lw_tbl := tb_3 (i := 65) rfl
theorem tq_718 : Cond.selects RX9 yX9_change yX9_change ∈ lw_tbl := tb_3 (i := 66) rfl
set_option maxRecDepth 20000 in
theorem gc_X9_change : GoodIn lw_tbl (wsV RL 91 RX9 yX9_change wsX9_change) := goodIn_app (goodIn_sub (List.forall_mem_cons.mpr ⟨tq_716, List.forall_mem_cons.mpr ⟨tq_717, List.forall_mem_cons.mpr ⟨tq_718, List.forall_mem_cons.mpr ⟨tq_78, fun _ h => absurd h List.not_mem_nil⟩⟩⟩⟩) (by decide +kernel)) gwX9_change
theorem tq_719 : Cond.code yX10_change cX10_change 3 (some .int) ∈ lw_tbl := tb_4 (i := 139) rfl
set_option maxRecDepth 20000 in
theorem gwX10_change : GoodIn lw_tbl wsX10_change := goodIn_sub (List.forall_mem_cons.mpr ⟨tq_719, (List.forall_mem_append.mpr ⟨(List.forall_mem_cons.mpr ⟨tq_287, List.forall_mem_cons.mpr ⟨tq_57, List.forall_mem_cons.mpr ⟨tq_81, List.forall_mem_cons.mpr ⟨tq_339, List.forall_mem_cons.mpr ⟨tq_340, List.forall_mem_cons.mpr ⟨tq_341, List.forall_mem_cons.mpr ⟨tq_85, List.forall_mem_cons.mpr ⟨tq_342, List.forall_mem_cons.mpr ⟨tq_239, List.forall_mem_cons.mpr ⟨tq_83, List.forall_mem_cons.mpr ⟨tq_84, List.forall_mem_cons.mpr ⟨tq_86, List.forall_mem_cons.mpr ⟨tq_695, List.forall_mem_cons.mpr ⟨tq_696, List.forall_mem_cons.mpr ⟨tq_697, List.forall_mem_cons.mpr ⟨tq_698, List.forall_mem_cons.mpr ⟨tq_55, List.forall_mem_cons.mpr ⟨tq_54, List.forall_mem_cons.mpr ⟨tq_367, List.forall_mem_cons.mpr ⟨tq_368, List.forall_mem_cons.mpr ⟨tq_369, List.forall_mem_cons.mpr ⟨tq_370, fun _ h => absurd h List.not_mem_nil⟩⟩⟩⟩⟩⟩⟩⟩⟩⟩⟩⟩⟩⟩⟩⟩⟩⟩⟩⟩⟩⟩), inT_i10⟩)⟩) (by decide +kernel)
theorem tq_720 : Cond.methodLink RL 94 yX10_change ∈ lw_tbl := tb_4 (i := 136) rfl
theorem tq_721 : Cond.instanceMethod yX10_change ∈ lw_tbl := tb_4 (i := 137) rfl
theorem tq_722 : Cond.selects RX10 yX10_change yX10_change ∈ lw_tbl := tb_4 (i := 138) rfl
set_option maxRecDepth 20000 in
theorem gc_X10_change : GoodIn lw_tbl (wsV RL 94 RX10 yX10_change wsX10_change) := goodIn_app (goodIn_sub (List.forall_mem_cons.mpr ⟨tq_720, List.forall_mem_cons.mpr ⟨tq_721, List.forall_mem_cons.mpr ⟨tq_722, List.forall_mem_cons.mpr ⟨tq_85, fun _ h => absurd h List.not_mem_nil⟩⟩⟩⟩) (by decide +kernel)) gwX10_change
theorem tq_723 : Cond.code yX9_drop cX9_drop 6 (some .int) ∈ lw_tbl := tb_3 (i := 75) rfl
theorem wkX9_drop_r1 : ∀ w ∈ wsX9_drop_r1, w ∈ lw_tbl := List.forall_mem_cons.mpr ⟨tq_12, List.forall_mem_cons.mpr ⟨tq_378, List.forall_mem_cons.mpr ⟨tq_430, List.forall_mem_cons.mpr ⟨tq_431, List.forall_mem_cons.mpr ⟨tq_78, List.forall_mem_cons.mpr ⟨tq_432, List.forall_mem_cons.mpr ⟨tq_433, List.forall_mem_cons.mpr ⟨tq_185, List.forall_mem_cons.mpr ⟨tq_161, List.forall_mem_cons.mpr ⟨tq_186, List.forall_mem_cons.mpr ⟨tq_187, List.forall_mem_cons.mpr ⟨tq_188, List.forall_mem_cons.mpr ⟨tq_189, List.forall_mem_cons.mpr ⟨tq_190, List.forall_mem_cons.mpr ⟨tq_434, List.forall_mem_cons.mpr ⟨tq_435, List.forall_mem_cons.mpr ⟨tq_436, List.forall_mem_cons.mpr ⟨tq_437, List.forall_mem_cons.mpr ⟨tq_438, List.forall_mem_cons.mpr ⟨tq_439, List.forall_mem_cons.mpr ⟨tq_440, List.forall_mem_cons.mpr ⟨tq_11, List.forall_mem_cons.mpr ⟨tq_441, List.forall_mem_cons.mpr ⟨tq_43, fun _ h => absurd h List.not_mem_nil⟩⟩⟩⟩⟩⟩⟩⟩⟩⟩⟩⟩⟩⟩⟩⟩⟩⟩⟩⟩⟩⟩⟩⟩
theorem tq_724 : Cond.methodLink RX9 220 yX0_takeEntry ∈ lw_tbl := tb_3 (i := 76) rfl
theorem tq_725 : Cond.instanceMethod yX0_takeEntry ∈ lw_tbl := tb_3 (i := 77) rfl
theorem tq_726 : Cond.selects RX0 yX0_takeEntry yX0_takeEntry ∈ lw_tbl := tb_3 (i := 78) rfl
theorem tq_727 : Cond.code yX0_takeEntry cX0_takeEntry 3 none ∈ lw_tbl := tb_3 (i := 79) rfl
theorem tq_728 : Cond.methodLink RX9 223 yX0_takeChunk ∈ lw_tbl := tb_3 (i := 80) rfl
theorem tq_729 : Cond.instanceMethod yX0_takeChunk ∈ lw_tbl := tb_3 (i := 81) rfl
theorem tq_730 : Cond.selects RX0 yX0_takeChunk yX0_takeChunk ∈ lw_tbl := tb_3 (i := 82) rfl
theorem tq_731 : Cond.code yX0_takeChunk cX0_takeChunk 3 none ∈ lw_tbl := tb_3 (i := 83) rfl
theorem wkX9_drop_r2 : ∀ w ∈ wsX9_drop_r2, w ∈ lw_tbl := List.forall_mem_cons.mpr ⟨tq_39, List.forall_mem_cons.mpr ⟨tq_41, List.forall_mem_cons.mpr ⟨tq_379, List.forall_mem_cons.mpr ⟨tq_380, List.forall_mem_cons.mpr ⟨tq_381, List.forall_mem_cons.mpr ⟨tq_382, List.forall_mem_cons.mpr ⟨tq_724, List.forall_mem_cons.mpr ⟨tq_725, List.forall_mem_cons.mpr ⟨tq_726, List.forall_mem_cons.mpr ⟨tq_727, List.forall_mem_cons.mpr ⟨tq_42, List.forall_mem_cons.mpr ⟨tq_387, List.forall_mem_cons.mpr ⟨tq_330, List.forall_mem_cons.mpr ⟨tq_331, List.forall_mem_cons.mpr ⟨tq_332, List.forall_mem_cons.mpr ⟨tq_333, List.forall_mem_cons.mpr ⟨tq_728, List.forall_mem_cons.mpr ⟨tq_729, List.forall_mem_cons.mpr ⟨tq_730, List.forall_mem_cons.mpr ⟨tq_731, List.forall_mem_cons.mpr ⟨tq_359, List.forall_mem_cons.mpr ⟨tq_110, List.forall_mem_cons.mpr ⟨tq_111, List.forall_mem_cons.mpr ⟨tq_34, fun _ h => absurd h List.not_mem_nil⟩⟩⟩⟩⟩⟩⟩⟩⟩⟩⟩⟩⟩⟩⟩⟩⟩⟩⟩⟩⟩⟩⟩⟩
theorem tq_732 : Cond.methodLink RX0 91 yX0_setData ∈ lw_tbl := tb_3 (i := 84) rfl
theorem wkX9_drop_r3 : ∀ w ∈ wsX9_drop_r3, w ∈ lw_tbl := List.forall_mem_cons.mpr ⟨tq_38, List.forall_mem_cons.mpr ⟨tq_36, List.forall_mem_cons.mpr ⟨tq_37, List.forall_mem_cons.mpr ⟨tq_213, List.forall_mem_cons.mpr ⟨tq_320, List.forall_mem_cons.mpr ⟨tq_313, List.forall_mem_cons.mpr ⟨tq_314, List.forall_mem_cons.mpr ⟨tq_315, List.forall_mem_cons.mpr ⟨tq_360, List.forall_mem_cons.mpr ⟨tq_113, List.forall_mem_cons.mpr ⟨tq_114, List.forall_mem_cons.mpr ⟨tq_115, List.forall_mem_cons.mpr ⟨tq_2, List.forall_mem_cons.mpr ⟨tq_3, List.forall_mem_cons.mpr ⟨tq_116, List.forall_mem_cons.mpr ⟨tq_117, List.forall_mem_cons.mpr ⟨tq_118, List.forall_mem_cons.mpr ⟨tq_119, List.forall_mem_cons.mpr ⟨tq_732, List.forall_mem_cons.mpr ⟨tq_713, List.forall_mem_cons.mpr ⟨tq_714, List.forall_mem_cons.mpr ⟨tq_715, List.forall_mem_cons.mpr ⟨tq_212, List.forall_mem_cons.mpr ⟨tq_329, fun _ h => absurd h List.not_mem_nil⟩⟩⟩⟩⟩⟩⟩⟩⟩⟩⟩⟩⟩⟩⟩⟩⟩⟩⟩⟩⟩⟩⟩⟩
theorem wkX9_drop_r4 : ∀ w ∈ wsX9_drop_r4, w ∈ lw_tbl := List.forall_mem_cons.mpr ⟨tq_322, List.forall_mem_cons.mpr ⟨tq_323, List.forall_mem_cons.mpr ⟨tq_324, List.forall_mem_cons.mpr ⟨tq_218, List.forall_mem_cons.mpr ⟨tq_67, List.forall_mem_cons.mpr ⟨tq_68, List.forall_mem_cons.mpr ⟨tq_6, List.forall_mem_cons.mpr ⟨tq_69, List.forall_mem_cons.mpr ⟨tq_27, List.forall_mem_cons.mpr ⟨tq_28, List.forall_mem_cons.mpr ⟨tq_219, List.forall_mem_cons.mpr ⟨tq_220, List.forall_mem_cons.mpr ⟨tq_221, List.forall_mem_cons.mpr ⟨tq_222, List.forall_mem_cons.mpr ⟨tq_223, List.forall_mem_cons.mpr ⟨tq_224, List.forall_mem_cons.mpr ⟨tq_225, List.forall_mem_cons.mpr ⟨tq_226, List.forall_mem_cons.mpr ⟨tq_227, List.forall_mem_cons.mpr ⟨tq_228, List.forall_mem_cons.mpr ⟨tq_229, List.forall_mem_cons.mpr ⟨tq_74, fun _ h => absurd h List.not_mem_nil⟩⟩⟩⟩⟩⟩⟩⟩⟩⟩⟩⟩⟩⟩⟩⟩⟩⟩⟩⟩⟩⟩
set_option maxRecDepth 20000 in
theorem gwX9_drop : GoodIn lw_tbl wsX9_drop := goodIn_sub (List.forall_mem_cons.mpr ⟨tq_723, (List.forall_mem_append.mpr ⟨(List.forall_mem_append.mpr ⟨(List.forall_mem_append.mpr ⟨(List.forall_mem_append.mpr ⟨(List.forall_mem_append.mpr ⟨wkX9_drop_r1, (List.forall_mem_append.mpr ⟨wkX9_drop_r2, (List.forall_mem_append.mpr ⟨wkX9_drop_r3, wkX9_drop_r4⟩)⟩)⟩), inT_i9⟩), inT_i0⟩), inT_i3⟩), inT_i6⟩)⟩) (by decide +kernel)
theorem tq_733 : Cond.methodLink RL 95 yX9_drop ∈ lw_tbl := tb_3 (i := 72) rfl
theorem tq_734 : Cond.instanceMethod yX9_drop ∈ lw_tbl := tb_3 (i := 73) rfl
theorem tq_735 : Cond.selects RX9 yX9_drop yX9_drop ∈ lw_tbl := tb_3 (i := 74) rfl
set_option maxRecDepth 20000 in
theorem gc_X9_drop : GoodIn lw_tbl (wsV RL 95 RX9 yX9_drop wsX9_drop) := goodIn_app (goodIn_sub (List.forall_mem_cons.mpr ⟨tq_733, List.forall_mem_cons.mpr ⟨tq_734, List.forall_mem_cons.mpr ⟨tq_735, List.forall_mem_cons.mpr ⟨tq_78, fun _ h => absurd h List.not_mem_nil⟩⟩⟩⟩) (by decide +kernel)) gwX9_drop
theorem tq_736 : Cond.code yX10_drop cX10_drop 7 (some .int) ∈ lw_tbl := tb_4 (i := 143) rfl
theorem wkX10_drop_r1 : ∀ w ∈ wsX10_drop_r1, w ∈ lw_tbl := List.forall_mem_cons.mpr ⟨tq_60, List.forall_mem_cons.mpr ⟨tq_288, List.forall_mem_cons.mpr ⟨tq_58, List.forall_mem_cons.mpr ⟨tq_59, List.forall_mem_cons.mpr ⟨tq_276, List.forall_mem_cons.mpr ⟨tq_277, List.forall_mem_cons.mpr ⟨tq_85, List.forall_mem_cons.mpr ⟨tq_278, List.forall_mem_cons.mpr ⟨tq_279, List.forall_mem_cons.mpr ⟨tq_280, List.forall_mem_cons.mpr ⟨tq_281, List.forall_mem_cons.mpr ⟨tq_282, List.forall_mem_cons.mpr ⟨tq_446, List.forall_mem_cons.mpr ⟨tq_447, List.forall_mem_cons.mpr ⟨tq_448, List.forall_mem_cons.mpr ⟨tq_260, List.forall_mem_cons.mpr ⟨tq_83, List.forall_mem_cons.mpr ⟨tq_84, List.forall_mem_cons.mpr ⟨tq_86, List.forall_mem_cons.mpr ⟨tq_449, List.forall_mem_cons.mpr ⟨tq_450, List.forall_mem_cons.mpr ⟨tq_451, List.forall_mem_cons.mpr ⟨tq_452, List.forall_mem_cons.mpr ⟨tq_347, fun _ h => absurd h List.not_mem_nil⟩⟩⟩⟩⟩⟩⟩⟩⟩⟩⟩⟩⟩⟩⟩⟩⟩⟩⟩⟩⟩⟩⟩⟩
theorem tq_737 : Cond.methodLink RX10 215 yX10_goesAway ∈ lw_tbl := tb_4 (i := 144) rfl
theorem tq_738 : Cond.instanceMethod yX10_goesAway ∈ lw_tbl := tb_4 (i := 146) rfl
theorem tq_739 : Cond.selects RX10 yX10_goesAway yX10_goesAway ∈ lw_tbl := tb_0 (i := 27) rfl
theorem tq_740 : Cond.code yX10_goesAway cX10_goesAway 4 (some .int) ∈ lw_tbl := tb_4 (i := 147) rfl
theorem wkX10_drop_r2 : ∀ w ∈ wsX10_drop_r2, w ∈ lw_tbl := List.forall_mem_cons.mpr ⟨tq_348, List.forall_mem_cons.mpr ⟨tq_349, List.forall_mem_cons.mpr ⟨tq_350, List.forall_mem_cons.mpr ⟨tq_737, List.forall_mem_cons.mpr ⟨tq_738, List.forall_mem_cons.mpr ⟨tq_739, List.forall_mem_cons.mpr ⟨tq_740, List.forall_mem_cons.mpr ⟨tq_57, List.forall_mem_cons.mpr ⟨tq_239, List.forall_mem_cons.mpr ⟨tq_56, List.forall_mem_cons.mpr ⟨tq_695, List.forall_mem_cons.mpr ⟨tq_696, List.forall_mem_cons.mpr ⟨tq_697, List.forall_mem_cons.mpr ⟨tq_698, List.forall_mem_cons.mpr ⟨tq_81, List.forall_mem_cons.mpr ⟨tq_287, List.forall_mem_cons.mpr ⟨tq_55, List.forall_mem_cons.mpr ⟨tq_54, List.forall_mem_cons.mpr ⟨tq_367, List.forall_mem_cons.mpr ⟨tq_368, List.forall_mem_cons.mpr ⟨tq_369, List.forall_mem_cons.mpr ⟨tq_370, fun _ h => absurd h List.not_mem_nil⟩⟩⟩⟩⟩⟩⟩⟩⟩⟩⟩⟩⟩⟩⟩⟩⟩⟩⟩⟩⟩⟩
set_option maxRecDepth 20000 in
theorem gwX10_drop : GoodIn lw_tbl wsX10_drop := goodIn_sub (List.forall_mem_cons.mpr ⟨tq_736, (List.forall_mem_append.mpr ⟨(List.forall_mem_append.mpr ⟨wkX10_drop_r1, wkX10_drop_r2⟩), inT_i10⟩)⟩) (by decide +kernel)
theorem tq_741 : Cond.methodLink RL 98 yX10_drop ∈ lw_tbl := tb_4 (i := 140) rfl
theorem tq_742 : Cond.instanceMethod yX10_drop ∈ lw_tbl := tb_4 (i := 141) rfl
theorem tq_743 : Cond.selects RX10 yX10_drop yX10_drop ∈ lw_tbl := tb_4 (i := 142) rfl
set_option maxRecDepth 20000 in
theorem gc_X10_drop : GoodIn lw_tbl (wsV RL 98 RX10 yX10_drop wsX10_drop) := goodIn_app (goodIn_sub (List.forall_mem_cons.mpr ⟨tq_741, List.forall_mem_cons.mpr ⟨tq_742, List.forall_mem_cons.mpr ⟨tq_743, List.forall_mem_cons.mpr ⟨tq_85, fun _ h => absurd h List.not_mem_nil⟩⟩⟩⟩) (by decide +kernel)) gwX10_drop
theorem tq_744 : Cond.code yX9_remove cX9_remove 3 (some .int) ∈ lw_tbl := tb_3 (i := 88) rfl
theorem wkX9_remove_r1 : ∀ w ∈ wsX9_remove_r1, w ∈ lw_tbl := List.forall_mem_cons.mpr ⟨tq_12, List.forall_mem_cons.mpr ⟨tq_312, List.forall_mem_cons.mpr ⟨tq_313, List.forall_mem_cons.mpr ⟨tq_314, List.forall_mem_cons.mpr ⟨tq_11, List.forall_mem_cons.mpr ⟨tq_315, List.forall_mem_cons.mpr ⟨tq_38, List.forall_mem_cons.mpr ⟨tq_330, List.forall_mem_cons.mpr ⟨tq_331, List.forall_mem_cons.mpr ⟨tq_332, List.forall_mem_cons.mpr ⟨tq_333, List.forall_mem_cons.mpr ⟨tq_43, List.forall_mem_cons.mpr ⟨tq_42, List.forall_mem_cons.mpr ⟨tq_321, List.forall_mem_cons.mpr ⟨tq_322, List.forall_mem_cons.mpr ⟨tq_323, List.forall_mem_cons.mpr ⟨tq_324, List.forall_mem_cons.mpr ⟨tq_37, List.forall_mem_cons.mpr ⟨tq_320, List.forall_mem_cons.mpr ⟨tq_728, List.forall_mem_cons.mpr ⟨tq_729, List.forall_mem_cons.mpr ⟨tq_730, List.forall_mem_cons.mpr ⟨tq_731, List.forall_mem_cons.mpr ⟨tq_359, fun _ h => absurd h List.not_mem_nil⟩⟩⟩⟩⟩⟩⟩⟩⟩⟩⟩⟩⟩⟩⟩⟩⟩⟩⟩⟩⟩⟩⟩⟩
theorem wkX9_remove_r2 : ∀ w ∈ wsX9_remove_r2, w ∈ lw_tbl := List.forall_mem_cons.mpr ⟨tq_110, List.forall_mem_cons.mpr ⟨tq_111, List.forall_mem_cons.mpr ⟨tq_34, List.forall_mem_cons.mpr ⟨tq_36, List.forall_mem_cons.mpr ⟨tq_213, List.forall_mem_cons.mpr ⟨tq_360, List.forall_mem_cons.mpr ⟨tq_113, List.forall_mem_cons.mpr ⟨tq_114, List.forall_mem_cons.mpr ⟨tq_115, List.forall_mem_cons.mpr ⟨tq_2, List.forall_mem_cons.mpr ⟨tq_3, List.forall_mem_cons.mpr ⟨tq_116, List.forall_mem_cons.mpr ⟨tq_117, List.forall_mem_cons.mpr ⟨tq_118, List.forall_mem_cons.mpr ⟨tq_119, List.forall_mem_cons.mpr ⟨tq_732, List.forall_mem_cons.mpr ⟨tq_713, List.forall_mem_cons.mpr ⟨tq_714, List.forall_mem_cons.mpr ⟨tq_715, List.forall_mem_cons.mpr ⟨tq_212, List.forall_mem_cons.mpr ⟨tq_329, List.forall_mem_cons.mpr ⟨tq_218, List.forall_mem_cons.mpr ⟨tq_67, List.forall_mem_cons.mpr ⟨tq_68, fun _ h => absurd h List.not_mem_nil⟩⟩⟩⟩⟩⟩⟩⟩⟩⟩⟩⟩⟩⟩⟩⟩⟩⟩⟩⟩⟩⟩⟩⟩
theorem wkX9_remove_r3 : ∀ w ∈ wsX9_remove_r3, w ∈ lw_tbl := List.forall_mem_cons.mpr ⟨tq_6, List.forall_mem_cons.mpr ⟨tq_69, List.forall_mem_cons.mpr ⟨tq_27, List.forall_mem_cons.mpr ⟨tq_28, List.forall_mem_cons.mpr ⟨tq_219, List.forall_mem_cons.mpr ⟨tq_220, List.forall_mem_cons.mpr ⟨tq_221, List.forall_mem_cons.mpr ⟨tq_222, List.forall_mem_cons.mpr ⟨tq_223, List.forall_mem_cons.mpr ⟨tq_224, List.forall_mem_cons.mpr ⟨tq_225, List.forall_mem_cons.mpr ⟨tq_226, List.forall_mem_cons.mpr ⟨tq_227, List.forall_mem_cons.mpr ⟨tq_228, List.forall_mem_cons.mpr ⟨tq_229, List.forall_mem_cons.mpr ⟨tq_74, fun _ h => absurd h List.not_mem_nil⟩⟩⟩⟩⟩⟩⟩⟩⟩⟩⟩⟩⟩⟩⟩⟩
set_option maxRecDepth 20000 in
theorem gwX9_remove : GoodIn lw_tbl wsX9_remove := goodIn_sub (List.forall_mem_cons.mpr ⟨tq_744, (List.forall_mem_append.mpr ⟨(List.forall_mem_append.mpr ⟨(List.forall_mem_append.mpr ⟨(List.forall_mem_append.mpr ⟨(List.forall_mem_append.mpr ⟨wkX9_remove_r1, (List.forall_mem_append.mpr ⟨wkX9_remove_r2, wkX9_remove_r3⟩)⟩), inT_i9⟩), inT_i0⟩), inT_i3⟩), inT_i6⟩)⟩) (by decide +kernel)
theorem tq_745 : Cond.methodLink RL 99 yX9_remove ∈ lw_tbl := tb_3 (i := 85) rfl
theorem tq_746 : Cond.instanceMethod yX9_remove ∈ lw_tbl := tb_3 (i := 86) rfl
theorem tq_747 : Cond.selects RX9 yX9_remove yX9_remove ∈ lw_tbl := tb_3 (i := 87) rfl
set_option maxRecDepth 20000 in
theorem gc_X9_remove : GoodIn lw_tbl (wsV RL 99 RX9 yX9_remove wsX9_remove) := goodIn_app (goodIn_sub (List.forall_mem_cons.mpr ⟨tq_745, List.forall_mem_cons.mpr ⟨tq_746, List.forall_mem_cons.mpr ⟨tq_747, List.forall_mem_cons.mpr ⟨tq_78, fun _ h => absurd h List.not_mem_nil⟩⟩⟩⟩) (by decide +kernel)) gwX9_remove
theorem tq_748 : Cond.code yX10_remove cX10_remove 2 (some .int) ∈ lw_tbl := tb_4 (i := 151) rfl
theorem wkX10_remove_r1 : ∀ w ∈ wsX10_remove_r1, w ∈ lw_tbl := List.forall_mem_cons.mpr ⟨tq_339, List.forall_mem_cons.mpr ⟨tq_340, List.forall_mem_cons.mpr ⟨tq_341, List.forall_mem_cons.mpr ⟨tq_85, List.forall_mem_cons.mpr ⟨tq_342, List.forall_mem_cons.mpr ⟨tq_239, List.forall_mem_cons.mpr ⟨tq_83, List.forall_mem_cons.mpr ⟨tq_84, List.forall_mem_cons.mpr ⟨tq_86, List.forall_mem_cons.mpr ⟨tq_347, List.forall_mem_cons.mpr ⟨tq_348, List.forall_mem_cons.mpr ⟨tq_349, List.forall_mem_cons.mpr ⟨tq_350, List.forall_mem_cons.mpr ⟨tq_288, List.forall_mem_cons.mpr ⟨tq_60, List.forall_mem_cons.mpr ⟨tq_737, List.forall_mem_cons.mpr ⟨tq_738, List.forall_mem_cons.mpr ⟨tq_739, List.forall_mem_cons.mpr ⟨tq_740, List.forall_mem_cons.mpr ⟨tq_57, List.forall_mem_cons.mpr ⟨tq_56, List.forall_mem_cons.mpr ⟨tq_695, List.forall_mem_cons.mpr ⟨tq_696, List.forall_mem_cons.mpr ⟨tq_697, fun _ h => absurd h List.not_mem_nil⟩⟩⟩⟩⟩⟩⟩⟩⟩⟩⟩⟩⟩⟩⟩⟩⟩⟩⟩⟩⟩⟩⟩⟩
theorem wkX10_remove_r2 : ∀ w ∈ wsX10_remove_r2, w ∈ lw_tbl := List.forall_mem_cons.mpr ⟨tq_698, List.forall_mem_cons.mpr ⟨tq_81, List.forall_mem_cons.mpr ⟨tq_287, List.forall_mem_cons.mpr ⟨tq_55, List.forall_mem_cons.mpr ⟨tq_54, List.forall_mem_cons.mpr ⟨tq_367, List.forall_mem_cons.mpr ⟨tq_368, List.forall_mem_cons.mpr ⟨tq_369, List.forall_mem_cons.mpr ⟨tq_370, fun _ h => absurd h List.not_mem_nil⟩⟩⟩⟩⟩⟩⟩⟩⟩
set_option maxRecDepth 20000 in
theorem gwX10_remove : GoodIn lw_tbl wsX10_remove := goodIn_sub (List.forall_mem_cons.mpr ⟨tq_748, (List.forall_mem_append.mpr ⟨(List.forall_mem_append.mpr ⟨wkX10_remove_r1, wkX10_remove_r2⟩), inT_i10⟩)⟩) (by decide +kernel)
theorem tq_749 : Cond.methodLink RL 102 yX10_remove ∈ lw_tbl := tb_4 (i := 148) rfl
theorem tq_750 : Cond.instanceMethod yX10_remove ∈ lw_tbl := tb_4 (i := 149) rfl
theorem tq_751 : Cond.selects RX10 yX10_remove yX10_remove ∈ lw_tbl := tb_4 (i := 150) rfl
set_option maxRecDepth 20000 in
theorem gc_X10_remove : GoodIn lw_tbl (wsV RL 102 RX10 yX10_remove wsX10_remove) := goodIn_app (goodIn_sub (List.forall_mem_cons.mpr ⟨tq_749, List.forall_mem_cons.mpr ⟨tq_750, List.forall_mem_cons.mpr ⟨tq_751, List.forall_mem_cons.mpr ⟨tq_85, fun _ h => absurd h List.not_mem_nil⟩⟩⟩⟩) (by decide +kernel)) gwX10_remove
theorem tq_752 : Cond.code yX9_write cX9_write 1 (some .int) ∈ lw_tbl := tb_3 (i := 92) rfl
theorem tq_753 : Cond.methodLink RX9 226 yX0_writeTo ∈ lw_tbl := tb_3 (i := 93) rfl
theorem tq_754 : Cond.instanceMethod yX0_writeTo ∈ lw_tbl := tb_3 (i := 94) rfl
theorem tq_755 : Cond.selects RX0 yX0_writeTo yX0_writeTo ∈ lw_tbl := tb_3 (i := 95) rfl
theorem tq_756 : Cond.code yX0_writeTo cX0_writeTo 3 none ∈ lw_tbl := tb_3 (i := 96) rfl
theorem tq_757 : Cond.constantLong RX0 95 (1179603533) ∈ lw_tbl := tb_3 (i := 97) rfl
theorem tq_758 : Cond.constantLong RX0 104 (1229345363) ∈ lw_tbl := tb_3 (i := 100) rfl
theorem tq_759 : Cond.constantLong RX0 106 (1380541560) ∈ lw_tbl := tb_3 (i := 101) rfl
theorem wkX9_write_r1 : ∀ w ∈ wsX9_write_r1, w ∈ lw_tbl := List.forall_mem_cons.mpr ⟨tq_8, List.forall_mem_cons.mpr ⟨tq_12, List.forall_mem_cons.mpr ⟨tq_65, List.forall_mem_cons.mpr ⟨tq_91, List.forall_mem_cons.mpr ⟨tq_92, List.forall_mem_cons.mpr ⟨tq_93, List.forall_mem_cons.mpr ⟨tq_6, List.forall_mem_cons.mpr ⟨tq_94, List.forall_mem_cons.mpr ⟨tq_28, List.forall_mem_cons.mpr ⟨tq_753, List.forall_mem_cons.mpr ⟨tq_754, List.forall_mem_cons.mpr ⟨tq_755, List.forall_mem_cons.mpr ⟨tq_11, List.forall_mem_cons.mpr ⟨tq_756, List.forall_mem_cons.mpr ⟨tq_757, List.forall_mem_cons.mpr ⟨tq_38, List.forall_mem_cons.mpr ⟨tq_758, List.forall_mem_cons.mpr ⟨tq_759, List.forall_mem_cons.mpr ⟨tq_43, List.forall_mem_cons.mpr ⟨tq_39, List.forall_mem_cons.mpr ⟨tq_41, List.forall_mem_cons.mpr ⟨tq_42, List.forall_mem_cons.mpr ⟨tq_36, List.forall_mem_cons.mpr ⟨tq_213, fun _ h => absurd h List.not_mem_nil⟩⟩⟩⟩⟩⟩⟩⟩⟩⟩⟩⟩⟩⟩⟩⟩⟩⟩⟩⟩⟩⟩⟩⟩
theorem tq_760 : Cond.methodLink RX0 97 yX6_append ∈ lw_tbl := tb_3 (i := 98) rfl
theorem tq_761 : Cond.methodLink RX0 101 yX0_placeOf ∈ lw_tbl := tb_3 (i := 99) rfl
theorem wkX9_write_r2 : ∀ w ∈ wsX9_write_r2, w ∈ lw_tbl := List.forall_mem_cons.mpr ⟨tq_760, List.forall_mem_cons.mpr ⟨tq_71, List.forall_mem_cons.mpr ⟨tq_72, List.forall_mem_cons.mpr ⟨tq_73, List.forall_mem_cons.mpr ⟨tq_27, List.forall_mem_cons.mpr ⟨tq_74, List.forall_mem_cons.mpr ⟨tq_67, List.forall_mem_cons.mpr ⟨tq_68, List.forall_mem_cons.mpr ⟨tq_69, List.forall_mem_cons.mpr ⟨tq_761, List.forall_mem_cons.mpr ⟨tq_326, List.forall_mem_cons.mpr ⟨tq_327, List.forall_mem_cons.mpr ⟨tq_328, List.forall_mem_cons.mpr ⟨tq_329, List.forall_mem_cons.mpr ⟨tq_322, List.forall_mem_cons.mpr ⟨tq_323, List.forall_mem_cons.mpr ⟨tq_324, List.forall_mem_cons.mpr ⟨tq_37, List.forall_mem_cons.mpr ⟨tq_320, List.forall_mem_cons.mpr ⟨tq_313, List.forall_mem_cons.mpr ⟨tq_314, List.forall_mem_cons.mpr ⟨tq_315, List.forall_mem_cons.mpr ⟨tq_389, List.forall_mem_cons.mpr ⟨tq_356, fun _ h => absurd h List.not_mem_nil⟩⟩⟩⟩⟩⟩⟩⟩⟩⟩⟩⟩⟩⟩⟩⟩⟩⟩⟩⟩⟩⟩⟩⟩
theorem wkX9_write_r3 : ∀ w ∈ wsX9_write_r3, w ∈ lw_tbl := List.forall_mem_cons.mpr ⟨tq_357, List.forall_mem_cons.mpr ⟨tq_358, List.forall_mem_cons.mpr ⟨tq_359, List.forall_mem_cons.mpr ⟨tq_110, List.forall_mem_cons.mpr ⟨tq_111, List.forall_mem_cons.mpr ⟨tq_34, List.forall_mem_cons.mpr ⟨tq_360, List.forall_mem_cons.mpr ⟨tq_113, List.forall_mem_cons.mpr ⟨tq_114, List.forall_mem_cons.mpr ⟨tq_115, List.forall_mem_cons.mpr ⟨tq_2, List.forall_mem_cons.mpr ⟨tq_3, List.forall_mem_cons.mpr ⟨tq_116, List.forall_mem_cons.mpr ⟨tq_117, List.forall_mem_cons.mpr ⟨tq_118, List.forall_mem_cons.mpr ⟨tq_119, List.forall_mem_cons.mpr ⟨tq_219, List.forall_mem_cons.mpr ⟨tq_220, List.forall_mem_cons.mpr ⟨tq_221, List.forall_mem_cons.mpr ⟨tq_222, List.forall_mem_cons.mpr ⟨tq_223, List.forall_mem_cons.mpr ⟨tq_224, List.forall_mem_cons.mpr ⟨tq_225, List.forall_mem_cons.mpr ⟨tq_226, fun _ h => absurd h List.not_mem_nil⟩⟩⟩⟩⟩⟩⟩⟩⟩⟩⟩⟩⟩⟩⟩⟩⟩⟩⟩⟩⟩⟩⟩⟩
theorem wkX9_write_r4 : ∀ w ∈ wsX9_write_r4, w ∈ lw_tbl := List.forall_mem_cons.mpr ⟨tq_227, List.forall_mem_cons.mpr ⟨tq_228, List.forall_mem_cons.mpr ⟨tq_229, fun _ h => absurd h List.not_mem_nil⟩⟩⟩
set_option maxRecDepth 20000 in
theorem gwX9_write : GoodIn lw_tbl wsX9_write := goodIn_sub (List.forall_mem_cons.mpr ⟨tq_752, (List.forall_mem_append.mpr ⟨(List.forall_mem_append.mpr ⟨(List.forall_mem_append.mpr ⟨(List.forall_mem_append.mpr ⟨(List.forall_mem_append.mpr ⟨wkX9_write_r1, (List.forall_mem_append.mpr ⟨wkX9_write_r2, (List.forall_mem_append.mpr ⟨wkX9_write_r3, wkX9_write_r4⟩)⟩)⟩), inT_i9⟩), inT_i6⟩), inT_i0⟩), inT_i3⟩)⟩) (by decide +kernel)
theorem tq_762 : Cond.methodLink RL 103 yX9_write ∈ lw_tbl := tb_3 (i := 89) rfl
theorem tq_763 : Cond.instanceMethod yX9_write ∈ lw_tbl := tb_3 (i := 90) rfl
theorem tq_764 : Cond.selects RX9 yX9_write yX9_write ∈ lw_tbl := tb_3 (i := 91) rfl
set_option maxRecDepth 20000 in
theorem gc_X9_write : GoodIn lw_tbl (wsV RL 103 RX9 yX9_write wsX9_write) := goodIn_app (goodIn_sub (List.forall_mem_cons.mpr ⟨tq_762, List.forall_mem_cons.mpr ⟨tq_763, List.forall_mem_cons.mpr ⟨tq_764, List.forall_mem_cons.mpr ⟨tq_78, fun _ h => absurd h List.not_mem_nil⟩⟩⟩⟩) (by decide +kernel)) gwX9_write
theorem tq_765 : Cond.code yX10_write cX10_write 4 (some .int) ∈ lw_tbl := tb_4 (i := 155) rfl
theorem tq_766 : Cond.constantLong RX10 218 (1179603533) ∈ lw_tbl := tb_4 (i := 156) rfl
theorem tq_767 : Cond.constantLong RX10 224 (1229345363) ∈ lw_tbl := tb_4 (i := 161) rfl
theorem tq_768 : Cond.constantLong RX10 226 (1380541560) ∈ lw_tbl := tb_4 (i := 162) rfl
theorem tq_769 : Cond.methodLink RX10 220 yX10_put ∈ lw_tbl := tb_4 (i := 157) rfl
theorem tq_770 : Cond.instanceMethod yX10_put ∈ lw_tbl := tb_4 (i := 159) rfl
theorem tq_771 : Cond.selects RX10 yX10_put yX10_put ∈ lw_tbl := tb_0 (i := 28) rfl
theorem tq_772 : Cond.code yX10_put cX10_put 5 none ∈ lw_tbl := tb_4 (i := 160) rfl
set_option maxRecDepth 20000 in
theorem gwX10_write : GoodIn lw_tbl wsX10_write := goodIn_sub (List.forall_mem_cons.mpr ⟨tq_765, (List.forall_mem_append.mpr ⟨(List.forall_mem_cons.mpr ⟨tq_307, List.forall_mem_cons.mpr ⟨tq_766, List.forall_mem_cons.mpr ⟨tq_239, List.forall_mem_cons.mpr ⟨tq_767, List.forall_mem_cons.mpr ⟨tq_768, List.forall_mem_cons.mpr ⟨tq_288, List.forall_mem_cons.mpr ⟨tq_58, List.forall_mem_cons.mpr ⟨tq_59, List.forall_mem_cons.mpr ⟨tq_60, List.forall_mem_cons.mpr ⟨tq_56, List.forall_mem_cons.mpr ⟨tq_57, List.forall_mem_cons.mpr ⟨tq_55, List.forall_mem_cons.mpr ⟨tq_769, List.forall_mem_cons.mpr ⟨tq_770, List.forall_mem_cons.mpr ⟨tq_771, List.forall_mem_cons.mpr ⟨tq_85, List.forall_mem_cons.mpr ⟨tq_772, List.forall_mem_cons.mpr ⟨tq_61, List.forall_mem_cons.mpr ⟨tq_82, List.forall_mem_cons.mpr ⟨tq_343, List.forall_mem_cons.mpr ⟨tq_344, List.forall_mem_cons.mpr ⟨tq_345, List.forall_mem_cons.mpr ⟨tq_346, fun _ h => absurd h List.not_mem_nil⟩⟩⟩⟩⟩⟩⟩⟩⟩⟩⟩⟩⟩⟩⟩⟩⟩⟩⟩⟩⟩⟩⟩), inT_i10⟩)⟩) (by decide +kernel)
theorem tq_773 : Cond.methodLink RL 106 yX10_write ∈ lw_tbl := tb_4 (i := 152) rfl
theorem tq_774 : Cond.instanceMethod yX10_write ∈ lw_tbl := tb_4 (i := 153) rfl
theorem tq_775 : Cond.selects RX10 yX10_write yX10_write ∈ lw_tbl := tb_4 (i := 154) rfl
set_option maxRecDepth 20000 in
theorem gc_X10_write : GoodIn lw_tbl (wsV RL 106 RX10 yX10_write wsX10_write) := goodIn_app (goodIn_sub (List.forall_mem_cons.mpr ⟨tq_773, List.forall_mem_cons.mpr ⟨tq_774, List.forall_mem_cons.mpr ⟨tq_775, List.forall_mem_cons.mpr ⟨tq_85, fun _ h => absurd h List.not_mem_nil⟩⟩⟩⟩) (by decide +kernel)) gwX10_write
theorem tq_776 : Cond.code yX9_out cX9_out 3 (some .int) ∈ lw_tbl := tb_3 (i := 105) rfl
theorem wkX9_out_r1 : ∀ w ∈ wsX9_out_r1, w ∈ lw_tbl := List.forall_mem_cons.mpr ⟨tq_8, List.forall_mem_cons.mpr ⟨tq_105, List.forall_mem_cons.mpr ⟨tq_106, List.forall_mem_cons.mpr ⟨tq_107, List.forall_mem_cons.mpr ⟨tq_6, List.forall_mem_cons.mpr ⟨tq_108, List.forall_mem_cons.mpr ⟨tq_109, List.forall_mem_cons.mpr ⟨tq_110, List.forall_mem_cons.mpr ⟨tq_111, List.forall_mem_cons.mpr ⟨tq_28, List.forall_mem_cons.mpr ⟨tq_112, List.forall_mem_cons.mpr ⟨tq_113, List.forall_mem_cons.mpr ⟨tq_114, List.forall_mem_cons.mpr ⟨tq_115, List.forall_mem_cons.mpr ⟨tq_2, List.forall_mem_cons.mpr ⟨tq_3, List.forall_mem_cons.mpr ⟨tq_116, List.forall_mem_cons.mpr ⟨tq_117, List.forall_mem_cons.mpr ⟨tq_118, List.forall_mem_cons.mpr ⟨tq_119, List.forall_mem_cons.mpr ⟨tq_361, List.forall_mem_cons.mpr ⟨tq_146, List.forall_mem_cons.mpr ⟨tq_147, List.forall_mem_cons.mpr ⟨tq_148, fun _ h => absurd h List.not_mem_nil⟩⟩⟩⟩⟩⟩⟩⟩⟩⟩⟩⟩⟩⟩⟩⟩⟩⟩⟩⟩⟩⟩⟩⟩
theorem wkX9_out_r2 : ∀ w ∈ wsX9_out_r2, w ∈ lw_tbl := List.forall_mem_cons.mpr ⟨tq_362, List.forall_mem_cons.mpr ⟨tq_167, List.forall_mem_cons.mpr ⟨tq_168, List.forall_mem_cons.mpr ⟨tq_169, List.forall_mem_cons.mpr ⟨tq_139, List.forall_mem_cons.mpr ⟨tq_140, List.forall_mem_cons.mpr ⟨tq_141, List.forall_mem_cons.mpr ⟨tq_142, List.forall_mem_cons.mpr ⟨tq_143, List.forall_mem_cons.mpr ⟨tq_144, List.forall_mem_cons.mpr ⟨tq_145, fun _ h => absurd h List.not_mem_nil⟩⟩⟩⟩⟩⟩⟩⟩⟩⟩⟩
set_option maxRecDepth 20000 in
theorem gwX9_out : GoodIn lw_tbl wsX9_out := goodIn_sub (List.forall_mem_cons.mpr ⟨tq_776, (List.forall_mem_append.mpr ⟨(List.forall_mem_append.mpr ⟨(List.forall_mem_append.mpr ⟨(List.forall_mem_append.mpr ⟨wkX9_out_r1, wkX9_out_r2⟩), inT_i9⟩), inT_i3⟩), inT_i6⟩)⟩) (by decide +kernel)
theorem tq_777 : Cond.methodLink RL 107 yX9_out ∈ lw_tbl := tb_3 (i := 102) rfl
theorem tq_778 : Cond.instanceMethod yX9_out ∈ lw_tbl := tb_3 (i := 103) rfl
theorem tq_779 : Cond.selects RX9 yX9_out yX9_out ∈ lw_tbl := tb_3 (i := 104) rfl
set_option maxRecDepth 20000 in
theorem gc_X9_out : GoodIn lw_tbl (wsV RL 107 RX9 yX9_out wsX9_out) := goodIn_app (goodIn_sub (List.forall_mem_cons.mpr ⟨tq_777, List.forall_mem_cons.mpr ⟨tq_778, List.forall_mem_cons.mpr ⟨tq_779, List.forall_mem_cons.mpr ⟨tq_78, fun _ h => absurd h List.not_mem_nil⟩⟩⟩⟩) (by decide +kernel)) gwX9_out
theorem tq_780 : Cond.code yX10_out cX10_out 2 (some .int) ∈ lw_tbl := tb_4 (i := 166) rfl
set_option maxRecDepth 20000 in
theorem gwX10_out : GoodIn lw_tbl wsX10_out := goodIn_sub (List.forall_mem_cons.mpr ⟨tq_780, (List.forall_mem_append.mpr ⟨(List.forall_mem_cons.mpr ⟨tq_307, List.forall_mem_cons.mpr ⟨tq_61, List.forall_mem_cons.mpr ⟨tq_83, List.forall_mem_cons.mpr ⟨tq_84, List.forall_mem_cons.mpr ⟨tq_85, List.forall_mem_cons.mpr ⟨tq_86, fun _ h => absurd h List.not_mem_nil⟩⟩⟩⟩⟩⟩), inT_i10⟩)⟩) (by decide +kernel)
theorem tq_781 : Cond.methodLink RL 110 yX10_out ∈ lw_tbl := tb_4 (i := 163) rfl
theorem tq_782 : Cond.instanceMethod yX10_out ∈ lw_tbl := tb_4 (i := 164) rfl
theorem tq_783 : Cond.selects RX10 yX10_out yX10_out ∈ lw_tbl := tb_4 (i := 165) rfl
set_option maxRecDepth 20000 in
theorem gc_X10_out : GoodIn lw_tbl (wsV RL 110 RX10 yX10_out wsX10_out) := goodIn_app (goodIn_sub (List.forall_mem_cons.mpr ⟨tq_781, List.forall_mem_cons.mpr ⟨tq_782, List.forall_mem_cons.mpr ⟨tq_783, List.forall_mem_cons.mpr ⟨tq_85, fun _ h => absurd h List.not_mem_nil⟩⟩⟩⟩) (by decide +kernel)) gwX10_out
theorem tq_784 : Cond.code yX9_back cX9_back 1 (some .int) ∈ lw_tbl := tb_3 (i := 109) rfl
theorem wkX9_back_r1 : ∀ w ∈ wsX9_back_r1, w ∈ lw_tbl := List.forall_mem_cons.mpr ⟨tq_8, List.forall_mem_cons.mpr ⟨tq_65, List.forall_mem_cons.mpr ⟨tq_7, List.forall_mem_cons.mpr ⟨tq_91, List.forall_mem_cons.mpr ⟨tq_92, List.forall_mem_cons.mpr ⟨tq_93, List.forall_mem_cons.mpr ⟨tq_6, List.forall_mem_cons.mpr ⟨tq_94, List.forall_mem_cons.mpr ⟨tq_28, List.forall_mem_cons.mpr ⟨tq_105, List.forall_mem_cons.mpr ⟨tq_106, List.forall_mem_cons.mpr ⟨tq_107, List.forall_mem_cons.mpr ⟨tq_108, List.forall_mem_cons.mpr ⟨tq_109, List.forall_mem_cons.mpr ⟨tq_110, List.forall_mem_cons.mpr ⟨tq_111, List.forall_mem_cons.mpr ⟨tq_112, List.forall_mem_cons.mpr ⟨tq_113, List.forall_mem_cons.mpr ⟨tq_114, List.forall_mem_cons.mpr ⟨tq_115, List.forall_mem_cons.mpr ⟨tq_2, List.forall_mem_cons.mpr ⟨tq_3, List.forall_mem_cons.mpr ⟨tq_116, List.forall_mem_cons.mpr ⟨tq_117, fun _ h => absurd h List.not_mem_nil⟩⟩⟩⟩⟩⟩⟩⟩⟩⟩⟩⟩⟩⟩⟩⟩⟩⟩⟩⟩⟩⟩⟩⟩
theorem tq_785 : Cond.methodLink RX9 230 yX6_splice ∈ lw_tbl := tb_3 (i := 110) rfl
theorem wkX9_back_r2 : ∀ w ∈ wsX9_back_r2, w ∈ lw_tbl := List.forall_mem_cons.mpr ⟨tq_118, List.forall_mem_cons.mpr ⟨tq_119, List.forall_mem_cons.mpr ⟨tq_785, List.forall_mem_cons.mpr ⟨tq_220, List.forall_mem_cons.mpr ⟨tq_221, List.forall_mem_cons.mpr ⟨tq_222, List.forall_mem_cons.mpr ⟨tq_223, List.forall_mem_cons.mpr ⟨tq_27, List.forall_mem_cons.mpr ⟨tq_224, List.forall_mem_cons.mpr ⟨tq_225, List.forall_mem_cons.mpr ⟨tq_226, List.forall_mem_cons.mpr ⟨tq_227, List.forall_mem_cons.mpr ⟨tq_228, List.forall_mem_cons.mpr ⟨tq_229, List.forall_mem_cons.mpr ⟨tq_74, List.forall_mem_cons.mpr ⟨tq_67, List.forall_mem_cons.mpr ⟨tq_68, List.forall_mem_cons.mpr ⟨tq_69, fun _ h => absurd h List.not_mem_nil⟩⟩⟩⟩⟩⟩⟩⟩⟩⟩⟩⟩⟩⟩⟩⟩⟩⟩
set_option maxRecDepth 20000 in
theorem gwX9_back : GoodIn lw_tbl wsX9_back := goodIn_sub (List.forall_mem_cons.mpr ⟨tq_784, (List.forall_mem_append.mpr ⟨(List.forall_mem_append.mpr ⟨(List.forall_mem_append.mpr ⟨(List.forall_mem_append.mpr ⟨wkX9_back_r1, wkX9_back_r2⟩), inT_i9⟩), inT_i6⟩), inT_i3⟩)⟩) (by decide +kernel)
theorem tq_786 : Cond.methodLink RL 111 yX9_back ∈ lw_tbl := tb_3 (i := 106) rfl
theorem tq_787 : Cond.instanceMethod yX9_back ∈ lw_tbl := tb_3 (i := 107) rfl
theorem tq_788 : Cond.selects RX9 yX9_back yX9_back ∈ lw_tbl := tb_3 (i := 108) rfl
set_option maxRecDepth 20000 in
theorem gc_X9_back : GoodIn lw_tbl (wsV RL 111 RX9 yX9_back wsX9_back) := goodIn_app (goodIn_sub (List.forall_mem_cons.mpr ⟨tq_786, List.forall_mem_cons.mpr ⟨tq_787, List.forall_mem_cons.mpr ⟨tq_788, List.forall_mem_cons.mpr ⟨tq_78, fun _ h => absurd h List.not_mem_nil⟩⟩⟩⟩) (by decide +kernel)) gwX9_back
theorem tq_789 : Cond.code yX10_back cX10_back 2 (some .int) ∈ lw_tbl := tb_4 (i := 170) rfl
set_option maxRecDepth 20000 in
theorem gwX10_back : GoodIn lw_tbl wsX10_back := goodIn_sub (List.forall_mem_cons.mpr ⟨tq_789, (List.forall_mem_append.mpr ⟨(List.forall_mem_cons.mpr ⟨tq_307, List.forall_mem_cons.mpr ⟨tq_54, List.forall_mem_cons.mpr ⟨tq_61, List.forall_mem_cons.mpr ⟨tq_81, fun _ h => absurd h List.not_mem_nil⟩⟩⟩⟩), inT_i10⟩)⟩) (by decide +kernel)
theorem tq_790 : Cond.methodLink RL 114 yX10_back ∈ lw_tbl := tb_4 (i := 167) rfl
theorem tq_791 : Cond.instanceMethod yX10_back ∈ lw_tbl := tb_4 (i := 168) rfl
theorem tq_792 : Cond.selects RX10 yX10_back yX10_back ∈ lw_tbl := tb_4 (i := 169) rfl
set_option maxRecDepth 20000 in
theorem gc_X10_back : GoodIn lw_tbl (wsV RL 114 RX10 yX10_back wsX10_back) := goodIn_app (goodIn_sub (List.forall_mem_cons.mpr ⟨tq_790, List.forall_mem_cons.mpr ⟨tq_791, List.forall_mem_cons.mpr ⟨tq_792, List.forall_mem_cons.mpr ⟨tq_85, fun _ h => absurd h List.not_mem_nil⟩⟩⟩⟩) (by decide +kernel)) gwX10_back
theorem tq_793 : Cond.classLink RL 7 RX9 ∈ lw_tbl := tb_1 (i := 14) rfl
theorem tl_cl9 : Cond.classLink RL 7 RX9 ∈ lw_tbl := tq_793
theorem tq_794 : Cond.instantiable RX9 5 ∈ lw_tbl := tb_1 (i := 15) rfl
theorem tl_it9 : Cond.instantiable RX9 5 ∈ lw_tbl := tq_794
theorem tl_ni9 : Cond.initialized RX9 ∈ lw_tbl := tq_78
theorem tq_795 : Cond.classLink RL 10 RX10 ∈ lw_tbl := tb_3 (i := 111) rfl
theorem tl_cl10 : Cond.classLink RL 10 RX10 ∈ lw_tbl := tq_795
theorem tq_796 : Cond.instantiable RX10 18 ∈ lw_tbl := tb_3 (i := 112) rfl
theorem tl_it10 : Cond.instantiable RX10 18 ∈ lw_tbl := tq_796
theorem tl_ni10 : Cond.initialized RX10 ∈ lw_tbl := tq_85
theorem tq_797 : Cond.constantLong RL 13 (4294967295) ∈ lw_tbl := tb_4 (i := 171) rfl
theorem tl_k13 : Cond.constantLong RL 13 (4294967295) ∈ lw_tbl := tq_797
theorem tq_798 : Cond.methodLink RL 9 yX9_init ∈ lw_tbl := tb_1 (i := 16) rfl
theorem tl_ml9 : Cond.methodLink RL 9 yX9_init ∈ lw_tbl := tq_798
theorem tq_799 : Cond.instanceMethod yX9_init ∈ lw_tbl := tb_1 (i := 17) rfl
theorem tl_im9 : Cond.instanceMethod yX9_init ∈ lw_tbl := tq_799
theorem tq_800 : Cond.methodLink RL 12 yX10_init ∈ lw_tbl := tb_3 (i := 113) rfl
theorem tl_ml12 : Cond.methodLink RL 12 yX10_init ∈ lw_tbl := tq_800
theorem tq_801 : Cond.instanceMethod yX10_init ∈ lw_tbl := tb_3 (i := 114) rfl
theorem tl_im10 : Cond.instanceMethod yX10_init ∈ lw_tbl := tq_801
theorem tl_aB : Cond.arrayClass .byte ∈ lw_tbl := tq_26
theorem tl_aI : Cond.arrayClass .int ∈ lw_tbl := tq_35
theorem tl_aJ : Cond.arrayClass .long ∈ lw_tbl := tq_40
theorem tl_it0 : Cond.instantiable RX0 8 ∈ lw_tbl := tq_10
theorem tl_it1 : Cond.instantiable RX1 3 ∈ lw_tbl := tq_14
theorem tl_it3 : Cond.instantiable RX3 3 ∈ lw_tbl := tq_110
theorem tl_it5 : Cond.instantiable RX5 2 ∈ lw_tbl := tq_627
theorem tl_it6 : Cond.instantiable RX6 2 ∈ lw_tbl := tq_5
