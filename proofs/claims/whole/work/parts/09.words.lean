/-- the good words of the tables -/
def BW : List Cond := lw_tbl.filter goodWord
theorem bw_good : GoodIn BW BW := fun w h => ⟨h, good_of_word (List.mem_filter.mp h).2⟩
theorem bw_tbl : ∀ w ∈ BW, w ∈ lw_tbl := fun _ h => (List.mem_filter.mp h).1
theorem bw_mk {w : Cond} (h : w ∈ lw_tbl) (g : goodWord w = true) : w ∈ BW := List.mem_filter.mpr ⟨h, g⟩
theorem bwX0 : ∀ w ∈ wsX00, w ∈ BW := fun w h => bw_mk (inX0 w h) (List.all_eq_true.mp (show (wsX00).all goodWord = true by decide +kernel) w h)
theorem bwX1 : ∀ w ∈ wsX10, w ∈ BW := fun w h => bw_mk (inX1 w h) (List.all_eq_true.mp (show (wsX10).all goodWord = true by decide +kernel) w h)
theorem bwX2 : ∀ w ∈ wsX20, w ∈ BW := fun w h => bw_mk (inX2 w h) (List.all_eq_true.mp (show (wsX20).all goodWord = true by decide +kernel) w h)
theorem bwX3 : ∀ w ∈ wsX30, w ∈ BW := fun w h => bw_mk (inX3 w h) (List.all_eq_true.mp (show (wsX30).all goodWord = true by decide +kernel) w h)
theorem bwX4 : ∀ w ∈ wsX40, w ∈ BW := fun w h => bw_mk (inX4 w h) (List.all_eq_true.mp (show (wsX40).all goodWord = true by decide +kernel) w h)
theorem bwX5 : ∀ w ∈ wsX50, w ∈ BW := fun w h => bw_mk (inX5 w h) (List.all_eq_true.mp (show (wsX50).all goodWord = true by decide +kernel) w h)
theorem bwX6 : ∀ w ∈ wsX60, w ∈ BW := fun w h => bw_mk (inX6 w h) (List.all_eq_true.mp (show (wsX60).all goodWord = true by decide +kernel) w h)
theorem bwX7 : ∀ w ∈ wsX70, w ∈ BW := fun w h => bw_mk (inX7 w h) (List.all_eq_true.mp (show (wsX70).all goodWord = true by decide +kernel) w h)
theorem bwX8 : ∀ w ∈ wsX80, w ∈ BW := fun w h => bw_mk (inX8 w h) (List.all_eq_true.mp (show (wsX80).all goodWord = true by decide +kernel) w h)
theorem bwX9 : ∀ w ∈ wsX90, w ∈ BW := fun w h => bw_mk (inX9 w h) (List.all_eq_true.mp (show (wsX90).all goodWord = true by decide +kernel) w h)
def NW : List Cond := [Cond.methodLinkNest "ShrinkBench" 9 ⟨"ShrinkBench$Program", "<init>", "()V"⟩ "ShrinkBench", Cond.methodLinkNest "ShrinkBench" 18 ⟨"ShrinkBench$Input", "<init>", "()V"⟩ "ShrinkBench", Cond.methodLinkNest "ShrinkBench" 28 ⟨"ShrinkBench$Trace", "<init>", "()V"⟩ "ShrinkBench", Cond.methodLinkNest "ShrinkBench" 38 ⟨"ShrinkBench$Bench", "<init>", "()V"⟩ "ShrinkBench", Cond.methodLinkNest "ShrinkBench$Bench" 20 ⟨"ShrinkBench$Faults", "<init>", "()V"⟩ "ShrinkBench", Cond.methodLinkNest "ShrinkBench" 48 ⟨"ShrinkBench$Changer", "<init>", "()V"⟩ "ShrinkBench", Cond.methodLinkNest "ShrinkBench$Changer" 9 ⟨"ShrinkBench$Input", "<init>", "()V"⟩ "ShrinkBench", Cond.methodLinkNest "ShrinkBench" 55 ⟨"ShrinkBench$Cutter", "<init>", "()V"⟩ "ShrinkBench", Cond.methodLinkNest "ShrinkBench$Cutter" 9 ⟨"ShrinkBench$Input", "<init>", "()V"⟩ "ShrinkBench", Cond.methodLinkNest "ShrinkBench$Cutter" 21 ⟨"ShrinkBench$Trace", "<init>", "()V"⟩ "ShrinkBench"]
theorem nw_in : ∀ w ∈ NW, w ∈ lw_tbl := by decide +kernel
theorem mm_0 : Cond.code yX6_init cX6_init 2 none ∈ BW := bw_mk (List.mem_of_getElem? (i := 148) (by decide +kernel)) rfl
theorem mm_1 : Cond.methodLink RX6 1 objectInit ∈ BW := bw_mk (List.mem_of_getElem? (i := 149) (by decide +kernel)) rfl
theorem mm_2 : Cond.instanceMethod objectInit ∈ BW := bw_mk (List.mem_of_getElem? (i := 66) (by decide +kernel)) rfl
theorem mm_3 : Cond.code objectInit ⟨#[0xb1]⟩ 1 none ∈ BW := bw_mk (List.mem_of_getElem? (i := 67) (by decide +kernel)) rfl
theorem mm_4 : Cond.fieldLink RX6 7 "ShrinkBench$Shelf" "many" "I" ∈ BW := bw_mk (List.mem_of_getElem? (i := 156) (by decide +kernel)) rfl
theorem mm_5 : Cond.methodLink RX6 13 Lib.Math.max.name ∈ BW := bw_mk (List.mem_of_getElem? (i := 150) (by decide +kernel)) rfl
theorem mm_6 : Cond.static Lib.Math.max.name ∈ BW := bw_mk (List.mem_of_getElem? (i := 151) (by decide +kernel)) rfl
theorem mm_7 : Cond.initialized "java/lang/Math" ∈ BW := bw_mk (List.mem_of_getElem? (i := 53) (by decide +kernel)) rfl
theorem mm_8 : Cond.code Lib.Math.max.name Lib.Math.max.code 2 (some .int) ∈ BW := bw_mk (List.mem_of_getElem? (i := 152) (by decide +kernel)) rfl
theorem mm_9 : Cond.fieldLink RX6 19 "ShrinkBench$Shelf" "most" "I" ∈ BW := bw_mk (List.mem_of_getElem? (i := 153) (by decide +kernel)) rfl
theorem mm_10 : Cond.arrayClass .int ∈ BW := bw_mk (List.mem_of_getElem? (i := 81) (by decide +kernel)) rfl
theorem mm_11 : Cond.fieldLink RX6 24 "ShrinkBench$Shelf" "bytes" "[I" ∈ BW := bw_mk (List.mem_of_getElem? (i := 154) (by decide +kernel)) rfl
theorem mm_12 : Cond.fieldLink RX6 28 "ShrinkBench$Shelf" "lengths" "[I" ∈ BW := bw_mk (List.mem_of_getElem? (i := 155) (by decide +kernel)) rfl
theorem mm_13 : Cond.code yX3_init cX3_init 1 none ∈ BW := bw_mk (List.mem_of_getElem? (i := 170) (by decide +kernel)) rfl
theorem mm_14 : Cond.methodLink RX3 3 objectInit ∈ BW := bw_mk (List.mem_of_getElem? (i := 171) (by decide +kernel)) rfl
theorem mm_15 : Cond.fieldLink RX3 11 "ShrinkBench$Faults" "rows" "[I" ∈ BW := bw_mk (List.mem_of_getElem? (i := 174) (by decide +kernel)) rfl
theorem mm_16 : Cond.classLink RX3 15 RX6 ∈ BW := bw_mk (List.mem_of_getElem? (i := 172) (by decide +kernel)) rfl
theorem mm_17 : Cond.instantiable RX6 4 ∈ BW := bw_mk (List.mem_of_getElem? (i := 145) (by decide +kernel)) rfl
theorem mm_18 : Cond.initialized RX6 ∈ BW := bw_mk (List.mem_of_getElem? (i := 52) (by decide +kernel)) rfl
theorem mm_19 : Cond.fieldLink RX3 20 "ShrinkBench$Faults" "firstInputs" "LShrinkBench$Shelf;" ∈ BW := bw_mk (List.mem_of_getElem? (i := 175) (by decide +kernel)) rfl
theorem mm_20 : Cond.methodLink RX3 17 yX6_init ∈ BW := bw_mk (List.mem_of_getElem? (i := 173) (by decide +kernel)) rfl
theorem mm_21 : Cond.instanceMethod yX6_init ∈ BW := bw_mk (List.mem_of_getElem? (i := 147) (by decide +kernel)) rfl
theorem mm_22 : Cond.methodLink RX0 1 objectInit ∈ BW := bw_mk (List.mem_of_getElem? (i := 143) (by decide +kernel)) rfl
theorem mm_23 : Cond.classLink RX0 7 RX6 ∈ BW := bw_mk (List.mem_of_getElem? (i := 144) (by decide +kernel)) rfl
theorem mm_24 : Cond.fieldLink RX0 14 "ShrinkBench$Bench" "poolInputs" "LShrinkBench$Shelf;" ∈ BW := bw_mk (List.mem_of_getElem? (i := 181) (by decide +kernel)) rfl
theorem mm_25 : Cond.classLink RX0 18 RX3 ∈ BW := bw_mk (List.mem_of_getElem? (i := 166) (by decide +kernel)) rfl
theorem mm_26 : Cond.instantiable RX3 2 ∈ BW := bw_mk (List.mem_of_getElem? (i := 167) (by decide +kernel)) rfl
theorem mm_27 : Cond.initialized RX3 ∈ BW := bw_mk (List.mem_of_getElem? (i := 54) (by decide +kernel)) rfl
theorem mm_28 : Cond.fieldLink RX0 21 "ShrinkBench$Bench" "faultsFound" "LShrinkBench$Faults;" ∈ BW := bw_mk (List.mem_of_getElem? (i := 182) (by decide +kernel)) rfl
theorem mm_29 : Cond.fieldLink RX0 27 "ShrinkBench$Bench" "cover" "[I" ∈ BW := bw_mk (List.mem_of_getElem? (i := 183) (by decide +kernel)) rfl
theorem mm_30 : Cond.fieldLink RX0 31 "ShrinkBench$Bench" "inputsTried" "I" ∈ BW := bw_mk (List.mem_of_getElem? (i := 184) (by decide +kernel)) rfl
theorem mm_31 : Cond.methodLink RX0 11 yX6_init ∈ BW := bw_mk (List.mem_of_getElem? (i := 146) (by decide +kernel)) rfl
theorem mm_32 : Cond.instanceMethod yX3_init ∈ BW := bw_mk (List.mem_of_getElem? (i := 169) (by decide +kernel)) rfl
theorem mm_33 : Cond.code yX0_init cX0_init 1 none ∈ BW := bw_mk (List.mem_of_getElem? (i := 142) (by decide +kernel)) rfl
theorem mm_34 : Cond.code yX0_isDigits cX0_isDigits 1 (some .boolean) ∈ BW := bw_mk (List.mem_of_getElem? (i := 587) (by decide +kernel)) rfl
theorem mm_35 : Cond.code yX0_inputs cX0_inputs 1 (some (.object "ShrinkBench$Shelf")) ∈ BW := bw_mk (List.mem_of_getElem? (i := 389) (by decide +kernel)) rfl
theorem mm_36 : Cond.code yX0_faults cX0_faults 1 (some (.object "ShrinkBench$Faults")) ∈ BW := bw_mk (List.mem_of_getElem? (i := 627) (by decide +kernel)) rfl
theorem mm_37 : Cond.code yX0_tries cX0_tries 1 (some .int) ∈ BW := bw_mk (List.mem_of_getElem? (i := 285) (by decide +kernel)) rfl
theorem mm_38 : Cond.code yX7_isBranch cX7_isBranch 1 (some .boolean) ∈ BW := bw_mk (List.mem_of_getElem? (i := 501) (by decide +kernel)) rfl
theorem mm_39 : Cond.code yX0_covers cX0_covers 3 (some .boolean) ∈ BW := bw_mk (List.mem_of_getElem? (i := 583) (by decide +kernel)) rfl
theorem mm_40 : Cond.methodLink RX0 35 yX7_isBranch ∈ BW := bw_mk (List.mem_of_getElem? (i := 584) (by decide +kernel)) rfl
theorem mm_41 : Cond.static yX7_isBranch ∈ BW := bw_mk (List.mem_of_getElem? (i := 500) (by decide +kernel)) rfl
theorem mm_42 : Cond.initialized RX7 ∈ BW := bw_mk (List.mem_of_getElem? (i := 50) (by decide +kernel)) rfl
theorem mm_43 : Cond.methodLink RX0 39 yX0_isDigits ∈ BW := bw_mk (List.mem_of_getElem? (i := 585) (by decide +kernel)) rfl
theorem mm_44 : Cond.static yX0_isDigits ∈ BW := bw_mk (List.mem_of_getElem? (i := 586) (by decide +kernel)) rfl
theorem mm_45 : Cond.initialized RX0 ∈ BW := bw_mk (List.mem_of_getElem? (i := 51) (by decide +kernel)) rfl
theorem mm_46 : Cond.code yJ6_bitCount_0f7a4 cJ6_bitCount_0f7a4 1 (some .int) ∈ BW := bw_mk (List.mem_of_getElem? (i := 635) (by decide +kernel)) rfl
theorem mm_47 : Cond.constant RJ6 265 (1431655765) ∈ BW := bw_mk (List.mem_of_getElem? (i := 636) (by decide +kernel)) rfl
theorem mm_48 : Cond.constant RJ6 266 (858993459) ∈ BW := bw_mk (List.mem_of_getElem? (i := 637) (by decide +kernel)) rfl
theorem mm_49 : Cond.constant RJ6 267 (252645135) ∈ BW := bw_mk (List.mem_of_getElem? (i := 638) (by decide +kernel)) rfl
theorem mm_50 : Cond.code yX0_reachesCovered cX0_reachesCovered 3 (some .int) ∈ BW := bw_mk (List.mem_of_getElem? (i := 632) (by decide +kernel)) rfl
theorem mm_51 : Cond.methodLink RX0 42 yJ6_bitCount_0f7a4 ∈ BW := bw_mk (List.mem_of_getElem? (i := 633) (by decide +kernel)) rfl
theorem mm_52 : Cond.static yJ6_bitCount_0f7a4 ∈ BW := bw_mk (List.mem_of_getElem? (i := 634) (by decide +kernel)) rfl
theorem mm_53 : Cond.initialized RJ6 ∈ BW := bw_mk (List.mem_of_getElem? (i := 59) (by decide +kernel)) rfl
theorem mm_54 : Cond.code yX0_branchesCovered cX0_branchesCovered 3 (some .int) ∈ BW := bw_mk (List.mem_of_getElem? (i := 642) (by decide +kernel)) rfl
theorem mm_55 : Cond.code yX7_turnsOf cX7_turnsOf 2 (some .int) ∈ BW := bw_mk (List.mem_of_getElem? (i := 563) (by decide +kernel)) rfl
theorem mm_56 : Cond.fieldLink RX7 21 "ShrinkBench$Trace" "taken" "[I" ∈ BW := bw_mk (List.mem_of_getElem? (i := 104) (by decide +kernel)) rfl
theorem mm_57 : Cond.methodLink RX7 50 yX7_isBranch ∈ BW := bw_mk (List.mem_of_getElem? (i := 499) (by decide +kernel)) rfl
theorem mm_58 : Cond.code yX0_digitsOf cX0_digitsOf 3 (some .int) ∈ BW := bw_mk (List.mem_of_getElem? (i := 579) (by decide +kernel)) rfl
theorem mm_59 : Cond.code yX0_reachFurther cX0_reachFurther 5 (some .boolean) ∈ BW := bw_mk (List.mem_of_getElem? (i := 575) (by decide +kernel)) rfl
theorem mm_60 : Cond.methodLink RX0 60 yX7_turnsOf ∈ BW := bw_mk (List.mem_of_getElem? (i := 576) (by decide +kernel)) rfl
theorem mm_61 : Cond.instanceMethod yX7_turnsOf ∈ BW := bw_mk (List.mem_of_getElem? (i := 561) (by decide +kernel)) rfl
theorem mm_62 : Cond.selects RX7 yX7_turnsOf yX7_turnsOf ∈ BW := bw_mk (List.mem_of_getElem? (i := 562) (by decide +kernel)) rfl
theorem mm_63 : Cond.methodLink RX0 63 yX0_digitsOf ∈ BW := bw_mk (List.mem_of_getElem? (i := 577) (by decide +kernel)) rfl
theorem mm_64 : Cond.static yX0_digitsOf ∈ BW := bw_mk (List.mem_of_getElem? (i := 578) (by decide +kernel)) rfl
theorem mm_65 : Cond.methodLink RX0 66 yX0_covers ∈ BW := bw_mk (List.mem_of_getElem? (i := 580) (by decide +kernel)) rfl
theorem mm_66 : Cond.instanceMethod yX0_covers ∈ BW := bw_mk (List.mem_of_getElem? (i := 581) (by decide +kernel)) rfl
theorem mm_67 : Cond.selects RX0 yX0_covers yX0_covers ∈ BW := bw_mk (List.mem_of_getElem? (i := 582) (by decide +kernel)) rfl
theorem mm_68 : Cond.code yX4_size cX4_size 1 (some .int) ∈ BW := bw_mk (List.mem_of_getElem? (i := 353) (by decide +kernel)) rfl
theorem mm_69 : Cond.fieldLink RX4 15 "ShrinkBench$Input" "length" "I" ∈ BW := bw_mk (List.mem_of_getElem? (i := 89) (by decide +kernel)) rfl
theorem mm_70 : Cond.code yX4_get cX4_get 2 (some .int) ∈ BW := bw_mk (List.mem_of_getElem? (i := 373) (by decide +kernel)) rfl
theorem mm_71 : Cond.fieldLink RX4 11 "ShrinkBench$Input" "bytes" "[I" ∈ BW := bw_mk (List.mem_of_getElem? (i := 88) (by decide +kernel)) rfl
theorem mm_72 : Cond.code yX6_append cX6_append 4 (some .boolean) ∈ BW := bw_mk (List.mem_of_getElem? (i := 591) (by decide +kernel)) rfl
theorem mm_73 : Cond.methodLink RX6 31 yX4_size ∈ BW := bw_mk (List.mem_of_getElem? (i := 592) (by decide +kernel)) rfl
theorem mm_74 : Cond.instanceMethod yX4_size ∈ BW := bw_mk (List.mem_of_getElem? (i := 351) (by decide +kernel)) rfl
theorem mm_75 : Cond.selects RX4 yX4_size yX4_size ∈ BW := bw_mk (List.mem_of_getElem? (i := 352) (by decide +kernel)) rfl
theorem mm_76 : Cond.initialized RX4 ∈ BW := bw_mk (List.mem_of_getElem? (i := 49) (by decide +kernel)) rfl
theorem mm_77 : Cond.methodLink RX6 35 yX4_get ∈ BW := bw_mk (List.mem_of_getElem? (i := 593) (by decide +kernel)) rfl
theorem mm_78 : Cond.instanceMethod yX4_get ∈ BW := bw_mk (List.mem_of_getElem? (i := 371) (by decide +kernel)) rfl
theorem mm_79 : Cond.selects RX4 yX4_get yX4_get ∈ BW := bw_mk (List.mem_of_getElem? (i := 372) (by decide +kernel)) rfl
theorem mm_80 : Cond.code yX7_kind cX7_kind 1 (some .int) ∈ BW := bw_mk (List.mem_of_getElem? (i := 521) (by decide +kernel)) rfl
theorem mm_81 : Cond.fieldLink RX7 28 "ShrinkBench$Trace" "verdict" "I" ∈ BW := bw_mk (List.mem_of_getElem? (i := 106) (by decide +kernel)) rfl
theorem mm_82 : Cond.code yX6_size cX6_size 1 (some .int) ∈ BW := bw_mk (List.mem_of_getElem? (i := 422) (by decide +kernel)) rfl
theorem mm_83 : Cond.code yX3_size cX3_size 1 (some .int) ∈ BW := bw_mk (List.mem_of_getElem? (i := 602) (by decide +kernel)) rfl
theorem mm_84 : Cond.methodLink RX3 24 yX6_size ∈ BW := bw_mk (List.mem_of_getElem? (i := 603) (by decide +kernel)) rfl
theorem mm_85 : Cond.instanceMethod yX6_size ∈ BW := bw_mk (List.mem_of_getElem? (i := 420) (by decide +kernel)) rfl
theorem mm_86 : Cond.selects RX6 yX6_size yX6_size ∈ BW := bw_mk (List.mem_of_getElem? (i := 421) (by decide +kernel)) rfl
theorem mm_87 : Cond.code yX3_has cX3_has 2 (some .boolean) ∈ BW := bw_mk (List.mem_of_getElem? (i := 611) (by decide +kernel)) rfl
theorem mm_88 : Cond.code yX7_place cX7_place 1 (some .int) ∈ BW := bw_mk (List.mem_of_getElem? (i := 529) (by decide +kernel)) rfl
theorem mm_89 : Cond.fieldLink RX7 31 "ShrinkBench$Trace" "failedAt" "I" ∈ BW := bw_mk (List.mem_of_getElem? (i := 107) (by decide +kernel)) rfl
theorem mm_90 : Cond.code yX7_openCall cX7_openCall 2 (some .int) ∈ BW := bw_mk (List.mem_of_getElem? (i := 513) (by decide +kernel)) rfl
theorem mm_91 : Cond.fieldLink RX7 24 "ShrinkBench$Trace" "openCalls" "I" ∈ BW := bw_mk (List.mem_of_getElem? (i := 105) (by decide +kernel)) rfl
theorem mm_92 : Cond.fieldLink RX7 18 "ShrinkBench$Trace" "calls" "[I" ∈ BW := bw_mk (List.mem_of_getElem? (i := 103) (by decide +kernel)) rfl
theorem mm_93 : Cond.methodLink RX3 28 yX3_has ∈ BW := bw_mk (List.mem_of_getElem? (i := 608) (by decide +kernel)) rfl
theorem mm_94 : Cond.instanceMethod yX3_has ∈ BW := bw_mk (List.mem_of_getElem? (i := 609) (by decide +kernel)) rfl
theorem mm_95 : Cond.selects RX3 yX3_has yX3_has ∈ BW := bw_mk (List.mem_of_getElem? (i := 610) (by decide +kernel)) rfl
theorem mm_96 : Cond.methodLink RX3 32 yX7_kind ∈ BW := bw_mk (List.mem_of_getElem? (i := 598) (by decide +kernel)) rfl
theorem mm_97 : Cond.instanceMethod yX7_kind ∈ BW := bw_mk (List.mem_of_getElem? (i := 519) (by decide +kernel)) rfl
theorem mm_98 : Cond.selects RX7 yX7_kind yX7_kind ∈ BW := bw_mk (List.mem_of_getElem? (i := 520) (by decide +kernel)) rfl
theorem mm_99 : Cond.methodLink RX3 37 yX7_place ∈ BW := bw_mk (List.mem_of_getElem? (i := 612) (by decide +kernel)) rfl
theorem mm_100 : Cond.instanceMethod yX7_place ∈ BW := bw_mk (List.mem_of_getElem? (i := 527) (by decide +kernel)) rfl
theorem mm_101 : Cond.selects RX7 yX7_place yX7_place ∈ BW := bw_mk (List.mem_of_getElem? (i := 528) (by decide +kernel)) rfl
theorem mm_102 : Cond.methodLink RX3 40 yX7_openCall ∈ BW := bw_mk (List.mem_of_getElem? (i := 613) (by decide +kernel)) rfl
theorem mm_103 : Cond.instanceMethod yX7_openCall ∈ BW := bw_mk (List.mem_of_getElem? (i := 511) (by decide +kernel)) rfl
theorem mm_104 : Cond.selects RX7 yX7_openCall yX7_openCall ∈ BW := bw_mk (List.mem_of_getElem? (i := 512) (by decide +kernel)) rfl
theorem mm_105 : Cond.code yX3_matches cX3_matches 4 (some .boolean) ∈ BW := bw_mk (List.mem_of_getElem? (i := 607) (by decide +kernel)) rfl
theorem mm_106 : Cond.methodLink RX3 44 yX3_size ∈ BW := bw_mk (List.mem_of_getElem? (i := 599) (by decide +kernel)) rfl
theorem mm_107 : Cond.instanceMethod yX3_size ∈ BW := bw_mk (List.mem_of_getElem? (i := 600) (by decide +kernel)) rfl
theorem mm_108 : Cond.selects RX3 yX3_size yX3_size ∈ BW := bw_mk (List.mem_of_getElem? (i := 601) (by decide +kernel)) rfl
theorem mm_109 : Cond.methodLink RX3 53 yX6_append ∈ BW := bw_mk (List.mem_of_getElem? (i := 618) (by decide +kernel)) rfl
theorem mm_110 : Cond.instanceMethod yX6_append ∈ BW := bw_mk (List.mem_of_getElem? (i := 589) (by decide +kernel)) rfl
theorem mm_111 : Cond.selects RX6 yX6_append yX6_append ∈ BW := bw_mk (List.mem_of_getElem? (i := 590) (by decide +kernel)) rfl
theorem mm_112 : Cond.code yX3_append cX3_append 5 (some .boolean) ∈ BW := bw_mk (List.mem_of_getElem? (i := 617) (by decide +kernel)) rfl
theorem mm_113 : Cond.methodLink RX3 45 yX3_matches ∈ BW := bw_mk (List.mem_of_getElem? (i := 604) (by decide +kernel)) rfl
theorem mm_114 : Cond.instanceMethod yX3_matches ∈ BW := bw_mk (List.mem_of_getElem? (i := 605) (by decide +kernel)) rfl
theorem mm_115 : Cond.selects RX3 yX3_matches yX3_matches ∈ BW := bw_mk (List.mem_of_getElem? (i := 606) (by decide +kernel)) rfl
theorem mm_116 : Cond.methodLink RX3 49 yX3_append ∈ BW := bw_mk (List.mem_of_getElem? (i := 614) (by decide +kernel)) rfl
theorem mm_117 : Cond.instanceMethod yX3_append ∈ BW := bw_mk (List.mem_of_getElem? (i := 616) (by decide +kernel)) rfl
theorem mm_118 : Cond.selects RX3 yX3_append yX3_append ∈ BW := bw_mk (List.mem_of_getElem? (i := 16) (by decide +kernel)) rfl
theorem mm_119 : Cond.code yX3_take cX3_take 4 (some .boolean) ∈ BW := bw_mk (List.mem_of_getElem? (i := 597) (by decide +kernel)) rfl
theorem mm_120 : Cond.methodLink RX0 48 yX0_reachFurther ∈ BW := bw_mk (List.mem_of_getElem? (i := 572) (by decide +kernel)) rfl
theorem mm_121 : Cond.instanceMethod yX0_reachFurther ∈ BW := bw_mk (List.mem_of_getElem? (i := 574) (by decide +kernel)) rfl
theorem mm_122 : Cond.selects RX0 yX0_reachFurther yX0_reachFurther ∈ BW := bw_mk (List.mem_of_getElem? (i := 15) (by decide +kernel)) rfl
theorem mm_123 : Cond.methodLink RX0 52 yX6_append ∈ BW := bw_mk (List.mem_of_getElem? (i := 588) (by decide +kernel)) rfl
theorem mm_124 : Cond.methodLink RX0 56 yX3_take ∈ BW := bw_mk (List.mem_of_getElem? (i := 594) (by decide +kernel)) rfl
theorem mm_125 : Cond.instanceMethod yX3_take ∈ BW := bw_mk (List.mem_of_getElem? (i := 595) (by decide +kernel)) rfl
theorem mm_126 : Cond.selects RX3 yX3_take yX3_take ∈ BW := bw_mk (List.mem_of_getElem? (i := 596) (by decide +kernel)) rfl
theorem mm_127 : Cond.code yX0_take cX0_take 4 (some .int) ∈ BW := bw_mk (List.mem_of_getElem? (i := 571) (by decide +kernel)) rfl
theorem mm_128 : Cond.code yX6_clear cX6_clear 1 none ∈ BW := bw_mk (List.mem_of_getElem? (i := 309) (by decide +kernel)) rfl
theorem mm_129 : Cond.code yX3_clear cX3_clear 1 none ∈ BW := bw_mk (List.mem_of_getElem? (i := 313) (by decide +kernel)) rfl
theorem mm_130 : Cond.methodLink RX3 56 yX6_clear ∈ BW := bw_mk (List.mem_of_getElem? (i := 314) (by decide +kernel)) rfl
theorem mm_131 : Cond.instanceMethod yX6_clear ∈ BW := bw_mk (List.mem_of_getElem? (i := 307) (by decide +kernel)) rfl
theorem mm_132 : Cond.selects RX6 yX6_clear yX6_clear ∈ BW := bw_mk (List.mem_of_getElem? (i := 308) (by decide +kernel)) rfl
theorem mm_133 : Cond.code yJ7_fill_53178 cJ7_fill_53178 4 none ∈ BW := bw_mk (List.mem_of_getElem? (i := 317) (by decide +kernel)) rfl
theorem mm_134 : Cond.code yX0_clear cX0_clear 1 none ∈ BW := bw_mk (List.mem_of_getElem? (i := 305) (by decide +kernel)) rfl
theorem mm_135 : Cond.methodLink RX0 70 yX6_clear ∈ BW := bw_mk (List.mem_of_getElem? (i := 306) (by decide +kernel)) rfl
theorem mm_136 : Cond.methodLink RX0 73 yX3_clear ∈ BW := bw_mk (List.mem_of_getElem? (i := 310) (by decide +kernel)) rfl
theorem mm_137 : Cond.instanceMethod yX3_clear ∈ BW := bw_mk (List.mem_of_getElem? (i := 311) (by decide +kernel)) rfl
theorem mm_138 : Cond.selects RX3 yX3_clear yX3_clear ∈ BW := bw_mk (List.mem_of_getElem? (i := 312) (by decide +kernel)) rfl
theorem mm_139 : Cond.methodLink RX0 74 yJ7_fill_53178 ∈ BW := bw_mk (List.mem_of_getElem? (i := 315) (by decide +kernel)) rfl
theorem mm_140 : Cond.static yJ7_fill_53178 ∈ BW := bw_mk (List.mem_of_getElem? (i := 316) (by decide +kernel)) rfl
theorem mm_141 : Cond.initialized RJ7 ∈ BW := bw_mk (List.mem_of_getElem? (i := 58) (by decide +kernel)) rfl
theorem mm_142 : Cond.code yX4_init cX4_init 1 none ∈ BW := bw_mk (List.mem_of_getElem? (i := 86) (by decide +kernel)) rfl
theorem mm_143 : Cond.methodLink RX4 3 objectInit ∈ BW := bw_mk (List.mem_of_getElem? (i := 87) (by decide +kernel)) rfl
theorem mm_144 : Cond.code yX1_init cX1_init 1 none ∈ BW := bw_mk (List.mem_of_getElem? (i := 198) (by decide +kernel)) rfl
theorem mm_145 : Cond.methodLink RX1 1 objectInit ∈ BW := bw_mk (List.mem_of_getElem? (i := 199) (by decide +kernel)) rfl
theorem mm_146 : Cond.classLink RX1 7 RX4 ∈ BW := bw_mk (List.mem_of_getElem? (i := 200) (by decide +kernel)) rfl
theorem mm_147 : Cond.instantiable RX4 2 ∈ BW := bw_mk (List.mem_of_getElem? (i := 83) (by decide +kernel)) rfl
theorem mm_148 : Cond.fieldLink RX1 10 "ShrinkBench$Changer" "made" "LShrinkBench$Input;" ∈ BW := bw_mk (List.mem_of_getElem? (i := 202) (by decide +kernel)) rfl
theorem mm_149 : Cond.fieldLink RX1 16 "ShrinkBench$Changer" "mate" "LShrinkBench$Input;" ∈ BW := bw_mk (List.mem_of_getElem? (i := 203) (by decide +kernel)) rfl
theorem mm_150 : Cond.instanceMethod yX4_init ∈ BW := bw_mk (List.mem_of_getElem? (i := 85) (by decide +kernel)) rfl
theorem mm_151 : Cond.code yX4_shorten cX4_shorten 2 none ∈ BW := bw_mk (List.mem_of_getElem? (i := 361) (by decide +kernel)) rfl
theorem mm_152 : Cond.code yX4_has cX4_has 2 (some .boolean) ∈ BW := bw_mk (List.mem_of_getElem? (i := 369) (by decide +kernel)) rfl
theorem mm_153 : Cond.code yX4_append cX4_append 2 (some .boolean) ∈ BW := bw_mk (List.mem_of_getElem? (i := 349) (by decide +kernel)) rfl
theorem mm_154 : Cond.code yX4_appendPart cX4_appendPart 5 none ∈ BW := bw_mk (List.mem_of_getElem? (i := 404) (by decide +kernel)) rfl
theorem mm_155 : Cond.methodLink RX4 19 yX4_has ∈ BW := bw_mk (List.mem_of_getElem? (i := 405) (by decide +kernel)) rfl
theorem mm_156 : Cond.instanceMethod yX4_has ∈ BW := bw_mk (List.mem_of_getElem? (i := 367) (by decide +kernel)) rfl
theorem mm_157 : Cond.selects RX4 yX4_has yX4_has ∈ BW := bw_mk (List.mem_of_getElem? (i := 368) (by decide +kernel)) rfl
theorem mm_158 : Cond.methodLink RX4 23 yX4_get ∈ BW := bw_mk (List.mem_of_getElem? (i := 406) (by decide +kernel)) rfl
theorem mm_159 : Cond.methodLink RX4 27 yX4_append ∈ BW := bw_mk (List.mem_of_getElem? (i := 407) (by decide +kernel)) rfl
theorem mm_160 : Cond.instanceMethod yX4_append ∈ BW := bw_mk (List.mem_of_getElem? (i := 347) (by decide +kernel)) rfl
theorem mm_161 : Cond.selects RX4 yX4_append yX4_append ∈ BW := bw_mk (List.mem_of_getElem? (i := 348) (by decide +kernel)) rfl
theorem mm_162 : Cond.code yX4_copy cX4_copy 2 none ∈ BW := bw_mk (List.mem_of_getElem? (i := 412) (by decide +kernel)) rfl
theorem mm_163 : Cond.methodLink RX4 30 yX4_shorten ∈ BW := bw_mk (List.mem_of_getElem? (i := 413) (by decide +kernel)) rfl
theorem mm_164 : Cond.instanceMethod yX4_shorten ∈ BW := bw_mk (List.mem_of_getElem? (i := 359) (by decide +kernel)) rfl
theorem mm_165 : Cond.selects RX4 yX4_shorten yX4_shorten ∈ BW := bw_mk (List.mem_of_getElem? (i := 360) (by decide +kernel)) rfl
theorem mm_166 : Cond.methodLink RX4 34 yX4_appendPart ∈ BW := bw_mk (List.mem_of_getElem? (i := 414) (by decide +kernel)) rfl
theorem mm_167 : Cond.instanceMethod yX4_appendPart ∈ BW := bw_mk (List.mem_of_getElem? (i := 402) (by decide +kernel)) rfl
theorem mm_168 : Cond.selects RX4 yX4_appendPart yX4_appendPart ∈ BW := bw_mk (List.mem_of_getElem? (i := 403) (by decide +kernel)) rfl
theorem mm_169 : Cond.methodLink RX1 41 yX4_shorten ∈ BW := bw_mk (List.mem_of_getElem? (i := 400) (by decide +kernel)) rfl
theorem mm_170 : Cond.methodLink RX1 45 yX4_appendPart ∈ BW := bw_mk (List.mem_of_getElem? (i := 401) (by decide +kernel)) rfl
theorem mm_171 : Cond.methodLink RX1 48 yX4_append ∈ BW := bw_mk (List.mem_of_getElem? (i := 408) (by decide +kernel)) rfl
theorem mm_172 : Cond.methodLink RX1 52 yX4_copy ∈ BW := bw_mk (List.mem_of_getElem? (i := 409) (by decide +kernel)) rfl
theorem mm_173 : Cond.instanceMethod yX4_copy ∈ BW := bw_mk (List.mem_of_getElem? (i := 410) (by decide +kernel)) rfl
theorem mm_174 : Cond.selects RX4 yX4_copy yX4_copy ∈ BW := bw_mk (List.mem_of_getElem? (i := 411) (by decide +kernel)) rfl
theorem mm_175 : Cond.code yX1_insert cX1_insert 4 none ∈ BW := bw_mk (List.mem_of_getElem? (i := 399) (by decide +kernel)) rfl
theorem mm_176 : Cond.code yX6_has cX6_has 2 (some .boolean) ∈ BW := bw_mk (List.mem_of_getElem? (i := 430) (by decide +kernel)) rfl
theorem mm_177 : Cond.code yX6_copyTo cX6_copyTo 5 none ∈ BW := bw_mk (List.mem_of_getElem? (i := 426) (by decide +kernel)) rfl
theorem mm_178 : Cond.methodLink RX6 39 yX6_has ∈ BW := bw_mk (List.mem_of_getElem? (i := 427) (by decide +kernel)) rfl
theorem mm_179 : Cond.instanceMethod yX6_has ∈ BW := bw_mk (List.mem_of_getElem? (i := 428) (by decide +kernel)) rfl
theorem mm_180 : Cond.selects RX6 yX6_has yX6_has ∈ BW := bw_mk (List.mem_of_getElem? (i := 429) (by decide +kernel)) rfl
theorem mm_181 : Cond.methodLink RX6 43 yX4_shorten ∈ BW := bw_mk (List.mem_of_getElem? (i := 431) (by decide +kernel)) rfl
theorem mm_182 : Cond.methodLink RX6 47 yX4_append ∈ BW := bw_mk (List.mem_of_getElem? (i := 432) (by decide +kernel)) rfl
theorem mm_183 : Cond.methodLink RX1 56 yX6_size ∈ BW := bw_mk (List.mem_of_getElem? (i := 419) (by decide +kernel)) rfl
theorem mm_184 : Cond.methodLink RX1 59 yX6_copyTo ∈ BW := bw_mk (List.mem_of_getElem? (i := 423) (by decide +kernel)) rfl
theorem mm_185 : Cond.instanceMethod yX6_copyTo ∈ BW := bw_mk (List.mem_of_getElem? (i := 424) (by decide +kernel)) rfl
theorem mm_186 : Cond.selects RX6 yX6_copyTo yX6_copyTo ∈ BW := bw_mk (List.mem_of_getElem? (i := 425) (by decide +kernel)) rfl
theorem mm_187 : Cond.code yX1_cross cX1_cross 5 none ∈ BW := bw_mk (List.mem_of_getElem? (i := 418) (by decide +kernel)) rfl
theorem mm_188 : Cond.code yX4_put cX4_put 3 none ∈ BW := bw_mk (List.mem_of_getElem? (i := 441) (by decide +kernel)) rfl
theorem mm_189 : Cond.code yX4_copyParts cX4_copyParts 4 none ∈ BW := bw_mk (List.mem_of_getElem? (i := 445) (by decide +kernel)) rfl
theorem mm_190 : Cond.methodLink RX1 63 yX4_get ∈ BW := bw_mk (List.mem_of_getElem? (i := 437) (by decide +kernel)) rfl
theorem mm_191 : Cond.methodLink RX1 67 yX4_put ∈ BW := bw_mk (List.mem_of_getElem? (i := 438) (by decide +kernel)) rfl
theorem mm_192 : Cond.instanceMethod yX4_put ∈ BW := bw_mk (List.mem_of_getElem? (i := 439) (by decide +kernel)) rfl
theorem mm_193 : Cond.selects RX4 yX4_put yX4_put ∈ BW := bw_mk (List.mem_of_getElem? (i := 440) (by decide +kernel)) rfl
theorem mm_194 : Cond.methodLink RX1 71 yX4_copyParts ∈ BW := bw_mk (List.mem_of_getElem? (i := 442) (by decide +kernel)) rfl
theorem mm_195 : Cond.instanceMethod yX4_copyParts ∈ BW := bw_mk (List.mem_of_getElem? (i := 443) (by decide +kernel)) rfl
theorem mm_196 : Cond.selects RX4 yX4_copyParts yX4_copyParts ∈ BW := bw_mk (List.mem_of_getElem? (i := 444) (by decide +kernel)) rfl
theorem mm_197 : Cond.code yX1_changeAt cX1_changeAt 7 none ∈ BW := bw_mk (List.mem_of_getElem? (i := 436) (by decide +kernel)) rfl
theorem mm_198 : Cond.methodLink RX1 23 Lib.Math.max.name ∈ BW := bw_mk (List.mem_of_getElem? (i := 395) (by decide +kernel)) rfl
theorem mm_199 : Cond.methodLink RX1 19 yX4_size ∈ BW := bw_mk (List.mem_of_getElem? (i := 394) (by decide +kernel)) rfl
theorem mm_200 : Cond.methodLink RX1 29 yX1_insert ∈ BW := bw_mk (List.mem_of_getElem? (i := 396) (by decide +kernel)) rfl
theorem mm_201 : Cond.instanceMethod yX1_insert ∈ BW := bw_mk (List.mem_of_getElem? (i := 398) (by decide +kernel)) rfl
theorem mm_202 : Cond.selects RX1 yX1_insert yX1_insert ∈ BW := bw_mk (List.mem_of_getElem? (i := 1) (by decide +kernel)) rfl
theorem mm_203 : Cond.initialized RX1 ∈ BW := bw_mk (List.mem_of_getElem? (i := 55) (by decide +kernel)) rfl
theorem mm_204 : Cond.methodLink RX1 33 yX1_cross ∈ BW := bw_mk (List.mem_of_getElem? (i := 415) (by decide +kernel)) rfl
theorem mm_205 : Cond.instanceMethod yX1_cross ∈ BW := bw_mk (List.mem_of_getElem? (i := 417) (by decide +kernel)) rfl
theorem mm_206 : Cond.selects RX1 yX1_cross yX1_cross ∈ BW := bw_mk (List.mem_of_getElem? (i := 2) (by decide +kernel)) rfl
theorem mm_207 : Cond.methodLink RX1 37 yX1_changeAt ∈ BW := bw_mk (List.mem_of_getElem? (i := 433) (by decide +kernel)) rfl
theorem mm_208 : Cond.instanceMethod yX1_changeAt ∈ BW := bw_mk (List.mem_of_getElem? (i := 435) (by decide +kernel)) rfl
theorem mm_209 : Cond.selects RX1 yX1_changeAt yX1_changeAt ∈ BW := bw_mk (List.mem_of_getElem? (i := 3) (by decide +kernel)) rfl
theorem mm_210 : Cond.code yX1_apply cX1_apply 7 none ∈ BW := bw_mk (List.mem_of_getElem? (i := 393) (by decide +kernel)) rfl
theorem mm_211 : Cond.code yX7_init cX7_init 1 none ∈ BW := bw_mk (List.mem_of_getElem? (i := 99) (by decide +kernel)) rfl
theorem mm_212 : Cond.methodLink RX7 3 objectInit ∈ BW := bw_mk (List.mem_of_getElem? (i := 100) (by decide +kernel)) rfl
theorem mm_213 : Cond.fieldLink RX7 11 "ShrinkBench$Trace" "registers" "[I" ∈ BW := bw_mk (List.mem_of_getElem? (i := 101) (by decide +kernel)) rfl
theorem mm_214 : Cond.fieldLink RX7 15 "ShrinkBench$Trace" "row" "[I" ∈ BW := bw_mk (List.mem_of_getElem? (i := 102) (by decide +kernel)) rfl
theorem mm_215 : Cond.fieldLink RX7 34 "ShrinkBench$Trace" "stepsDone" "I" ∈ BW := bw_mk (List.mem_of_getElem? (i := 108) (by decide +kernel)) rfl
theorem mm_216 : Cond.fieldLink RX7 37 "ShrinkBench$Trace" "bytesRead" "I" ∈ BW := bw_mk (List.mem_of_getElem? (i := 109) (by decide +kernel)) rfl
theorem mm_217 : Cond.fieldLink RX7 40 "ShrinkBench$Trace" "here" "I" ∈ BW := bw_mk (List.mem_of_getElem? (i := 110) (by decide +kernel)) rfl
theorem mm_218 : Cond.fieldLink RX7 43 "ShrinkBench$Trace" "next" "I" ∈ BW := bw_mk (List.mem_of_getElem? (i := 111) (by decide +kernel)) rfl
theorem mm_219 : Cond.fieldLink RX7 46 "ShrinkBench$Trace" "going" "Z" ∈ BW := bw_mk (List.mem_of_getElem? (i := 112) (by decide +kernel)) rfl
theorem mm_220 : Cond.methodLink RX2 1 objectInit ∈ BW := bw_mk (List.mem_of_getElem? (i := 214) (by decide +kernel)) rfl
theorem mm_221 : Cond.classLink RX2 7 RX4 ∈ BW := bw_mk (List.mem_of_getElem? (i := 215) (by decide +kernel)) rfl
theorem mm_222 : Cond.fieldLink RX2 10 "ShrinkBench$Cutter" "now" "LShrinkBench$Input;" ∈ BW := bw_mk (List.mem_of_getElem? (i := 219) (by decide +kernel)) rfl
theorem mm_223 : Cond.fieldLink RX2 16 "ShrinkBench$Cutter" "trial" "LShrinkBench$Input;" ∈ BW := bw_mk (List.mem_of_getElem? (i := 220) (by decide +kernel)) rfl
theorem mm_224 : Cond.classLink RX2 19 RX7 ∈ BW := bw_mk (List.mem_of_getElem? (i := 217) (by decide +kernel)) rfl
theorem mm_225 : Cond.instantiable RX7 12 ∈ BW := bw_mk (List.mem_of_getElem? (i := 96) (by decide +kernel)) rfl
theorem mm_226 : Cond.fieldLink RX2 22 "ShrinkBench$Cutter" "trace" "LShrinkBench$Trace;" ∈ BW := bw_mk (List.mem_of_getElem? (i := 221) (by decide +kernel)) rfl
theorem mm_227 : Cond.fieldLink RX2 26 "ShrinkBench$Cutter" "many" "I" ∈ BW := bw_mk (List.mem_of_getElem? (i := 222) (by decide +kernel)) rfl
theorem mm_228 : Cond.instanceMethod yX7_init ∈ BW := bw_mk (List.mem_of_getElem? (i := 98) (by decide +kernel)) rfl
theorem mm_229 : Cond.code yX2_init cX2_init 1 none ∈ BW := bw_mk (List.mem_of_getElem? (i := 213) (by decide +kernel)) rfl
theorem mm_230 : Cond.code yX2_result cX2_result 1 (some (.object "ShrinkBench$Input")) ∈ BW := bw_mk (List.mem_of_getElem? (i := 712) (by decide +kernel)) rfl
theorem mm_231 : Cond.code yX2_runsMade cX2_runsMade 1 (some .int) ∈ BW := bw_mk (List.mem_of_getElem? (i := 721) (by decide +kernel)) rfl
theorem mm_232 : Cond.code yX3_firsts cX3_firsts 1 (some (.object "ShrinkBench$Shelf")) ∈ BW := bw_mk (List.mem_of_getElem? (i := 675) (by decide +kernel)) rfl
theorem mm_233 : Cond.code yX7_reset cX7_reset 1 none ∈ BW := bw_mk (List.mem_of_getElem? (i := 457) (by decide +kernel)) rfl
theorem mm_234 : Cond.methodLink RX7 96 yJ7_fill_53178 ∈ BW := bw_mk (List.mem_of_getElem? (i := 458) (by decide +kernel)) rfl
theorem mm_235 : Cond.code yX5_has cX5_has 2 (some .boolean) ∈ BW := bw_mk (List.mem_of_getElem? (i := 325) (by decide +kernel)) rfl
theorem mm_236 : Cond.fieldLink RX5 15 "ShrinkBench$Program" "many" "I" ∈ BW := bw_mk (List.mem_of_getElem? (i := 75) (by decide +kernel)) rfl
theorem mm_237 : Cond.code yX7_isOn cX7_isOn 2 (some .boolean) ∈ BW := bw_mk (List.mem_of_getElem? (i := 462) (by decide +kernel)) rfl
theorem mm_238 : Cond.methodLink RX7 102 yX5_has ∈ BW := bw_mk (List.mem_of_getElem? (i := 463) (by decide +kernel)) rfl
theorem mm_239 : Cond.instanceMethod yX5_has ∈ BW := bw_mk (List.mem_of_getElem? (i := 323) (by decide +kernel)) rfl
theorem mm_240 : Cond.selects RX5 yX5_has yX5_has ∈ BW := bw_mk (List.mem_of_getElem? (i := 324) (by decide +kernel)) rfl
theorem mm_241 : Cond.initialized RX5 ∈ BW := bw_mk (List.mem_of_getElem? (i := 48) (by decide +kernel)) rfl
theorem mm_242 : Cond.code yX5_isPart cX5_isPart 1 (some .boolean) ∈ BW := bw_mk (List.mem_of_getElem? (i := 328) (by decide +kernel)) rfl
theorem mm_243 : Cond.code yX5_part cX5_part 3 (some .int) ∈ BW := bw_mk (List.mem_of_getElem? (i := 332) (by decide +kernel)) rfl
theorem mm_244 : Cond.fieldLink RX5 11 "ShrinkBench$Program" "rows" "[I" ∈ BW := bw_mk (List.mem_of_getElem? (i := 74) (by decide +kernel)) rfl
theorem mm_245 : Cond.methodLink RX5 35 yX5_has ∈ BW := bw_mk (List.mem_of_getElem? (i := 333) (by decide +kernel)) rfl
theorem mm_246 : Cond.methodLink RX5 38 yX5_isPart ∈ BW := bw_mk (List.mem_of_getElem? (i := 334) (by decide +kernel)) rfl
theorem mm_247 : Cond.static yX5_isPart ∈ BW := bw_mk (List.mem_of_getElem? (i := 327) (by decide +kernel)) rfl
theorem mm_248 : Cond.code yX7_value cX7_value 2 (some .int) ∈ BW := bw_mk (List.mem_of_getElem? (i := 472) (by decide +kernel)) rfl
theorem mm_249 : Cond.code yX7_put cX7_put 3 none ∈ BW := bw_mk (List.mem_of_getElem? (i := 476) (by decide +kernel)) rfl
theorem mm_250 : Cond.code yX7_fail cX7_fail 2 none ∈ BW := bw_mk (List.mem_of_getElem? (i := 480) (by decide +kernel)) rfl
theorem mm_251 : Cond.code yX7_reckon cX7_reckon 6 none ∈ BW := bw_mk (List.mem_of_getElem? (i := 468) (by decide +kernel)) rfl
theorem mm_252 : Cond.methodLink RX7 105 yX7_value ∈ BW := bw_mk (List.mem_of_getElem? (i := 469) (by decide +kernel)) rfl
theorem mm_253 : Cond.instanceMethod yX7_value ∈ BW := bw_mk (List.mem_of_getElem? (i := 470) (by decide +kernel)) rfl
theorem mm_254 : Cond.selects RX7 yX7_value yX7_value ∈ BW := bw_mk (List.mem_of_getElem? (i := 471) (by decide +kernel)) rfl
theorem mm_255 : Cond.methodLink RX7 109 yX7_put ∈ BW := bw_mk (List.mem_of_getElem? (i := 473) (by decide +kernel)) rfl
theorem mm_256 : Cond.instanceMethod yX7_put ∈ BW := bw_mk (List.mem_of_getElem? (i := 475) (by decide +kernel)) rfl
theorem mm_257 : Cond.selects RX7 yX7_put yX7_put ∈ BW := bw_mk (List.mem_of_getElem? (i := 7) (by decide +kernel)) rfl
theorem mm_258 : Cond.methodLink RX7 93 yX7_fail ∈ BW := bw_mk (List.mem_of_getElem? (i := 477) (by decide +kernel)) rfl
theorem mm_259 : Cond.instanceMethod yX7_fail ∈ BW := bw_mk (List.mem_of_getElem? (i := 479) (by decide +kernel)) rfl
theorem mm_260 : Cond.selects RX7 yX7_fail yX7_fail ∈ BW := bw_mk (List.mem_of_getElem? (i := 8) (by decide +kernel)) rfl
theorem mm_261 : Cond.methodLink RX7 112 yX4_has ∈ BW := bw_mk (List.mem_of_getElem? (i := 485) (by decide +kernel)) rfl
theorem mm_262 : Cond.methodLink RX7 115 yX4_get ∈ BW := bw_mk (List.mem_of_getElem? (i := 486) (by decide +kernel)) rfl
theorem mm_263 : Cond.methodLink RX7 118 yX4_size ∈ BW := bw_mk (List.mem_of_getElem? (i := 487) (by decide +kernel)) rfl
theorem mm_264 : Cond.code yX7_readInput cX7_readInput 5 none ∈ BW := bw_mk (List.mem_of_getElem? (i := 484) (by decide +kernel)) rfl
theorem mm_265 : Cond.code yX7_isInRow cX7_isInRow 1 (some .boolean) ∈ BW := bw_mk (List.mem_of_getElem? (i := 494) (by decide +kernel)) rfl
theorem mm_266 : Cond.code yX7_useRow cX7_useRow 5 none ∈ BW := bw_mk (List.mem_of_getElem? (i := 491) (by decide +kernel)) rfl
theorem mm_267 : Cond.methodLink RX7 122 yX7_isInRow ∈ BW := bw_mk (List.mem_of_getElem? (i := 492) (by decide +kernel)) rfl
theorem mm_268 : Cond.static yX7_isInRow ∈ BW := bw_mk (List.mem_of_getElem? (i := 493) (by decide +kernel)) rfl
theorem mm_269 : Cond.code yX7_jump cX7_jump 7 none ∈ BW := bw_mk (List.mem_of_getElem? (i := 498) (by decide +kernel)) rfl
theorem mm_270 : Cond.code yX7_openCallTo cX7_openCallTo 2 none ∈ BW := bw_mk (List.mem_of_getElem? (i := 505) (by decide +kernel)) rfl
theorem mm_271 : Cond.code yX7_goBack cX7_goBack 2 none ∈ BW := bw_mk (List.mem_of_getElem? (i := 509) (by decide +kernel)) rfl
theorem mm_272 : Cond.methodLink RX7 125 yX7_openCall ∈ BW := bw_mk (List.mem_of_getElem? (i := 510) (by decide +kernel)) rfl
theorem mm_273 : Cond.code yX7_checkOrEnd cX7_checkOrEnd 3 none ∈ BW := bw_mk (List.mem_of_getElem? (i := 517) (by decide +kernel)) rfl
theorem mm_274 : Cond.methodLink RX7 54 yX7_reset ∈ BW := bw_mk (List.mem_of_getElem? (i := 454) (by decide +kernel)) rfl
theorem mm_275 : Cond.instanceMethod yX7_reset ∈ BW := bw_mk (List.mem_of_getElem? (i := 456) (by decide +kernel)) rfl
theorem mm_276 : Cond.selects RX7 yX7_reset yX7_reset ∈ BW := bw_mk (List.mem_of_getElem? (i := 4) (by decide +kernel)) rfl
theorem mm_277 : Cond.methodLink RX7 57 yX7_isOn ∈ BW := bw_mk (List.mem_of_getElem? (i := 459) (by decide +kernel)) rfl
theorem mm_278 : Cond.instanceMethod yX7_isOn ∈ BW := bw_mk (List.mem_of_getElem? (i := 461) (by decide +kernel)) rfl
theorem mm_279 : Cond.selects RX7 yX7_isOn yX7_isOn ∈ BW := bw_mk (List.mem_of_getElem? (i := 5) (by decide +kernel)) rfl
theorem mm_280 : Cond.methodLink RX7 63 yX5_part ∈ BW := bw_mk (List.mem_of_getElem? (i := 464) (by decide +kernel)) rfl
theorem mm_281 : Cond.instanceMethod yX5_part ∈ BW := bw_mk (List.mem_of_getElem? (i := 330) (by decide +kernel)) rfl
theorem mm_282 : Cond.selects RX5 yX5_part yX5_part ∈ BW := bw_mk (List.mem_of_getElem? (i := 331) (by decide +kernel)) rfl
theorem mm_283 : Cond.methodLink RX7 67 yX7_reckon ∈ BW := bw_mk (List.mem_of_getElem? (i := 465) (by decide +kernel)) rfl
theorem mm_284 : Cond.instanceMethod yX7_reckon ∈ BW := bw_mk (List.mem_of_getElem? (i := 467) (by decide +kernel)) rfl
theorem mm_285 : Cond.selects RX7 yX7_reckon yX7_reckon ∈ BW := bw_mk (List.mem_of_getElem? (i := 6) (by decide +kernel)) rfl
theorem mm_286 : Cond.methodLink RX7 71 yX7_readInput ∈ BW := bw_mk (List.mem_of_getElem? (i := 481) (by decide +kernel)) rfl
theorem mm_287 : Cond.instanceMethod yX7_readInput ∈ BW := bw_mk (List.mem_of_getElem? (i := 483) (by decide +kernel)) rfl
theorem mm_288 : Cond.selects RX7 yX7_readInput yX7_readInput ∈ BW := bw_mk (List.mem_of_getElem? (i := 9) (by decide +kernel)) rfl
theorem mm_289 : Cond.methodLink RX7 75 yX7_useRow ∈ BW := bw_mk (List.mem_of_getElem? (i := 488) (by decide +kernel)) rfl
theorem mm_290 : Cond.instanceMethod yX7_useRow ∈ BW := bw_mk (List.mem_of_getElem? (i := 490) (by decide +kernel)) rfl
theorem mm_291 : Cond.selects RX7 yX7_useRow yX7_useRow ∈ BW := bw_mk (List.mem_of_getElem? (i := 10) (by decide +kernel)) rfl
theorem mm_292 : Cond.methodLink RX7 78 yX7_jump ∈ BW := bw_mk (List.mem_of_getElem? (i := 495) (by decide +kernel)) rfl
theorem mm_293 : Cond.instanceMethod yX7_jump ∈ BW := bw_mk (List.mem_of_getElem? (i := 497) (by decide +kernel)) rfl
theorem mm_294 : Cond.selects RX7 yX7_jump yX7_jump ∈ BW := bw_mk (List.mem_of_getElem? (i := 11) (by decide +kernel)) rfl
theorem mm_295 : Cond.methodLink RX7 82 yX7_openCallTo ∈ BW := bw_mk (List.mem_of_getElem? (i := 502) (by decide +kernel)) rfl
theorem mm_296 : Cond.instanceMethod yX7_openCallTo ∈ BW := bw_mk (List.mem_of_getElem? (i := 504) (by decide +kernel)) rfl
theorem mm_297 : Cond.selects RX7 yX7_openCallTo yX7_openCallTo ∈ BW := bw_mk (List.mem_of_getElem? (i := 12) (by decide +kernel)) rfl
theorem mm_298 : Cond.methodLink RX7 86 yX7_goBack ∈ BW := bw_mk (List.mem_of_getElem? (i := 506) (by decide +kernel)) rfl
theorem mm_299 : Cond.instanceMethod yX7_goBack ∈ BW := bw_mk (List.mem_of_getElem? (i := 508) (by decide +kernel)) rfl
theorem mm_300 : Cond.selects RX7 yX7_goBack yX7_goBack ∈ BW := bw_mk (List.mem_of_getElem? (i := 13) (by decide +kernel)) rfl
theorem mm_301 : Cond.methodLink RX7 89 yX7_checkOrEnd ∈ BW := bw_mk (List.mem_of_getElem? (i := 514) (by decide +kernel)) rfl
theorem mm_302 : Cond.instanceMethod yX7_checkOrEnd ∈ BW := bw_mk (List.mem_of_getElem? (i := 516) (by decide +kernel)) rfl
theorem mm_303 : Cond.selects RX7 yX7_checkOrEnd yX7_checkOrEnd ∈ BW := bw_mk (List.mem_of_getElem? (i := 14) (by decide +kernel)) rfl
theorem mm_304 : Cond.code yX7_execute cX7_execute 7 none ∈ BW := bw_mk (List.mem_of_getElem? (i := 453) (by decide +kernel)) rfl
theorem mm_305 : Cond.methodLink RX2 78 yX7_execute ∈ BW := bw_mk (List.mem_of_getElem? (i := 697) (by decide +kernel)) rfl
theorem mm_306 : Cond.instanceMethod yX7_execute ∈ BW := bw_mk (List.mem_of_getElem? (i := 451) (by decide +kernel)) rfl
theorem mm_307 : Cond.selects RX7 yX7_execute yX7_execute ∈ BW := bw_mk (List.mem_of_getElem? (i := 452) (by decide +kernel)) rfl
theorem mm_308 : Cond.methodLink RX2 82 yX3_matches ∈ BW := bw_mk (List.mem_of_getElem? (i := 698) (by decide +kernel)) rfl
theorem mm_309 : Cond.methodLink RX2 66 yX4_copy ∈ BW := bw_mk (List.mem_of_getElem? (i := 699) (by decide +kernel)) rfl
theorem mm_310 : Cond.code yX2_trialShows cX2_trialShows 4 (some .boolean) ∈ BW := bw_mk (List.mem_of_getElem? (i := 696) (by decide +kernel)) rfl
theorem mm_311 : Cond.methodLink RX2 47 yX4_size ∈ BW := bw_mk (List.mem_of_getElem? (i := 691) (by decide +kernel)) rfl
theorem mm_312 : Cond.methodLink RX2 55 yX4_copyParts ∈ BW := bw_mk (List.mem_of_getElem? (i := 692) (by decide +kernel)) rfl
theorem mm_313 : Cond.methodLink RX2 59 yX2_trialShows ∈ BW := bw_mk (List.mem_of_getElem? (i := 693) (by decide +kernel)) rfl
theorem mm_314 : Cond.instanceMethod yX2_trialShows ∈ BW := bw_mk (List.mem_of_getElem? (i := 695) (by decide +kernel)) rfl
theorem mm_315 : Cond.selects RX2 yX2_trialShows yX2_trialShows ∈ BW := bw_mk (List.mem_of_getElem? (i := 19) (by decide +kernel)) rfl
theorem mm_316 : Cond.initialized RX2 ∈ BW := bw_mk (List.mem_of_getElem? (i := 56) (by decide +kernel)) rfl
theorem mm_317 : Cond.code yX2_leaveOut cX2_leaveOut 8 (some .boolean) ∈ BW := bw_mk (List.mem_of_getElem? (i := 690) (by decide +kernel)) rfl
theorem mm_318 : Cond.code yX2_lesser cX2_lesser 2 (some .int) ∈ BW := bw_mk (List.mem_of_getElem? (i := 707) (by decide +kernel)) rfl
theorem mm_319 : Cond.methodLink RX2 62 yX4_get ∈ BW := bw_mk (List.mem_of_getElem? (i := 704) (by decide +kernel)) rfl
theorem mm_320 : Cond.methodLink RX2 70 yX2_lesser ∈ BW := bw_mk (List.mem_of_getElem? (i := 705) (by decide +kernel)) rfl
theorem mm_321 : Cond.static yX2_lesser ∈ BW := bw_mk (List.mem_of_getElem? (i := 706) (by decide +kernel)) rfl
theorem mm_322 : Cond.methodLink RX2 74 yX4_put ∈ BW := bw_mk (List.mem_of_getElem? (i := 708) (by decide +kernel)) rfl
theorem mm_323 : Cond.code yX2_lessen cX2_lessen 8 (some .boolean) ∈ BW := bw_mk (List.mem_of_getElem? (i := 703) (by decide +kernel)) rfl
theorem mm_324 : Cond.constant RX2 42 (1000000) ∈ BW := bw_mk (List.mem_of_getElem? (i := 686) (by decide +kernel)) rfl
theorem mm_325 : Cond.methodLink RX2 30 yX3_firsts ∈ BW := bw_mk (List.mem_of_getElem? (i := 684) (by decide +kernel)) rfl
theorem mm_326 : Cond.instanceMethod yX3_firsts ∈ BW := bw_mk (List.mem_of_getElem? (i := 673) (by decide +kernel)) rfl
theorem mm_327 : Cond.selects RX3 yX3_firsts yX3_firsts ∈ BW := bw_mk (List.mem_of_getElem? (i := 674) (by decide +kernel)) rfl
theorem mm_328 : Cond.methodLink RX2 36 yX6_copyTo ∈ BW := bw_mk (List.mem_of_getElem? (i := 685) (by decide +kernel)) rfl
theorem mm_329 : Cond.methodLink RX2 43 yX2_leaveOut ∈ BW := bw_mk (List.mem_of_getElem? (i := 687) (by decide +kernel)) rfl
theorem mm_330 : Cond.instanceMethod yX2_leaveOut ∈ BW := bw_mk (List.mem_of_getElem? (i := 689) (by decide +kernel)) rfl
theorem mm_331 : Cond.selects RX2 yX2_leaveOut yX2_leaveOut ∈ BW := bw_mk (List.mem_of_getElem? (i := 18) (by decide +kernel)) rfl
theorem mm_332 : Cond.methodLink RX2 51 yX2_lessen ∈ BW := bw_mk (List.mem_of_getElem? (i := 700) (by decide +kernel)) rfl
theorem mm_333 : Cond.instanceMethod yX2_lessen ∈ BW := bw_mk (List.mem_of_getElem? (i := 702) (by decide +kernel)) rfl
theorem mm_334 : Cond.selects RX2 yX2_lessen yX2_lessen ∈ BW := bw_mk (List.mem_of_getElem? (i := 20) (by decide +kernel)) rfl
theorem mm_335 : Cond.code yX2_shrink cX2_shrink 7 none ∈ BW := bw_mk (List.mem_of_getElem? (i := 683) (by decide +kernel)) rfl
theorem mm_336 : Cond.code yX3_part cX3_part 3 (some .int) ∈ BW := bw_mk (List.mem_of_getElem? (i := 662) (by decide +kernel)) rfl
theorem mm_337 : Cond.code yX4_isByte cX4_isByte 1 (some .boolean) ∈ BW := bw_mk (List.mem_of_getElem? (i := 345) (by decide +kernel)) rfl
theorem mm_338 : Cond.code yX5_init cX5_init 1 none ∈ BW := bw_mk (List.mem_of_getElem? (i := 72) (by decide +kernel)) rfl
theorem mm_339 : Cond.methodLink RX5 3 objectInit ∈ BW := bw_mk (List.mem_of_getElem? (i := 73) (by decide +kernel)) rfl
theorem mm_340 : Cond.code yX5_isWithin cX5_isWithin 2 (some .boolean) ∈ BW := bw_mk (List.mem_of_getElem? (i := 272) (by decide +kernel)) rfl
theorem mm_341 : Cond.code yX5_namesA cX5_namesA 1 (some .boolean) ∈ BW := bw_mk (List.mem_of_getElem? (i := 275) (by decide +kernel)) rfl
theorem mm_342 : Cond.code yX5_namesB cX5_namesB 1 (some .boolean) ∈ BW := bw_mk (List.mem_of_getElem? (i := 278) (by decide +kernel)) rfl
theorem mm_343 : Cond.code yX5_namesC cX5_namesC 1 (some .boolean) ∈ BW := bw_mk (List.mem_of_getElem? (i := 281) (by decide +kernel)) rfl
theorem mm_344 : Cond.code yX5_fits cX5_fits 4 (some .boolean) ∈ BW := bw_mk (List.mem_of_getElem? (i := 269) (by decide +kernel)) rfl
theorem mm_345 : Cond.methodLink RX5 19 yX5_isWithin ∈ BW := bw_mk (List.mem_of_getElem? (i := 270) (by decide +kernel)) rfl
theorem mm_346 : Cond.static yX5_isWithin ∈ BW := bw_mk (List.mem_of_getElem? (i := 271) (by decide +kernel)) rfl
theorem mm_347 : Cond.methodLink RX5 23 yX5_namesA ∈ BW := bw_mk (List.mem_of_getElem? (i := 273) (by decide +kernel)) rfl
theorem mm_348 : Cond.static yX5_namesA ∈ BW := bw_mk (List.mem_of_getElem? (i := 274) (by decide +kernel)) rfl
theorem mm_349 : Cond.methodLink RX5 29 yX5_namesB ∈ BW := bw_mk (List.mem_of_getElem? (i := 276) (by decide +kernel)) rfl
theorem mm_350 : Cond.static yX5_namesB ∈ BW := bw_mk (List.mem_of_getElem? (i := 277) (by decide +kernel)) rfl
theorem mm_351 : Cond.methodLink RX5 32 yX5_namesC ∈ BW := bw_mk (List.mem_of_getElem? (i := 279) (by decide +kernel)) rfl
theorem mm_352 : Cond.static yX5_namesC ∈ BW := bw_mk (List.mem_of_getElem? (i := 280) (by decide +kernel)) rfl
theorem mm_353 : Cond.code yX5_size cX5_size 1 (some .int) ∈ BW := bw_mk (List.mem_of_getElem? (i := 293) (by decide +kernel)) rfl
theorem mm_354 : Cond.code yX5_branchesAt cX5_branchesAt 3 (some .boolean) ∈ BW := bw_mk (List.mem_of_getElem? (i := 738) (by decide +kernel)) rfl
theorem mm_355 : Cond.methodLink RX5 41 yX5_part ∈ BW := bw_mk (List.mem_of_getElem? (i := 739) (by decide +kernel)) rfl
theorem mm_356 : Cond.code yX5_append cX5_append 6 (some .boolean) ∈ BW := bw_mk (List.mem_of_getElem? (i := 289) (by decide +kernel)) rfl
theorem mm_357 : Cond.code yX5_clear cX5_clear 1 none ∈ BW := bw_mk (List.mem_of_getElem? (i := 301) (by decide +kernel)) rfl
theorem mm_358 : Cond.code yX7_isRegister cX7_isRegister 1 (some .boolean) ∈ BW := bw_mk (List.mem_of_getElem? (i := 553) (by decide +kernel)) rfl
theorem mm_359 : Cond.code yX7_depth cX7_depth 1 (some .int) ∈ BW := bw_mk (List.mem_of_getElem? (i := 533) (by decide +kernel)) rfl
theorem mm_360 : Cond.code yX7_steps cX7_steps 1 (some .int) ∈ BW := bw_mk (List.mem_of_getElem? (i := 537) (by decide +kernel)) rfl
theorem mm_361 : Cond.code yX7_branchesReached cX7_branchesReached 3 (some .int) ∈ BW := bw_mk (List.mem_of_getElem? (i := 541) (by decide +kernel)) rfl
theorem mm_362 : Cond.methodLink RX8 1 objectInit ∈ BW := bw_mk (List.mem_of_getElem? (i := 65) (by decide +kernel)) rfl
theorem mm_363 : Cond.classLink RX8 7 RX5 ∈ BW := bw_mk (List.mem_of_getElem? (i := 68) (by decide +kernel)) rfl
theorem mm_364 : Cond.instantiable RX5 2 ∈ BW := bw_mk (List.mem_of_getElem? (i := 69) (by decide +kernel)) rfl
theorem mm_365 : Cond.fieldLink RX8 10 "ShrinkBench" "program" "LShrinkBench$Program;" ∈ BW := bw_mk (List.mem_of_getElem? (i := 232) (by decide +kernel)) rfl
theorem mm_366 : Cond.classLink RX8 16 RX4 ∈ BW := bw_mk (List.mem_of_getElem? (i := 82) (by decide +kernel)) rfl
theorem mm_367 : Cond.fieldLink RX8 19 "ShrinkBench" "tape" "LShrinkBench$Input;" ∈ BW := bw_mk (List.mem_of_getElem? (i := 233) (by decide +kernel)) rfl
theorem mm_368 : Cond.fieldLink RX8 23 "ShrinkBench" "spare" "LShrinkBench$Input;" ∈ BW := bw_mk (List.mem_of_getElem? (i := 234) (by decide +kernel)) rfl
theorem mm_369 : Cond.classLink RX8 26 RX7 ∈ BW := bw_mk (List.mem_of_getElem? (i := 95) (by decide +kernel)) rfl
theorem mm_370 : Cond.fieldLink RX8 29 "ShrinkBench" "latest" "LShrinkBench$Trace;" ∈ BW := bw_mk (List.mem_of_getElem? (i := 235) (by decide +kernel)) rfl
theorem mm_371 : Cond.fieldLink RX8 33 "ShrinkBench" "probe" "LShrinkBench$Trace;" ∈ BW := bw_mk (List.mem_of_getElem? (i := 236) (by decide +kernel)) rfl
theorem mm_372 : Cond.classLink RX8 36 RX0 ∈ BW := bw_mk (List.mem_of_getElem? (i := 138) (by decide +kernel)) rfl
theorem mm_373 : Cond.instantiable RX0 4 ∈ BW := bw_mk (List.mem_of_getElem? (i := 139) (by decide +kernel)) rfl
theorem mm_374 : Cond.fieldLink RX8 39 "ShrinkBench" "bench0" "LShrinkBench$Bench;" ∈ BW := bw_mk (List.mem_of_getElem? (i := 237) (by decide +kernel)) rfl
theorem mm_375 : Cond.fieldLink RX8 43 "ShrinkBench" "bench1" "LShrinkBench$Bench;" ∈ BW := bw_mk (List.mem_of_getElem? (i := 238) (by decide +kernel)) rfl
theorem mm_376 : Cond.classLink RX8 46 RX1 ∈ BW := bw_mk (List.mem_of_getElem? (i := 194) (by decide +kernel)) rfl
theorem mm_377 : Cond.instantiable RX1 2 ∈ BW := bw_mk (List.mem_of_getElem? (i := 195) (by decide +kernel)) rfl
theorem mm_378 : Cond.fieldLink RX8 49 "ShrinkBench" "changer" "LShrinkBench$Changer;" ∈ BW := bw_mk (List.mem_of_getElem? (i := 239) (by decide +kernel)) rfl
theorem mm_379 : Cond.classLink RX8 53 RX2 ∈ BW := bw_mk (List.mem_of_getElem? (i := 209) (by decide +kernel)) rfl
theorem mm_380 : Cond.instantiable RX2 4 ∈ BW := bw_mk (List.mem_of_getElem? (i := 210) (by decide +kernel)) rfl
theorem mm_381 : Cond.fieldLink RX8 56 "ShrinkBench" "cutter" "LShrinkBench$Cutter;" ∈ BW := bw_mk (List.mem_of_getElem? (i := 240) (by decide +kernel)) rfl
theorem mm_382 : Cond.fieldLink RX8 60 "ShrinkBench" "refusal" "I" ∈ BW := bw_mk (List.mem_of_getElem? (i := 241) (by decide +kernel)) rfl
theorem mm_383 : Cond.instanceMethod yX5_init ∈ BW := bw_mk (List.mem_of_getElem? (i := 71) (by decide +kernel)) rfl
theorem mm_384 : Cond.instanceMethod yX0_init ∈ BW := bw_mk (List.mem_of_getElem? (i := 141) (by decide +kernel)) rfl
theorem mm_385 : Cond.instanceMethod yX1_init ∈ BW := bw_mk (List.mem_of_getElem? (i := 197) (by decide +kernel)) rfl
theorem mm_386 : Cond.instanceMethod yX2_init ∈ BW := bw_mk (List.mem_of_getElem? (i := 212) (by decide +kernel)) rfl
theorem mm_387 : Cond.code yX8_init cX8_init 1 none ∈ BW := bw_mk (List.mem_of_getElem? (i := 64) (by decide +kernel)) rfl
theorem mm_388 : Cond.methodLink RX8 64 yX5_fits ∈ BW := bw_mk (List.mem_of_getElem? (i := 267) (by decide +kernel)) rfl
theorem mm_389 : Cond.static yX5_fits ∈ BW := bw_mk (List.mem_of_getElem? (i := 268) (by decide +kernel)) rfl
theorem mm_390 : Cond.methodLink RX8 68 yX0_tries ∈ BW := bw_mk (List.mem_of_getElem? (i := 282) (by decide +kernel)) rfl
theorem mm_391 : Cond.instanceMethod yX0_tries ∈ BW := bw_mk (List.mem_of_getElem? (i := 283) (by decide +kernel)) rfl
theorem mm_392 : Cond.selects RX0 yX0_tries yX0_tries ∈ BW := bw_mk (List.mem_of_getElem? (i := 284) (by decide +kernel)) rfl
theorem mm_393 : Cond.methodLink RX8 72 yX5_append ∈ BW := bw_mk (List.mem_of_getElem? (i := 286) (by decide +kernel)) rfl
theorem mm_394 : Cond.instanceMethod yX5_append ∈ BW := bw_mk (List.mem_of_getElem? (i := 287) (by decide +kernel)) rfl
theorem mm_395 : Cond.selects RX5 yX5_append yX5_append ∈ BW := bw_mk (List.mem_of_getElem? (i := 288) (by decide +kernel)) rfl
theorem mm_396 : Cond.methodLink RX8 75 yX5_size ∈ BW := bw_mk (List.mem_of_getElem? (i := 290) (by decide +kernel)) rfl
theorem mm_397 : Cond.instanceMethod yX5_size ∈ BW := bw_mk (List.mem_of_getElem? (i := 291) (by decide +kernel)) rfl
theorem mm_398 : Cond.selects RX5 yX5_size yX5_size ∈ BW := bw_mk (List.mem_of_getElem? (i := 292) (by decide +kernel)) rfl
theorem mm_399 : Cond.code yX8_code cX8_code 5 (some .int) ∈ BW := bw_mk (List.mem_of_getElem? (i := 266) (by decide +kernel)) rfl
theorem mm_400 : Cond.methodLink RX8 78 yX5_clear ∈ BW := bw_mk (List.mem_of_getElem? (i := 298) (by decide +kernel)) rfl
theorem mm_401 : Cond.instanceMethod yX5_clear ∈ BW := bw_mk (List.mem_of_getElem? (i := 299) (by decide +kernel)) rfl
theorem mm_402 : Cond.selects RX5 yX5_clear yX5_clear ∈ BW := bw_mk (List.mem_of_getElem? (i := 300) (by decide +kernel)) rfl
theorem mm_403 : Cond.methodLink RX8 81 yX0_clear ∈ BW := bw_mk (List.mem_of_getElem? (i := 302) (by decide +kernel)) rfl
theorem mm_404 : Cond.instanceMethod yX0_clear ∈ BW := bw_mk (List.mem_of_getElem? (i := 303) (by decide +kernel)) rfl
theorem mm_405 : Cond.selects RX0 yX0_clear yX0_clear ∈ BW := bw_mk (List.mem_of_getElem? (i := 304) (by decide +kernel)) rfl
theorem mm_406 : Cond.code yX8_wipe cX8_wipe 2 (some .int) ∈ BW := bw_mk (List.mem_of_getElem? (i := 297) (by decide +kernel)) rfl
theorem mm_407 : Cond.code yX8_instruction cX8_instruction 4 (some .int) ∈ BW := bw_mk (List.mem_of_getElem? (i := 321) (by decide +kernel)) rfl
theorem mm_408 : Cond.methodLink RX8 82 yX5_has ∈ BW := bw_mk (List.mem_of_getElem? (i := 322) (by decide +kernel)) rfl
theorem mm_409 : Cond.methodLink RX8 86 yX5_isPart ∈ BW := bw_mk (List.mem_of_getElem? (i := 326) (by decide +kernel)) rfl
theorem mm_410 : Cond.methodLink RX8 89 yX5_part ∈ BW := bw_mk (List.mem_of_getElem? (i := 329) (by decide +kernel)) rfl
theorem mm_411 : Cond.code yX8_status cX8_status 1 (some .int) ∈ BW := bw_mk (List.mem_of_getElem? (i := 338) (by decide +kernel)) rfl
theorem mm_412 : Cond.code yX8_feed cX8_feed 2 (some .int) ∈ BW := bw_mk (List.mem_of_getElem? (i := 342) (by decide +kernel)) rfl
theorem mm_413 : Cond.methodLink RX8 93 yX4_isByte ∈ BW := bw_mk (List.mem_of_getElem? (i := 343) (by decide +kernel)) rfl
theorem mm_414 : Cond.static yX4_isByte ∈ BW := bw_mk (List.mem_of_getElem? (i := 344) (by decide +kernel)) rfl
theorem mm_415 : Cond.methodLink RX8 96 yX4_append ∈ BW := bw_mk (List.mem_of_getElem? (i := 346) (by decide +kernel)) rfl
theorem mm_416 : Cond.methodLink RX8 98 yX4_size ∈ BW := bw_mk (List.mem_of_getElem? (i := 350) (by decide +kernel)) rfl
theorem mm_417 : Cond.code yX8_keep cX8_keep 2 (some .int) ∈ BW := bw_mk (List.mem_of_getElem? (i := 357) (by decide +kernel)) rfl
theorem mm_418 : Cond.methodLink RX8 99 yX4_shorten ∈ BW := bw_mk (List.mem_of_getElem? (i := 358) (by decide +kernel)) rfl
theorem mm_419 : Cond.code yX8_at cX8_at 2 (some .int) ∈ BW := bw_mk (List.mem_of_getElem? (i := 365) (by decide +kernel)) rfl
theorem mm_420 : Cond.methodLink RX8 103 yX4_has ∈ BW := bw_mk (List.mem_of_getElem? (i := 366) (by decide +kernel)) rfl
theorem mm_421 : Cond.methodLink RX8 104 yX4_get ∈ BW := bw_mk (List.mem_of_getElem? (i := 370) (by decide +kernel)) rfl
theorem mm_422 : Cond.code yX8_benchOf cX8_benchOf 2 (some (.object "ShrinkBench$Bench")) ∈ BW := bw_mk (List.mem_of_getElem? (i := 381) (by decide +kernel)) rfl
theorem mm_423 : Cond.code yX8_isOfAChange cX8_isOfAChange 1 (some .boolean) ∈ BW := bw_mk (List.mem_of_getElem? (i := 384) (by decide +kernel)) rfl
theorem mm_424 : Cond.constant RX8 227 (1000000000) ∈ BW := bw_mk (List.mem_of_getElem? (i := 385) (by decide +kernel)) rfl
theorem mm_425 : Cond.methodLink RX8 108 yX8_benchOf ∈ BW := bw_mk (List.mem_of_getElem? (i := 378) (by decide +kernel)) rfl
theorem mm_426 : Cond.instanceMethod yX8_benchOf ∈ BW := bw_mk (List.mem_of_getElem? (i := 380) (by decide +kernel)) rfl
theorem mm_427 : Cond.selects RX8 yX8_benchOf yX8_benchOf ∈ BW := bw_mk (List.mem_of_getElem? (i := 0) (by decide +kernel)) rfl
theorem mm_428 : Cond.initialized RX8 ∈ BW := bw_mk (List.mem_of_getElem? (i := 47) (by decide +kernel)) rfl
theorem mm_429 : Cond.methodLink RX8 112 yX8_isOfAChange ∈ BW := bw_mk (List.mem_of_getElem? (i := 382) (by decide +kernel)) rfl
theorem mm_430 : Cond.static yX8_isOfAChange ∈ BW := bw_mk (List.mem_of_getElem? (i := 383) (by decide +kernel)) rfl
theorem mm_431 : Cond.methodLink RX8 115 yX0_inputs ∈ BW := bw_mk (List.mem_of_getElem? (i := 386) (by decide +kernel)) rfl
theorem mm_432 : Cond.instanceMethod yX0_inputs ∈ BW := bw_mk (List.mem_of_getElem? (i := 387) (by decide +kernel)) rfl
theorem mm_433 : Cond.selects RX0 yX0_inputs yX0_inputs ∈ BW := bw_mk (List.mem_of_getElem? (i := 388) (by decide +kernel)) rfl
theorem mm_434 : Cond.methodLink RX8 119 yX1_apply ∈ BW := bw_mk (List.mem_of_getElem? (i := 390) (by decide +kernel)) rfl
theorem mm_435 : Cond.instanceMethod yX1_apply ∈ BW := bw_mk (List.mem_of_getElem? (i := 391) (by decide +kernel)) rfl
theorem mm_436 : Cond.selects RX1 yX1_apply yX1_apply ∈ BW := bw_mk (List.mem_of_getElem? (i := 392) (by decide +kernel)) rfl
theorem mm_437 : Cond.code yX8_change cX8_change 6 (some .int) ∈ BW := bw_mk (List.mem_of_getElem? (i := 377) (by decide +kernel)) rfl
theorem mm_438 : Cond.methodLink RX8 123 yX7_execute ∈ BW := bw_mk (List.mem_of_getElem? (i := 450) (by decide +kernel)) rfl
theorem mm_439 : Cond.methodLink RX8 127 yX7_kind ∈ BW := bw_mk (List.mem_of_getElem? (i := 518) (by decide +kernel)) rfl
theorem mm_440 : Cond.code yX8_run cX8_run 1 (some .int) ∈ BW := bw_mk (List.mem_of_getElem? (i := 449) (by decide +kernel)) rfl
theorem mm_441 : Cond.methodLink RX8 130 yX7_place ∈ BW := bw_mk (List.mem_of_getElem? (i := 526) (by decide +kernel)) rfl
theorem mm_442 : Cond.methodLink RX8 133 yX7_depth ∈ BW := bw_mk (List.mem_of_getElem? (i := 530) (by decide +kernel)) rfl
theorem mm_443 : Cond.instanceMethod yX7_depth ∈ BW := bw_mk (List.mem_of_getElem? (i := 531) (by decide +kernel)) rfl
theorem mm_444 : Cond.selects RX7 yX7_depth yX7_depth ∈ BW := bw_mk (List.mem_of_getElem? (i := 532) (by decide +kernel)) rfl
theorem mm_445 : Cond.methodLink RX8 136 yX7_steps ∈ BW := bw_mk (List.mem_of_getElem? (i := 534) (by decide +kernel)) rfl
theorem mm_446 : Cond.instanceMethod yX7_steps ∈ BW := bw_mk (List.mem_of_getElem? (i := 535) (by decide +kernel)) rfl
theorem mm_447 : Cond.selects RX7 yX7_steps yX7_steps ∈ BW := bw_mk (List.mem_of_getElem? (i := 536) (by decide +kernel)) rfl
theorem mm_448 : Cond.methodLink RX8 139 yX7_branchesReached ∈ BW := bw_mk (List.mem_of_getElem? (i := 538) (by decide +kernel)) rfl
theorem mm_449 : Cond.instanceMethod yX7_branchesReached ∈ BW := bw_mk (List.mem_of_getElem? (i := 539) (by decide +kernel)) rfl
theorem mm_450 : Cond.selects RX7 yX7_branchesReached yX7_branchesReached ∈ BW := bw_mk (List.mem_of_getElem? (i := 540) (by decide +kernel)) rfl
theorem mm_451 : Cond.code yX8_told cX8_told 2 (some .int) ∈ BW := bw_mk (List.mem_of_getElem? (i := 525) (by decide +kernel)) rfl
theorem mm_452 : Cond.code yX8_called cX8_called 2 (some .int) ∈ BW := bw_mk (List.mem_of_getElem? (i := 545) (by decide +kernel)) rfl
theorem mm_453 : Cond.methodLink RX8 142 yX7_openCall ∈ BW := bw_mk (List.mem_of_getElem? (i := 546) (by decide +kernel)) rfl
theorem mm_454 : Cond.code yX8_register cX8_register 3 (some .int) ∈ BW := bw_mk (List.mem_of_getElem? (i := 550) (by decide +kernel)) rfl
theorem mm_455 : Cond.methodLink RX8 145 yX7_isRegister ∈ BW := bw_mk (List.mem_of_getElem? (i := 551) (by decide +kernel)) rfl
theorem mm_456 : Cond.static yX7_isRegister ∈ BW := bw_mk (List.mem_of_getElem? (i := 552) (by decide +kernel)) rfl
theorem mm_457 : Cond.methodLink RX8 148 yX7_value ∈ BW := bw_mk (List.mem_of_getElem? (i := 554) (by decide +kernel)) rfl
theorem mm_458 : Cond.code yX8_turns cX8_turns 2 (some .int) ∈ BW := bw_mk (List.mem_of_getElem? (i := 558) (by decide +kernel)) rfl
theorem mm_459 : Cond.methodLink RX8 151 yX7_isBranch ∈ BW := bw_mk (List.mem_of_getElem? (i := 559) (by decide +kernel)) rfl
theorem mm_460 : Cond.methodLink RX8 154 yX7_turnsOf ∈ BW := bw_mk (List.mem_of_getElem? (i := 560) (by decide +kernel)) rfl
theorem mm_461 : Cond.methodLink RX8 157 yX0_take ∈ BW := bw_mk (List.mem_of_getElem? (i := 568) (by decide +kernel)) rfl
theorem mm_462 : Cond.instanceMethod yX0_take ∈ BW := bw_mk (List.mem_of_getElem? (i := 569) (by decide +kernel)) rfl
theorem mm_463 : Cond.selects RX0 yX0_take yX0_take ∈ BW := bw_mk (List.mem_of_getElem? (i := 570) (by decide +kernel)) rfl
theorem mm_464 : Cond.code yX8_attempt cX8_attempt 3 (some .int) ∈ BW := bw_mk (List.mem_of_getElem? (i := 567) (by decide +kernel)) rfl
theorem mm_465 : Cond.methodLink RX8 161 yX6_size ∈ BW := bw_mk (List.mem_of_getElem? (i := 623) (by decide +kernel)) rfl
theorem mm_466 : Cond.methodLink RX8 164 yX0_faults ∈ BW := bw_mk (List.mem_of_getElem? (i := 624) (by decide +kernel)) rfl
theorem mm_467 : Cond.instanceMethod yX0_faults ∈ BW := bw_mk (List.mem_of_getElem? (i := 625) (by decide +kernel)) rfl
theorem mm_468 : Cond.selects RX0 yX0_faults yX0_faults ∈ BW := bw_mk (List.mem_of_getElem? (i := 626) (by decide +kernel)) rfl
theorem mm_469 : Cond.methodLink RX8 168 yX3_size ∈ BW := bw_mk (List.mem_of_getElem? (i := 628) (by decide +kernel)) rfl
theorem mm_470 : Cond.methodLink RX8 171 yX0_reachesCovered ∈ BW := bw_mk (List.mem_of_getElem? (i := 629) (by decide +kernel)) rfl
theorem mm_471 : Cond.instanceMethod yX0_reachesCovered ∈ BW := bw_mk (List.mem_of_getElem? (i := 630) (by decide +kernel)) rfl
theorem mm_472 : Cond.selects RX0 yX0_reachesCovered yX0_reachesCovered ∈ BW := bw_mk (List.mem_of_getElem? (i := 631) (by decide +kernel)) rfl
theorem mm_473 : Cond.methodLink RX8 174 yX0_branchesCovered ∈ BW := bw_mk (List.mem_of_getElem? (i := 639) (by decide +kernel)) rfl
theorem mm_474 : Cond.instanceMethod yX0_branchesCovered ∈ BW := bw_mk (List.mem_of_getElem? (i := 640) (by decide +kernel)) rfl
theorem mm_475 : Cond.selects RX0 yX0_branchesCovered yX0_branchesCovered ∈ BW := bw_mk (List.mem_of_getElem? (i := 641) (by decide +kernel)) rfl
theorem mm_476 : Cond.code yX8_about cX8_about 4 (some .int) ∈ BW := bw_mk (List.mem_of_getElem? (i := 622) (by decide +kernel)) rfl
theorem mm_477 : Cond.code yX8_covered cX8_covered 5 (some .int) ∈ BW := bw_mk (List.mem_of_getElem? (i := 646) (by decide +kernel)) rfl
theorem mm_478 : Cond.methodLink RX8 177 yX0_isDigits ∈ BW := bw_mk (List.mem_of_getElem? (i := 647) (by decide +kernel)) rfl
theorem mm_479 : Cond.methodLink RX8 180 yX0_covers ∈ BW := bw_mk (List.mem_of_getElem? (i := 648) (by decide +kernel)) rfl
theorem mm_480 : Cond.methodLink RX8 184 yX6_has ∈ BW := bw_mk (List.mem_of_getElem? (i := 653) (by decide +kernel)) rfl
theorem mm_481 : Cond.methodLink RX8 185 yX6_copyTo ∈ BW := bw_mk (List.mem_of_getElem? (i := 654) (by decide +kernel)) rfl
theorem mm_482 : Cond.code yX8_pool cX8_pool 4 (some .int) ∈ BW := bw_mk (List.mem_of_getElem? (i := 652) (by decide +kernel)) rfl
theorem mm_483 : Cond.methodLink RX8 189 yX3_part ∈ BW := bw_mk (List.mem_of_getElem? (i := 659) (by decide +kernel)) rfl
theorem mm_484 : Cond.instanceMethod yX3_part ∈ BW := bw_mk (List.mem_of_getElem? (i := 660) (by decide +kernel)) rfl
theorem mm_485 : Cond.selects RX3 yX3_part yX3_part ∈ BW := bw_mk (List.mem_of_getElem? (i := 661) (by decide +kernel)) rfl
theorem mm_486 : Cond.code yX8_fault cX8_fault 5 (some .int) ∈ BW := bw_mk (List.mem_of_getElem? (i := 658) (by decide +kernel)) rfl
theorem mm_487 : Cond.methodLink RX8 226 yX3_has ∈ BW := bw_mk (List.mem_of_getElem? (i := 671) (by decide +kernel)) rfl
theorem mm_488 : Cond.code yX8_benchWithFault cX8_benchWithFault 4 (some (.object "ShrinkBench$Bench")) ∈ BW := bw_mk (List.mem_of_getElem? (i := 670) (by decide +kernel)) rfl
theorem mm_489 : Cond.methodLink RX8 190 yX8_benchWithFault ∈ BW := bw_mk (List.mem_of_getElem? (i := 667) (by decide +kernel)) rfl
theorem mm_490 : Cond.instanceMethod yX8_benchWithFault ∈ BW := bw_mk (List.mem_of_getElem? (i := 669) (by decide +kernel)) rfl
theorem mm_491 : Cond.selects RX8 yX8_benchWithFault yX8_benchWithFault ∈ BW := bw_mk (List.mem_of_getElem? (i := 17) (by decide +kernel)) rfl
theorem mm_492 : Cond.methodLink RX8 194 yX3_firsts ∈ BW := bw_mk (List.mem_of_getElem? (i := 672) (by decide +kernel)) rfl
theorem mm_493 : Cond.code yX8_first cX8_first 4 (some .int) ∈ BW := bw_mk (List.mem_of_getElem? (i := 666) (by decide +kernel)) rfl
theorem mm_494 : Cond.methodLink RX8 197 yX2_shrink ∈ BW := bw_mk (List.mem_of_getElem? (i := 680) (by decide +kernel)) rfl
theorem mm_495 : Cond.instanceMethod yX2_shrink ∈ BW := bw_mk (List.mem_of_getElem? (i := 681) (by decide +kernel)) rfl
theorem mm_496 : Cond.selects RX2 yX2_shrink yX2_shrink ∈ BW := bw_mk (List.mem_of_getElem? (i := 682) (by decide +kernel)) rfl
theorem mm_497 : Cond.methodLink RX8 201 yX2_result ∈ BW := bw_mk (List.mem_of_getElem? (i := 709) (by decide +kernel)) rfl
theorem mm_498 : Cond.instanceMethod yX2_result ∈ BW := bw_mk (List.mem_of_getElem? (i := 710) (by decide +kernel)) rfl
theorem mm_499 : Cond.selects RX2 yX2_result yX2_result ∈ BW := bw_mk (List.mem_of_getElem? (i := 711) (by decide +kernel)) rfl
theorem mm_500 : Cond.methodLink RX8 205 yX4_copy ∈ BW := bw_mk (List.mem_of_getElem? (i := 713) (by decide +kernel)) rfl
theorem mm_501 : Cond.code yX8_cut cX8_cut 4 (some .int) ∈ BW := bw_mk (List.mem_of_getElem? (i := 679) (by decide +kernel)) rfl
theorem mm_502 : Cond.code yX8_runs cX8_runs 1 (some .int) ∈ BW := bw_mk (List.mem_of_getElem? (i := 717) (by decide +kernel)) rfl
theorem mm_503 : Cond.methodLink RX8 209 yX2_runsMade ∈ BW := bw_mk (List.mem_of_getElem? (i := 718) (by decide +kernel)) rfl
theorem mm_504 : Cond.instanceMethod yX2_runsMade ∈ BW := bw_mk (List.mem_of_getElem? (i := 719) (by decide +kernel)) rfl
theorem mm_505 : Cond.selects RX2 yX2_runsMade yX2_runsMade ∈ BW := bw_mk (List.mem_of_getElem? (i := 720) (by decide +kernel)) rfl
theorem mm_506 : Cond.code yX8_probeSmallInput cX8_probeSmallInput 2 none ∈ BW := bw_mk (List.mem_of_getElem? (i := 729) (by decide +kernel)) rfl
theorem mm_507 : Cond.methodLink RX8 212 yX8_probeSmallInput ∈ BW := bw_mk (List.mem_of_getElem? (i := 726) (by decide +kernel)) rfl
theorem mm_508 : Cond.instanceMethod yX8_probeSmallInput ∈ BW := bw_mk (List.mem_of_getElem? (i := 728) (by decide +kernel)) rfl
theorem mm_509 : Cond.selects RX8 yX8_probeSmallInput yX8_probeSmallInput ∈ BW := bw_mk (List.mem_of_getElem? (i := 21) (by decide +kernel)) rfl
theorem mm_510 : Cond.methodLink RX8 215 yX3_matches ∈ BW := bw_mk (List.mem_of_getElem? (i := 730) (by decide +kernel)) rfl
theorem mm_511 : Cond.code yX8_least cX8_least 5 (some .int) ∈ BW := bw_mk (List.mem_of_getElem? (i := 725) (by decide +kernel)) rfl
theorem mm_512 : Cond.methodLink RX8 219 yX5_branchesAt ∈ BW := bw_mk (List.mem_of_getElem? (i := 735) (by decide +kernel)) rfl
theorem mm_513 : Cond.instanceMethod yX5_branchesAt ∈ BW := bw_mk (List.mem_of_getElem? (i := 736) (by decide +kernel)) rfl
theorem mm_514 : Cond.selects RX5 yX5_branchesAt yX5_branchesAt ∈ BW := bw_mk (List.mem_of_getElem? (i := 737) (by decide +kernel)) rfl
theorem mm_515 : Cond.code yX8_unseen cX8_unseen 3 (some .int) ∈ BW := bw_mk (List.mem_of_getElem? (i := 734) (by decide +kernel)) rfl
theorem mm_516 : Cond.code yX8_takeAll cX8_takeAll 5 (some .int) ∈ BW := bw_mk (List.mem_of_getElem? (i := 747) (by decide +kernel)) rfl
theorem mm_517 : Cond.methodLink RX8 222 yX8_takeAll ∈ BW := bw_mk (List.mem_of_getElem? (i := 744) (by decide +kernel)) rfl
theorem mm_518 : Cond.instanceMethod yX8_takeAll ∈ BW := bw_mk (List.mem_of_getElem? (i := 746) (by decide +kernel)) rfl
theorem mm_519 : Cond.selects RX8 yX8_takeAll yX8_takeAll ∈ BW := bw_mk (List.mem_of_getElem? (i := 22) (by decide +kernel)) rfl
theorem mm_520 : Cond.code yX8_merge cX8_merge 4 (some .int) ∈ BW := bw_mk (List.mem_of_getElem? (i := 743) (by decide +kernel)) rfl
theorem mm_521 : Cond.methodLink RX9 1 objectInit ∈ BW := bw_mk (List.mem_of_getElem? (i := 753) (by decide +kernel)) rfl
theorem mm_522 : Cond.fieldLink RX9 7 "ShrinkBenchModel" "op" "[I" ∈ BW := bw_mk (List.mem_of_getElem? (i := 754) (by decide +kernel)) rfl
theorem mm_523 : Cond.fieldLink RX9 13 "ShrinkBenchModel" "argA" "[I" ∈ BW := bw_mk (List.mem_of_getElem? (i := 755) (by decide +kernel)) rfl
theorem mm_524 : Cond.fieldLink RX9 16 "ShrinkBenchModel" "argB" "[I" ∈ BW := bw_mk (List.mem_of_getElem? (i := 756) (by decide +kernel)) rfl
theorem mm_525 : Cond.fieldLink RX9 19 "ShrinkBenchModel" "argC" "[I" ∈ BW := bw_mk (List.mem_of_getElem? (i := 757) (by decide +kernel)) rfl
theorem mm_526 : Cond.fieldLink RX9 22 "ShrinkBenchModel" "tape" "[I" ∈ BW := bw_mk (List.mem_of_getElem? (i := 760) (by decide +kernel)) rfl
theorem mm_527 : Cond.fieldLink RX9 25 "ShrinkBenchModel" "input" "[I" ∈ BW := bw_mk (List.mem_of_getElem? (i := 762) (by decide +kernel)) rfl
theorem mm_528 : Cond.fieldLink RX9 28 "ShrinkBenchModel" "reg" "[I" ∈ BW := bw_mk (List.mem_of_getElem? (i := 764) (by decide +kernel)) rfl
theorem mm_529 : Cond.fieldLink RX9 31 "ShrinkBenchModel" "memory" "[I" ∈ BW := bw_mk (List.mem_of_getElem? (i := 765) (by decide +kernel)) rfl
theorem mm_530 : Cond.fieldLink RX9 34 "ShrinkBenchModel" "open" "[I" ∈ BW := bw_mk (List.mem_of_getElem? (i := 766) (by decide +kernel)) rfl
theorem mm_531 : Cond.fieldLink RX9 37 "ShrinkBenchModel" "turn" "[I" ∈ BW := bw_mk (List.mem_of_getElem? (i := 772) (by decide +kernel)) rfl
theorem mm_532 : Cond.fieldLink RX9 40 "ShrinkBenchModel" "toldPlace" "I" ∈ BW := bw_mk (List.mem_of_getElem? (i := 774) (by decide +kernel)) rfl
theorem mm_533 : Cond.fieldLink RX9 44 "ShrinkBenchModel" "toldCalls" "[I" ∈ BW := bw_mk (List.mem_of_getElem? (i := 778) (by decide +kernel)) rfl
theorem mm_534 : Cond.fieldLink RX9 47 "ShrinkBenchModel" "toldReg" "[I" ∈ BW := bw_mk (List.mem_of_getElem? (i := 779) (by decide +kernel)) rfl
theorem mm_535 : Cond.fieldLink RX9 50 "ShrinkBenchModel" "toldTurn" "[I" ∈ BW := bw_mk (List.mem_of_getElem? (i := 780) (by decide +kernel)) rfl
theorem mm_536 : Cond.fieldLink RX9 53 "ShrinkBenchModel" "pool" "[I" ∈ BW := bw_mk (List.mem_of_getElem? (i := 781) (by decide +kernel)) rfl
theorem mm_537 : Cond.fieldLink RX9 56 "ShrinkBenchModel" "poolSize" "[I" ∈ BW := bw_mk (List.mem_of_getElem? (i := 782) (by decide +kernel)) rfl
theorem mm_538 : Cond.fieldLink RX9 59 "ShrinkBenchModel" "pools" "[I" ∈ BW := bw_mk (List.mem_of_getElem? (i := 783) (by decide +kernel)) rfl
theorem mm_539 : Cond.arrayClass .boolean ∈ BW := bw_mk (List.mem_of_getElem? (i := 874) (by decide +kernel)) rfl
theorem mm_540 : Cond.fieldLink RX9 62 "ShrinkBenchModel" "cover" "[Z" ∈ BW := bw_mk (List.mem_of_getElem? (i := 784) (by decide +kernel)) rfl
theorem mm_541 : Cond.fieldLink RX9 66 "ShrinkBenchModel" "tried" "[I" ∈ BW := bw_mk (List.mem_of_getElem? (i := 785) (by decide +kernel)) rfl
theorem mm_542 : Cond.fieldLink RX9 69 "ShrinkBenchModel" "faults" "[I" ∈ BW := bw_mk (List.mem_of_getElem? (i := 786) (by decide +kernel)) rfl
theorem mm_543 : Cond.fieldLink RX9 72 "ShrinkBenchModel" "fault" "[I" ∈ BW := bw_mk (List.mem_of_getElem? (i := 787) (by decide +kernel)) rfl
theorem mm_544 : Cond.fieldLink RX9 75 "ShrinkBenchModel" "firstInput" "[I" ∈ BW := bw_mk (List.mem_of_getElem? (i := 788) (by decide +kernel)) rfl
theorem mm_545 : Cond.fieldLink RX9 78 "ShrinkBenchModel" "firstSize" "[I" ∈ BW := bw_mk (List.mem_of_getElem? (i := 789) (by decide +kernel)) rfl
theorem mm_546 : Cond.fieldLink RX9 81 "ShrinkBenchModel" "best" "[I" ∈ BW := bw_mk (List.mem_of_getElem? (i := 790) (by decide +kernel)) rfl
theorem mm_547 : Cond.code yX9_init cX9_init 1 none ∈ BW := bw_mk (List.mem_of_getElem? (i := 752) (by decide +kernel)) rfl
theorem mm_548 : Cond.code yX9_in cX9_in 3 (some .boolean) ∈ BW := bw_mk (List.mem_of_getElem? (i := 881) (by decide +kernel)) rfl
theorem mm_549 : Cond.code yX9_hasA cX9_hasA 1 (some .boolean) ∈ BW := bw_mk (List.mem_of_getElem? (i := 884) (by decide +kernel)) rfl
theorem mm_550 : Cond.code yX9_hasB cX9_hasB 1 (some .boolean) ∈ BW := bw_mk (List.mem_of_getElem? (i := 887) (by decide +kernel)) rfl
theorem mm_551 : Cond.methodLink RX9 87 yX9_in ∈ BW := bw_mk (List.mem_of_getElem? (i := 879) (by decide +kernel)) rfl
theorem mm_552 : Cond.static yX9_in ∈ BW := bw_mk (List.mem_of_getElem? (i := 880) (by decide +kernel)) rfl
theorem mm_553 : Cond.initialized RX9 ∈ BW := bw_mk (List.mem_of_getElem? (i := 57) (by decide +kernel)) rfl
theorem mm_554 : Cond.code yX9_hasC cX9_hasC 1 (some .boolean) ∈ BW := bw_mk (List.mem_of_getElem? (i := 890) (by decide +kernel)) rfl
theorem mm_555 : Cond.code yX9_code cX9_code 5 (some .int) ∈ BW := bw_mk (List.mem_of_getElem? (i := 878) (by decide +kernel)) rfl
theorem mm_556 : Cond.fieldLink RX9 101 "ShrinkBenchModel" "count" "I" ∈ BW := bw_mk (List.mem_of_getElem? (i := 758) (by decide +kernel)) rfl
theorem mm_557 : Cond.methodLink RX9 91 yX9_hasA ∈ BW := bw_mk (List.mem_of_getElem? (i := 882) (by decide +kernel)) rfl
theorem mm_558 : Cond.static yX9_hasA ∈ BW := bw_mk (List.mem_of_getElem? (i := 883) (by decide +kernel)) rfl
theorem mm_559 : Cond.methodLink RX9 95 yX9_hasB ∈ BW := bw_mk (List.mem_of_getElem? (i := 885) (by decide +kernel)) rfl
theorem mm_560 : Cond.static yX9_hasB ∈ BW := bw_mk (List.mem_of_getElem? (i := 886) (by decide +kernel)) rfl
theorem mm_561 : Cond.methodLink RX9 98 yX9_hasC ∈ BW := bw_mk (List.mem_of_getElem? (i := 888) (by decide +kernel)) rfl
theorem mm_562 : Cond.static yX9_hasC ∈ BW := bw_mk (List.mem_of_getElem? (i := 889) (by decide +kernel)) rfl
theorem mm_563 : Cond.code yX9_wipe cX9_wipe 4 (some .int) ∈ BW := bw_mk (List.mem_of_getElem? (i := 894) (by decide +kernel)) rfl
theorem mm_564 : Cond.code yX9_instruction cX9_instruction 3 (some .int) ∈ BW := bw_mk (List.mem_of_getElem? (i := 898) (by decide +kernel)) rfl
theorem mm_565 : Cond.fieldLink RX9 104 "ShrinkBenchModel" "status" "I" ∈ BW := bw_mk (List.mem_of_getElem? (i := 759) (by decide +kernel)) rfl
theorem mm_566 : Cond.code yX9_status cX9_status 1 (some .int) ∈ BW := bw_mk (List.mem_of_getElem? (i := 902) (by decide +kernel)) rfl
theorem mm_567 : Cond.code yX9_feed cX9_feed 2 (some .int) ∈ BW := bw_mk (List.mem_of_getElem? (i := 906) (by decide +kernel)) rfl
theorem mm_568 : Cond.fieldLink RX9 107 "ShrinkBenchModel" "taped" "I" ∈ BW := bw_mk (List.mem_of_getElem? (i := 761) (by decide +kernel)) rfl
theorem mm_569 : Cond.code yX9_keep cX9_keep 2 (some .int) ∈ BW := bw_mk (List.mem_of_getElem? (i := 910) (by decide +kernel)) rfl
theorem mm_570 : Cond.code yX9_at cX9_at 2 (some .int) ∈ BW := bw_mk (List.mem_of_getElem? (i := 914) (by decide +kernel)) rfl
theorem mm_571 : Cond.code yX9_fromTape cX9_fromTape 2 none ∈ BW := bw_mk (List.mem_of_getElem? (i := 923) (by decide +kernel)) rfl
theorem mm_572 : Cond.fieldLink RX9 110 "ShrinkBenchModel" "size" "I" ∈ BW := bw_mk (List.mem_of_getElem? (i := 763) (by decide +kernel)) rfl
theorem mm_573 : Cond.code yX9_toTape cX9_toTape 2 (some .int) ∈ BW := bw_mk (List.mem_of_getElem? (i := 935) (by decide +kernel)) rfl
theorem mm_574 : Cond.code yX9_leaveOut cX9_leaveOut 4 none ∈ BW := bw_mk (List.mem_of_getElem? (i := 927) (by decide +kernel)) rfl
theorem mm_575 : Cond.code yX9_comes cX9_comes 4 none ∈ BW := bw_mk (List.mem_of_getElem? (i := 931) (by decide +kernel)) rfl
theorem mm_576 : Cond.constant RX9 113 (1000000000) ∈ BW := bw_mk (List.mem_of_getElem? (i := 919) (by decide +kernel)) rfl
theorem mm_577 : Cond.methodLink RX9 114 yX9_fromTape ∈ BW := bw_mk (List.mem_of_getElem? (i := 920) (by decide +kernel)) rfl
theorem mm_578 : Cond.instanceMethod yX9_fromTape ∈ BW := bw_mk (List.mem_of_getElem? (i := 922) (by decide +kernel)) rfl
theorem mm_579 : Cond.selects RX9 yX9_fromTape yX9_fromTape ∈ BW := bw_mk (List.mem_of_getElem? (i := 23) (by decide +kernel)) rfl
theorem mm_580 : Cond.methodLink RX9 117 yX9_leaveOut ∈ BW := bw_mk (List.mem_of_getElem? (i := 924) (by decide +kernel)) rfl
theorem mm_581 : Cond.instanceMethod yX9_leaveOut ∈ BW := bw_mk (List.mem_of_getElem? (i := 926) (by decide +kernel)) rfl
theorem mm_582 : Cond.selects RX9 yX9_leaveOut yX9_leaveOut ∈ BW := bw_mk (List.mem_of_getElem? (i := 24) (by decide +kernel)) rfl
theorem mm_583 : Cond.methodLink RX9 121 yX9_comes ∈ BW := bw_mk (List.mem_of_getElem? (i := 928) (by decide +kernel)) rfl
theorem mm_584 : Cond.instanceMethod yX9_comes ∈ BW := bw_mk (List.mem_of_getElem? (i := 930) (by decide +kernel)) rfl
theorem mm_585 : Cond.selects RX9 yX9_comes yX9_comes ∈ BW := bw_mk (List.mem_of_getElem? (i := 25) (by decide +kernel)) rfl
theorem mm_586 : Cond.methodLink RX9 124 yX9_toTape ∈ BW := bw_mk (List.mem_of_getElem? (i := 932) (by decide +kernel)) rfl
theorem mm_587 : Cond.instanceMethod yX9_toTape ∈ BW := bw_mk (List.mem_of_getElem? (i := 934) (by decide +kernel)) rfl
theorem mm_588 : Cond.selects RX9 yX9_toTape yX9_toTape ∈ BW := bw_mk (List.mem_of_getElem? (i := 26) (by decide +kernel)) rfl
theorem mm_589 : Cond.code yX9_change cX9_change 11 (some .int) ∈ BW := bw_mk (List.mem_of_getElem? (i := 918) (by decide +kernel)) rfl
theorem mm_590 : Cond.code yX9_fails cX9_fails 2 (some .boolean) ∈ BW := bw_mk (List.mem_of_getElem? (i := 955) (by decide +kernel)) rfl
theorem mm_591 : Cond.fieldLink RX9 131 "ShrinkBenchModel" "verdict" "I" ∈ BW := bw_mk (List.mem_of_getElem? (i := 768) (by decide +kernel)) rfl
theorem mm_592 : Cond.code yX9_failsAt cX9_failsAt 3 (some .boolean) ∈ BW := bw_mk (List.mem_of_getElem? (i := 951) (by decide +kernel)) rfl
theorem mm_593 : Cond.fieldLink RX9 134 "ShrinkBenchModel" "place" "I" ∈ BW := bw_mk (List.mem_of_getElem? (i := 769) (by decide +kernel)) rfl
theorem mm_594 : Cond.methodLink RX9 154 yX9_fails ∈ BW := bw_mk (List.mem_of_getElem? (i := 952) (by decide +kernel)) rfl
theorem mm_595 : Cond.instanceMethod yX9_fails ∈ BW := bw_mk (List.mem_of_getElem? (i := 954) (by decide +kernel)) rfl
theorem mm_596 : Cond.selects RX9 yX9_fails yX9_fails ∈ BW := bw_mk (List.mem_of_getElem? (i := 30) (by decide +kernel)) rfl
theorem mm_597 : Cond.code yX9_branch cX9_branch 3 none ∈ BW := bw_mk (List.mem_of_getElem? (i := 959) (by decide +kernel)) rfl
theorem mm_598 : Cond.fieldLink RX9 140 "ShrinkBenchModel" "read" "I" ∈ BW := bw_mk (List.mem_of_getElem? (i := 771) (by decide +kernel)) rfl
theorem mm_599 : Cond.fieldLink RX9 128 "ShrinkBenchModel" "opened" "I" ∈ BW := bw_mk (List.mem_of_getElem? (i := 767) (by decide +kernel)) rfl
theorem mm_600 : Cond.methodLink RX9 146 yX9_failsAt ∈ BW := bw_mk (List.mem_of_getElem? (i := 948) (by decide +kernel)) rfl
theorem mm_601 : Cond.instanceMethod yX9_failsAt ∈ BW := bw_mk (List.mem_of_getElem? (i := 950) (by decide +kernel)) rfl
theorem mm_602 : Cond.selects RX9 yX9_failsAt yX9_failsAt ∈ BW := bw_mk (List.mem_of_getElem? (i := 29) (by decide +kernel)) rfl
theorem mm_603 : Cond.methodLink RX9 150 yX9_branch ∈ BW := bw_mk (List.mem_of_getElem? (i := 956) (by decide +kernel)) rfl
theorem mm_604 : Cond.instanceMethod yX9_branch ∈ BW := bw_mk (List.mem_of_getElem? (i := 958) (by decide +kernel)) rfl
theorem mm_605 : Cond.selects RX9 yX9_branch yX9_branch ∈ BW := bw_mk (List.mem_of_getElem? (i := 31) (by decide +kernel)) rfl
theorem mm_606 : Cond.code yX9_does cX9_does 4 (some .boolean) ∈ BW := bw_mk (List.mem_of_getElem? (i := 947) (by decide +kernel)) rfl
theorem mm_607 : Cond.fieldLink RX9 137 "ShrinkBenchModel" "steps" "I" ∈ BW := bw_mk (List.mem_of_getElem? (i := 770) (by decide +kernel)) rfl
theorem mm_608 : Cond.methodLink RX9 143 yX9_does ∈ BW := bw_mk (List.mem_of_getElem? (i := 944) (by decide +kernel)) rfl
theorem mm_609 : Cond.instanceMethod yX9_does ∈ BW := bw_mk (List.mem_of_getElem? (i := 946) (by decide +kernel)) rfl
theorem mm_610 : Cond.selects RX9 yX9_does yX9_does ∈ BW := bw_mk (List.mem_of_getElem? (i := 28) (by decide +kernel)) rfl
theorem mm_611 : Cond.code yX9_goThrough cX9_goThrough 2 none ∈ BW := bw_mk (List.mem_of_getElem? (i := 943) (by decide +kernel)) rfl
theorem mm_612 : Cond.code yX9_digits cX9_digits 3 (some .int) ∈ BW := bw_mk (List.mem_of_getElem? (i := 994) (by decide +kernel)) rfl
theorem mm_613 : Cond.code yX9_openAt cX9_openAt 2 (some .int) ∈ BW := bw_mk (List.mem_of_getElem? (i := 967) (by decide +kernel)) rfl
theorem mm_614 : Cond.code yX9_keeps cX9_keeps 2 none ∈ BW := bw_mk (List.mem_of_getElem? (i := 963) (by decide +kernel)) rfl
theorem mm_615 : Cond.fieldLink RX9 157 "ShrinkBenchModel" "toldKind" "I" ∈ BW := bw_mk (List.mem_of_getElem? (i := 773) (by decide +kernel)) rfl
theorem mm_616 : Cond.fieldLink RX9 160 "ShrinkBenchModel" "toldSteps" "I" ∈ BW := bw_mk (List.mem_of_getElem? (i := 775) (by decide +kernel)) rfl
theorem mm_617 : Cond.fieldLink RX9 163 "ShrinkBenchModel" "toldOpen" "I" ∈ BW := bw_mk (List.mem_of_getElem? (i := 776) (by decide +kernel)) rfl
theorem mm_618 : Cond.fieldLink RX9 166 "ShrinkBenchModel" "toldBranches" "I" ∈ BW := bw_mk (List.mem_of_getElem? (i := 777) (by decide +kernel)) rfl
theorem mm_619 : Cond.methodLink RX9 169 yX9_openAt ∈ BW := bw_mk (List.mem_of_getElem? (i := 964) (by decide +kernel)) rfl
theorem mm_620 : Cond.instanceMethod yX9_openAt ∈ BW := bw_mk (List.mem_of_getElem? (i := 966) (by decide +kernel)) rfl
theorem mm_621 : Cond.selects RX9 yX9_openAt yX9_openAt ∈ BW := bw_mk (List.mem_of_getElem? (i := 33) (by decide +kernel)) rfl
theorem mm_622 : Cond.methodLink RX9 173 yX9_goThrough ∈ BW := bw_mk (List.mem_of_getElem? (i := 940) (by decide +kernel)) rfl
theorem mm_623 : Cond.instanceMethod yX9_goThrough ∈ BW := bw_mk (List.mem_of_getElem? (i := 942) (by decide +kernel)) rfl
theorem mm_624 : Cond.selects RX9 yX9_goThrough yX9_goThrough ∈ BW := bw_mk (List.mem_of_getElem? (i := 27) (by decide +kernel)) rfl
theorem mm_625 : Cond.methodLink RX9 176 yX9_keeps ∈ BW := bw_mk (List.mem_of_getElem? (i := 960) (by decide +kernel)) rfl
theorem mm_626 : Cond.instanceMethod yX9_keeps ∈ BW := bw_mk (List.mem_of_getElem? (i := 962) (by decide +kernel)) rfl
theorem mm_627 : Cond.selects RX9 yX9_keeps yX9_keeps ∈ BW := bw_mk (List.mem_of_getElem? (i := 32) (by decide +kernel)) rfl
theorem mm_628 : Cond.code yX9_run cX9_run 1 (some .int) ∈ BW := bw_mk (List.mem_of_getElem? (i := 939) (by decide +kernel)) rfl
theorem mm_629 : Cond.code yX9_told cX9_told 2 (some .int) ∈ BW := bw_mk (List.mem_of_getElem? (i := 971) (by decide +kernel)) rfl
theorem mm_630 : Cond.code yX9_called cX9_called 2 (some .int) ∈ BW := bw_mk (List.mem_of_getElem? (i := 975) (by decide +kernel)) rfl
theorem mm_631 : Cond.code yX9_register cX9_register 2 (some .int) ∈ BW := bw_mk (List.mem_of_getElem? (i := 979) (by decide +kernel)) rfl
theorem mm_632 : Cond.code yX9_turns cX9_turns 2 (some .int) ∈ BW := bw_mk (List.mem_of_getElem? (i := 983) (by decide +kernel)) rfl
theorem mm_633 : Cond.code yX9_shows cX9_shows 2 (some .boolean) ∈ BW := bw_mk (List.mem_of_getElem? (i := 1002) (by decide +kernel)) rfl
theorem mm_634 : Cond.code yX9_comes_ cX9_comes_ 4 (some .int) ∈ BW := bw_mk (List.mem_of_getElem? (i := 998) (by decide +kernel)) rfl
theorem mm_635 : Cond.methodLink RX9 184 yX9_shows ∈ BW := bw_mk (List.mem_of_getElem? (i := 999) (by decide +kernel)) rfl
theorem mm_636 : Cond.instanceMethod yX9_shows ∈ BW := bw_mk (List.mem_of_getElem? (i := 1001) (by decide +kernel)) rfl
theorem mm_637 : Cond.selects RX9 yX9_shows yX9_shows ∈ BW := bw_mk (List.mem_of_getElem? (i := 36) (by decide +kernel)) rfl
theorem mm_638 : Cond.methodLink RX9 179 yX9_digits ∈ BW := bw_mk (List.mem_of_getElem? (i := 992) (by decide +kernel)) rfl
theorem mm_639 : Cond.static yX9_digits ∈ BW := bw_mk (List.mem_of_getElem? (i := 993) (by decide +kernel)) rfl
theorem mm_640 : Cond.methodLink RX9 182 yX9_comes_ ∈ BW := bw_mk (List.mem_of_getElem? (i := 995) (by decide +kernel)) rfl
theorem mm_641 : Cond.instanceMethod yX9_comes_ ∈ BW := bw_mk (List.mem_of_getElem? (i := 997) (by decide +kernel)) rfl
theorem mm_642 : Cond.selects RX9 yX9_comes_ yX9_comes_ ∈ BW := bw_mk (List.mem_of_getElem? (i := 35) (by decide +kernel)) rfl
theorem mm_643 : Cond.code yX9_tries cX9_tries 6 (some .int) ∈ BW := bw_mk (List.mem_of_getElem? (i := 991) (by decide +kernel)) rfl
theorem mm_644 : Cond.methodLink RX9 187 yX9_tries ∈ BW := bw_mk (List.mem_of_getElem? (i := 988) (by decide +kernel)) rfl
theorem mm_645 : Cond.instanceMethod yX9_tries ∈ BW := bw_mk (List.mem_of_getElem? (i := 990) (by decide +kernel)) rfl
theorem mm_646 : Cond.selects RX9 yX9_tries yX9_tries ∈ BW := bw_mk (List.mem_of_getElem? (i := 34) (by decide +kernel)) rfl
theorem mm_647 : Cond.code yX9_attempt cX9_attempt 3 (some .int) ∈ BW := bw_mk (List.mem_of_getElem? (i := 987) (by decide +kernel)) rfl
theorem mm_648 : Cond.code yX9_about cX9_about 7 (some .int) ∈ BW := bw_mk (List.mem_of_getElem? (i := 1006) (by decide +kernel)) rfl
theorem mm_649 : Cond.code yX9_covered cX9_covered 4 (some .int) ∈ BW := bw_mk (List.mem_of_getElem? (i := 1010) (by decide +kernel)) rfl
theorem mm_650 : Cond.code yX9_fromPool cX9_fromPool 3 none ∈ BW := bw_mk (List.mem_of_getElem? (i := 1018) (by decide +kernel)) rfl
theorem mm_651 : Cond.code yX9_fromFirst cX9_fromFirst 3 none ∈ BW := bw_mk (List.mem_of_getElem? (i := 1034) (by decide +kernel)) rfl
theorem mm_652 : Cond.code yX9_pool cX9_pool 3 (some .int) ∈ BW := bw_mk (List.mem_of_getElem? (i := 1014) (by decide +kernel)) rfl
theorem mm_653 : Cond.methodLink RX9 190 yX9_fromPool ∈ BW := bw_mk (List.mem_of_getElem? (i := 1015) (by decide +kernel)) rfl
theorem mm_654 : Cond.instanceMethod yX9_fromPool ∈ BW := bw_mk (List.mem_of_getElem? (i := 1017) (by decide +kernel)) rfl
theorem mm_655 : Cond.selects RX9 yX9_fromPool yX9_fromPool ∈ BW := bw_mk (List.mem_of_getElem? (i := 37) (by decide +kernel)) rfl
theorem mm_656 : Cond.code yX9_isFault cX9_isFault 3 (some .boolean) ∈ BW := bw_mk (List.mem_of_getElem? (i := 1026) (by decide +kernel)) rfl
theorem mm_657 : Cond.code yX9_fault cX9_fault 4 (some .int) ∈ BW := bw_mk (List.mem_of_getElem? (i := 1022) (by decide +kernel)) rfl
theorem mm_658 : Cond.methodLink RX9 194 yX9_isFault ∈ BW := bw_mk (List.mem_of_getElem? (i := 1023) (by decide +kernel)) rfl
theorem mm_659 : Cond.instanceMethod yX9_isFault ∈ BW := bw_mk (List.mem_of_getElem? (i := 1025) (by decide +kernel)) rfl
theorem mm_660 : Cond.selects RX9 yX9_isFault yX9_isFault ∈ BW := bw_mk (List.mem_of_getElem? (i := 38) (by decide +kernel)) rfl
theorem mm_661 : Cond.code yX9_first cX9_first 3 (some .int) ∈ BW := bw_mk (List.mem_of_getElem? (i := 1030) (by decide +kernel)) rfl
theorem mm_662 : Cond.methodLink RX9 197 yX9_fromFirst ∈ BW := bw_mk (List.mem_of_getElem? (i := 1031) (by decide +kernel)) rfl
theorem mm_663 : Cond.instanceMethod yX9_fromFirst ∈ BW := bw_mk (List.mem_of_getElem? (i := 1033) (by decide +kernel)) rfl
theorem mm_664 : Cond.selects RX9 yX9_fromFirst yX9_fromFirst ∈ BW := bw_mk (List.mem_of_getElem? (i := 39) (by decide +kernel)) rfl
theorem mm_665 : Cond.code yX9_toBest cX9_toBest 2 none ∈ BW := bw_mk (List.mem_of_getElem? (i := 1042) (by decide +kernel)) rfl
theorem mm_666 : Cond.fieldLink RX9 200 "ShrinkBenchModel" "bestSize" "I" ∈ BW := bw_mk (List.mem_of_getElem? (i := 791) (by decide +kernel)) rfl
theorem mm_667 : Cond.code yX9_fromBest cX9_fromBest 2 none ∈ BW := bw_mk (List.mem_of_getElem? (i := 1050) (by decide +kernel)) rfl
theorem mm_668 : Cond.fieldLink RX9 203 "ShrinkBenchModel" "ran" "I" ∈ BW := bw_mk (List.mem_of_getElem? (i := 792) (by decide +kernel)) rfl
theorem mm_669 : Cond.methodLink RX9 206 yX9_toBest ∈ BW := bw_mk (List.mem_of_getElem? (i := 1039) (by decide +kernel)) rfl
theorem mm_670 : Cond.instanceMethod yX9_toBest ∈ BW := bw_mk (List.mem_of_getElem? (i := 1041) (by decide +kernel)) rfl
theorem mm_671 : Cond.selects RX9 yX9_toBest yX9_toBest ∈ BW := bw_mk (List.mem_of_getElem? (i := 40) (by decide +kernel)) rfl
theorem mm_672 : Cond.code yX9_holds cX9_holds 2 (some .boolean) ∈ BW := bw_mk (List.mem_of_getElem? (i := 1054) (by decide +kernel)) rfl
theorem mm_673 : Cond.methodLink RX9 209 yX9_fromBest ∈ BW := bw_mk (List.mem_of_getElem? (i := 1047) (by decide +kernel)) rfl
theorem mm_674 : Cond.instanceMethod yX9_fromBest ∈ BW := bw_mk (List.mem_of_getElem? (i := 1049) (by decide +kernel)) rfl
theorem mm_675 : Cond.selects RX9 yX9_fromBest yX9_fromBest ∈ BW := bw_mk (List.mem_of_getElem? (i := 42) (by decide +kernel)) rfl
theorem mm_676 : Cond.methodLink RX9 212 yX9_holds ∈ BW := bw_mk (List.mem_of_getElem? (i := 1051) (by decide +kernel)) rfl
theorem mm_677 : Cond.instanceMethod yX9_holds ∈ BW := bw_mk (List.mem_of_getElem? (i := 1053) (by decide +kernel)) rfl
theorem mm_678 : Cond.selects RX9 yX9_holds yX9_holds ∈ BW := bw_mk (List.mem_of_getElem? (i := 43) (by decide +kernel)) rfl
theorem mm_679 : Cond.code yX9_leavesOut cX9_leavesOut 5 (some .boolean) ∈ BW := bw_mk (List.mem_of_getElem? (i := 1046) (by decide +kernel)) rfl
theorem mm_680 : Cond.code yX9_lessens cX9_lessens 7 (some .boolean) ∈ BW := bw_mk (List.mem_of_getElem? (i := 1058) (by decide +kernel)) rfl
theorem mm_681 : Cond.methodLink RX9 215 yX9_leavesOut ∈ BW := bw_mk (List.mem_of_getElem? (i := 1043) (by decide +kernel)) rfl
theorem mm_682 : Cond.instanceMethod yX9_leavesOut ∈ BW := bw_mk (List.mem_of_getElem? (i := 1045) (by decide +kernel)) rfl
theorem mm_683 : Cond.selects RX9 yX9_leavesOut yX9_leavesOut ∈ BW := bw_mk (List.mem_of_getElem? (i := 41) (by decide +kernel)) rfl
theorem mm_684 : Cond.methodLink RX9 218 yX9_lessens ∈ BW := bw_mk (List.mem_of_getElem? (i := 1055) (by decide +kernel)) rfl
theorem mm_685 : Cond.instanceMethod yX9_lessens ∈ BW := bw_mk (List.mem_of_getElem? (i := 1057) (by decide +kernel)) rfl
theorem mm_686 : Cond.selects RX9 yX9_lessens yX9_lessens ∈ BW := bw_mk (List.mem_of_getElem? (i := 44) (by decide +kernel)) rfl
theorem mm_687 : Cond.code yX9_cut cX9_cut 5 (some .int) ∈ BW := bw_mk (List.mem_of_getElem? (i := 1038) (by decide +kernel)) rfl
theorem mm_688 : Cond.code yX9_runs cX9_runs 1 (some .int) ∈ BW := bw_mk (List.mem_of_getElem? (i := 1062) (by decide +kernel)) rfl
theorem mm_689 : Cond.code yX9_single cX9_single 2 none ∈ BW := bw_mk (List.mem_of_getElem? (i := 1070) (by decide +kernel)) rfl
theorem mm_690 : Cond.methodLink RX9 221 yX9_single ∈ BW := bw_mk (List.mem_of_getElem? (i := 1067) (by decide +kernel)) rfl
theorem mm_691 : Cond.instanceMethod yX9_single ∈ BW := bw_mk (List.mem_of_getElem? (i := 1069) (by decide +kernel)) rfl
theorem mm_692 : Cond.selects RX9 yX9_single yX9_single ∈ BW := bw_mk (List.mem_of_getElem? (i := 45) (by decide +kernel)) rfl
theorem mm_693 : Cond.code yX9_least cX9_least 4 (some .int) ∈ BW := bw_mk (List.mem_of_getElem? (i := 1066) (by decide +kernel)) rfl
theorem mm_694 : Cond.code yX9_unseen cX9_unseen 4 (some .int) ∈ BW := bw_mk (List.mem_of_getElem? (i := 1074) (by decide +kernel)) rfl
theorem mm_695 : Cond.code yX9_merge cX9_merge 5 (some .int) ∈ BW := bw_mk (List.mem_of_getElem? (i := 1078) (by decide +kernel)) rfl
theorem mm_696 : Cond.code yJ9_max_7cf53 cJ9_max_7cf53 2 (some .int) ∈ BW := bw_mk (List.mem_of_getElem? (i := 152) (by decide +kernel)) rfl
theorem mm_697 : Cond.classLink RL 7 RX8 ∈ BW := bw_mk (List.mem_of_getElem? (i := 60) (by decide +kernel)) rfl
theorem mm_698 : Cond.instantiable RX8 10 ∈ BW := bw_mk (List.mem_of_getElem? (i := 61) (by decide +kernel)) rfl
theorem mm_699 : Cond.classLink RL 10 RX9 ∈ BW := bw_mk (List.mem_of_getElem? (i := 748) (by decide +kernel)) rfl
theorem mm_700 : Cond.instantiable RX9 40 ∈ BW := bw_mk (List.mem_of_getElem? (i := 749) (by decide +kernel)) rfl
theorem mm_701 : Cond.methodLink RL 9 yX8_init ∈ BW := bw_mk (List.mem_of_getElem? (i := 62) (by decide +kernel)) rfl
theorem mm_702 : Cond.instanceMethod yX8_init ∈ BW := bw_mk (List.mem_of_getElem? (i := 63) (by decide +kernel)) rfl
theorem mm_703 : Cond.methodLink RL 12 yX9_init ∈ BW := bw_mk (List.mem_of_getElem? (i := 750) (by decide +kernel)) rfl
theorem mm_704 : Cond.instanceMethod yX9_init ∈ BW := bw_mk (List.mem_of_getElem? (i := 751) (by decide +kernel)) rfl
theorem mm_705 : Cond.methodLink RL 13 yX8_code ∈ BW := bw_mk (List.mem_of_getElem? (i := 263) (by decide +kernel)) rfl
theorem mm_706 : Cond.instanceMethod yX8_code ∈ BW := bw_mk (List.mem_of_getElem? (i := 264) (by decide +kernel)) rfl
theorem mm_707 : Cond.selects RX8 yX8_code yX8_code ∈ BW := bw_mk (List.mem_of_getElem? (i := 265) (by decide +kernel)) rfl
theorem mm_708 : Cond.methodLink RL 17 yX9_code ∈ BW := bw_mk (List.mem_of_getElem? (i := 875) (by decide +kernel)) rfl
theorem mm_709 : Cond.instanceMethod yX9_code ∈ BW := bw_mk (List.mem_of_getElem? (i := 876) (by decide +kernel)) rfl
theorem mm_710 : Cond.selects RX9 yX9_code yX9_code ∈ BW := bw_mk (List.mem_of_getElem? (i := 877) (by decide +kernel)) rfl
theorem mm_711 : Cond.methodLink RL 18 yX8_wipe ∈ BW := bw_mk (List.mem_of_getElem? (i := 294) (by decide +kernel)) rfl
theorem mm_712 : Cond.instanceMethod yX8_wipe ∈ BW := bw_mk (List.mem_of_getElem? (i := 295) (by decide +kernel)) rfl
theorem mm_713 : Cond.selects RX8 yX8_wipe yX8_wipe ∈ BW := bw_mk (List.mem_of_getElem? (i := 296) (by decide +kernel)) rfl
theorem mm_714 : Cond.methodLink RL 22 yX9_wipe ∈ BW := bw_mk (List.mem_of_getElem? (i := 891) (by decide +kernel)) rfl
theorem mm_715 : Cond.instanceMethod yX9_wipe ∈ BW := bw_mk (List.mem_of_getElem? (i := 892) (by decide +kernel)) rfl
theorem mm_716 : Cond.selects RX9 yX9_wipe yX9_wipe ∈ BW := bw_mk (List.mem_of_getElem? (i := 893) (by decide +kernel)) rfl
theorem mm_717 : Cond.methodLink RL 23 yX8_instruction ∈ BW := bw_mk (List.mem_of_getElem? (i := 318) (by decide +kernel)) rfl
theorem mm_718 : Cond.instanceMethod yX8_instruction ∈ BW := bw_mk (List.mem_of_getElem? (i := 319) (by decide +kernel)) rfl
theorem mm_719 : Cond.selects RX8 yX8_instruction yX8_instruction ∈ BW := bw_mk (List.mem_of_getElem? (i := 320) (by decide +kernel)) rfl
theorem mm_720 : Cond.methodLink RL 27 yX9_instruction ∈ BW := bw_mk (List.mem_of_getElem? (i := 895) (by decide +kernel)) rfl
theorem mm_721 : Cond.instanceMethod yX9_instruction ∈ BW := bw_mk (List.mem_of_getElem? (i := 896) (by decide +kernel)) rfl
theorem mm_722 : Cond.selects RX9 yX9_instruction yX9_instruction ∈ BW := bw_mk (List.mem_of_getElem? (i := 897) (by decide +kernel)) rfl
theorem mm_723 : Cond.methodLink RL 28 yX8_status ∈ BW := bw_mk (List.mem_of_getElem? (i := 335) (by decide +kernel)) rfl
theorem mm_724 : Cond.instanceMethod yX8_status ∈ BW := bw_mk (List.mem_of_getElem? (i := 336) (by decide +kernel)) rfl
theorem mm_725 : Cond.selects RX8 yX8_status yX8_status ∈ BW := bw_mk (List.mem_of_getElem? (i := 337) (by decide +kernel)) rfl
theorem mm_726 : Cond.methodLink RL 31 yX9_status ∈ BW := bw_mk (List.mem_of_getElem? (i := 899) (by decide +kernel)) rfl
theorem mm_727 : Cond.instanceMethod yX9_status ∈ BW := bw_mk (List.mem_of_getElem? (i := 900) (by decide +kernel)) rfl
theorem mm_728 : Cond.selects RX9 yX9_status yX9_status ∈ BW := bw_mk (List.mem_of_getElem? (i := 901) (by decide +kernel)) rfl
theorem mm_729 : Cond.methodLink RL 32 yX8_feed ∈ BW := bw_mk (List.mem_of_getElem? (i := 339) (by decide +kernel)) rfl
theorem mm_730 : Cond.instanceMethod yX8_feed ∈ BW := bw_mk (List.mem_of_getElem? (i := 340) (by decide +kernel)) rfl
theorem mm_731 : Cond.selects RX8 yX8_feed yX8_feed ∈ BW := bw_mk (List.mem_of_getElem? (i := 341) (by decide +kernel)) rfl
theorem mm_732 : Cond.methodLink RL 36 yX9_feed ∈ BW := bw_mk (List.mem_of_getElem? (i := 903) (by decide +kernel)) rfl
theorem mm_733 : Cond.instanceMethod yX9_feed ∈ BW := bw_mk (List.mem_of_getElem? (i := 904) (by decide +kernel)) rfl
theorem mm_734 : Cond.selects RX9 yX9_feed yX9_feed ∈ BW := bw_mk (List.mem_of_getElem? (i := 905) (by decide +kernel)) rfl
theorem mm_735 : Cond.methodLink RL 37 yX8_keep ∈ BW := bw_mk (List.mem_of_getElem? (i := 354) (by decide +kernel)) rfl
theorem mm_736 : Cond.instanceMethod yX8_keep ∈ BW := bw_mk (List.mem_of_getElem? (i := 355) (by decide +kernel)) rfl
theorem mm_737 : Cond.selects RX8 yX8_keep yX8_keep ∈ BW := bw_mk (List.mem_of_getElem? (i := 356) (by decide +kernel)) rfl
theorem mm_738 : Cond.methodLink RL 40 yX9_keep ∈ BW := bw_mk (List.mem_of_getElem? (i := 907) (by decide +kernel)) rfl
theorem mm_739 : Cond.instanceMethod yX9_keep ∈ BW := bw_mk (List.mem_of_getElem? (i := 908) (by decide +kernel)) rfl
theorem mm_740 : Cond.selects RX9 yX9_keep yX9_keep ∈ BW := bw_mk (List.mem_of_getElem? (i := 909) (by decide +kernel)) rfl
theorem mm_741 : Cond.methodLink RL 41 yX8_at ∈ BW := bw_mk (List.mem_of_getElem? (i := 362) (by decide +kernel)) rfl
theorem mm_742 : Cond.instanceMethod yX8_at ∈ BW := bw_mk (List.mem_of_getElem? (i := 363) (by decide +kernel)) rfl
theorem mm_743 : Cond.selects RX8 yX8_at yX8_at ∈ BW := bw_mk (List.mem_of_getElem? (i := 364) (by decide +kernel)) rfl
theorem mm_744 : Cond.methodLink RL 44 yX9_at ∈ BW := bw_mk (List.mem_of_getElem? (i := 911) (by decide +kernel)) rfl
theorem mm_745 : Cond.instanceMethod yX9_at ∈ BW := bw_mk (List.mem_of_getElem? (i := 912) (by decide +kernel)) rfl
theorem mm_746 : Cond.selects RX9 yX9_at yX9_at ∈ BW := bw_mk (List.mem_of_getElem? (i := 913) (by decide +kernel)) rfl
theorem mm_747 : Cond.methodLink RL 45 yX8_change ∈ BW := bw_mk (List.mem_of_getElem? (i := 374) (by decide +kernel)) rfl
theorem mm_748 : Cond.instanceMethod yX8_change ∈ BW := bw_mk (List.mem_of_getElem? (i := 375) (by decide +kernel)) rfl
theorem mm_749 : Cond.selects RX8 yX8_change yX8_change ∈ BW := bw_mk (List.mem_of_getElem? (i := 376) (by decide +kernel)) rfl
theorem mm_750 : Cond.methodLink RL 48 yX9_change ∈ BW := bw_mk (List.mem_of_getElem? (i := 915) (by decide +kernel)) rfl
theorem mm_751 : Cond.instanceMethod yX9_change ∈ BW := bw_mk (List.mem_of_getElem? (i := 916) (by decide +kernel)) rfl
theorem mm_752 : Cond.selects RX9 yX9_change yX9_change ∈ BW := bw_mk (List.mem_of_getElem? (i := 917) (by decide +kernel)) rfl
theorem mm_753 : Cond.methodLink RL 49 yX8_run ∈ BW := bw_mk (List.mem_of_getElem? (i := 446) (by decide +kernel)) rfl
theorem mm_754 : Cond.instanceMethod yX8_run ∈ BW := bw_mk (List.mem_of_getElem? (i := 447) (by decide +kernel)) rfl
theorem mm_755 : Cond.selects RX8 yX8_run yX8_run ∈ BW := bw_mk (List.mem_of_getElem? (i := 448) (by decide +kernel)) rfl
theorem mm_756 : Cond.methodLink RL 52 yX9_run ∈ BW := bw_mk (List.mem_of_getElem? (i := 936) (by decide +kernel)) rfl
theorem mm_757 : Cond.instanceMethod yX9_run ∈ BW := bw_mk (List.mem_of_getElem? (i := 937) (by decide +kernel)) rfl
theorem mm_758 : Cond.selects RX9 yX9_run yX9_run ∈ BW := bw_mk (List.mem_of_getElem? (i := 938) (by decide +kernel)) rfl
theorem mm_759 : Cond.methodLink RL 53 yX8_told ∈ BW := bw_mk (List.mem_of_getElem? (i := 522) (by decide +kernel)) rfl
theorem mm_760 : Cond.instanceMethod yX8_told ∈ BW := bw_mk (List.mem_of_getElem? (i := 523) (by decide +kernel)) rfl
theorem mm_761 : Cond.selects RX8 yX8_told yX8_told ∈ BW := bw_mk (List.mem_of_getElem? (i := 524) (by decide +kernel)) rfl
theorem mm_762 : Cond.methodLink RL 56 yX9_told ∈ BW := bw_mk (List.mem_of_getElem? (i := 968) (by decide +kernel)) rfl
theorem mm_763 : Cond.instanceMethod yX9_told ∈ BW := bw_mk (List.mem_of_getElem? (i := 969) (by decide +kernel)) rfl
theorem mm_764 : Cond.selects RX9 yX9_told yX9_told ∈ BW := bw_mk (List.mem_of_getElem? (i := 970) (by decide +kernel)) rfl
theorem mm_765 : Cond.methodLink RL 57 yX8_called ∈ BW := bw_mk (List.mem_of_getElem? (i := 542) (by decide +kernel)) rfl
theorem mm_766 : Cond.instanceMethod yX8_called ∈ BW := bw_mk (List.mem_of_getElem? (i := 543) (by decide +kernel)) rfl
theorem mm_767 : Cond.selects RX8 yX8_called yX8_called ∈ BW := bw_mk (List.mem_of_getElem? (i := 544) (by decide +kernel)) rfl
theorem mm_768 : Cond.methodLink RL 60 yX9_called ∈ BW := bw_mk (List.mem_of_getElem? (i := 972) (by decide +kernel)) rfl
theorem mm_769 : Cond.instanceMethod yX9_called ∈ BW := bw_mk (List.mem_of_getElem? (i := 973) (by decide +kernel)) rfl
theorem mm_770 : Cond.selects RX9 yX9_called yX9_called ∈ BW := bw_mk (List.mem_of_getElem? (i := 974) (by decide +kernel)) rfl
theorem mm_771 : Cond.methodLink RL 61 yX8_register ∈ BW := bw_mk (List.mem_of_getElem? (i := 547) (by decide +kernel)) rfl
theorem mm_772 : Cond.instanceMethod yX8_register ∈ BW := bw_mk (List.mem_of_getElem? (i := 548) (by decide +kernel)) rfl
theorem mm_773 : Cond.selects RX8 yX8_register yX8_register ∈ BW := bw_mk (List.mem_of_getElem? (i := 549) (by decide +kernel)) rfl
theorem mm_774 : Cond.methodLink RL 64 yX9_register ∈ BW := bw_mk (List.mem_of_getElem? (i := 976) (by decide +kernel)) rfl
theorem mm_775 : Cond.instanceMethod yX9_register ∈ BW := bw_mk (List.mem_of_getElem? (i := 977) (by decide +kernel)) rfl
theorem mm_776 : Cond.selects RX9 yX9_register yX9_register ∈ BW := bw_mk (List.mem_of_getElem? (i := 978) (by decide +kernel)) rfl
theorem mm_777 : Cond.methodLink RL 65 yX8_turns ∈ BW := bw_mk (List.mem_of_getElem? (i := 555) (by decide +kernel)) rfl
theorem mm_778 : Cond.instanceMethod yX8_turns ∈ BW := bw_mk (List.mem_of_getElem? (i := 556) (by decide +kernel)) rfl
theorem mm_779 : Cond.selects RX8 yX8_turns yX8_turns ∈ BW := bw_mk (List.mem_of_getElem? (i := 557) (by decide +kernel)) rfl
theorem mm_780 : Cond.methodLink RL 68 yX9_turns ∈ BW := bw_mk (List.mem_of_getElem? (i := 980) (by decide +kernel)) rfl
theorem mm_781 : Cond.instanceMethod yX9_turns ∈ BW := bw_mk (List.mem_of_getElem? (i := 981) (by decide +kernel)) rfl
theorem mm_782 : Cond.selects RX9 yX9_turns yX9_turns ∈ BW := bw_mk (List.mem_of_getElem? (i := 982) (by decide +kernel)) rfl
theorem mm_783 : Cond.methodLink RL 69 yX8_attempt ∈ BW := bw_mk (List.mem_of_getElem? (i := 564) (by decide +kernel)) rfl
theorem mm_784 : Cond.instanceMethod yX8_attempt ∈ BW := bw_mk (List.mem_of_getElem? (i := 565) (by decide +kernel)) rfl
theorem mm_785 : Cond.selects RX8 yX8_attempt yX8_attempt ∈ BW := bw_mk (List.mem_of_getElem? (i := 566) (by decide +kernel)) rfl
theorem mm_786 : Cond.methodLink RL 72 yX9_attempt ∈ BW := bw_mk (List.mem_of_getElem? (i := 984) (by decide +kernel)) rfl
theorem mm_787 : Cond.instanceMethod yX9_attempt ∈ BW := bw_mk (List.mem_of_getElem? (i := 985) (by decide +kernel)) rfl
theorem mm_788 : Cond.selects RX9 yX9_attempt yX9_attempt ∈ BW := bw_mk (List.mem_of_getElem? (i := 986) (by decide +kernel)) rfl
theorem mm_789 : Cond.methodLink RL 73 yX8_about ∈ BW := bw_mk (List.mem_of_getElem? (i := 619) (by decide +kernel)) rfl
theorem mm_790 : Cond.instanceMethod yX8_about ∈ BW := bw_mk (List.mem_of_getElem? (i := 620) (by decide +kernel)) rfl
theorem mm_791 : Cond.selects RX8 yX8_about yX8_about ∈ BW := bw_mk (List.mem_of_getElem? (i := 621) (by decide +kernel)) rfl
theorem mm_792 : Cond.methodLink RL 76 yX9_about ∈ BW := bw_mk (List.mem_of_getElem? (i := 1003) (by decide +kernel)) rfl
theorem mm_793 : Cond.instanceMethod yX9_about ∈ BW := bw_mk (List.mem_of_getElem? (i := 1004) (by decide +kernel)) rfl
theorem mm_794 : Cond.selects RX9 yX9_about yX9_about ∈ BW := bw_mk (List.mem_of_getElem? (i := 1005) (by decide +kernel)) rfl
theorem mm_795 : Cond.methodLink RL 77 yX8_covered ∈ BW := bw_mk (List.mem_of_getElem? (i := 643) (by decide +kernel)) rfl
theorem mm_796 : Cond.instanceMethod yX8_covered ∈ BW := bw_mk (List.mem_of_getElem? (i := 644) (by decide +kernel)) rfl
theorem mm_797 : Cond.selects RX8 yX8_covered yX8_covered ∈ BW := bw_mk (List.mem_of_getElem? (i := 645) (by decide +kernel)) rfl
theorem mm_798 : Cond.methodLink RL 81 yX9_covered ∈ BW := bw_mk (List.mem_of_getElem? (i := 1007) (by decide +kernel)) rfl
theorem mm_799 : Cond.instanceMethod yX9_covered ∈ BW := bw_mk (List.mem_of_getElem? (i := 1008) (by decide +kernel)) rfl
theorem mm_800 : Cond.selects RX9 yX9_covered yX9_covered ∈ BW := bw_mk (List.mem_of_getElem? (i := 1009) (by decide +kernel)) rfl
theorem mm_801 : Cond.methodLink RL 82 yX8_pool ∈ BW := bw_mk (List.mem_of_getElem? (i := 649) (by decide +kernel)) rfl
theorem mm_802 : Cond.instanceMethod yX8_pool ∈ BW := bw_mk (List.mem_of_getElem? (i := 650) (by decide +kernel)) rfl
theorem mm_803 : Cond.selects RX8 yX8_pool yX8_pool ∈ BW := bw_mk (List.mem_of_getElem? (i := 651) (by decide +kernel)) rfl
theorem mm_804 : Cond.methodLink RL 85 yX9_pool ∈ BW := bw_mk (List.mem_of_getElem? (i := 1011) (by decide +kernel)) rfl
theorem mm_805 : Cond.instanceMethod yX9_pool ∈ BW := bw_mk (List.mem_of_getElem? (i := 1012) (by decide +kernel)) rfl
theorem mm_806 : Cond.selects RX9 yX9_pool yX9_pool ∈ BW := bw_mk (List.mem_of_getElem? (i := 1013) (by decide +kernel)) rfl
theorem mm_807 : Cond.methodLink RL 86 yX8_fault ∈ BW := bw_mk (List.mem_of_getElem? (i := 655) (by decide +kernel)) rfl
theorem mm_808 : Cond.instanceMethod yX8_fault ∈ BW := bw_mk (List.mem_of_getElem? (i := 656) (by decide +kernel)) rfl
theorem mm_809 : Cond.selects RX8 yX8_fault yX8_fault ∈ BW := bw_mk (List.mem_of_getElem? (i := 657) (by decide +kernel)) rfl
theorem mm_810 : Cond.methodLink RL 89 yX9_fault ∈ BW := bw_mk (List.mem_of_getElem? (i := 1019) (by decide +kernel)) rfl
theorem mm_811 : Cond.instanceMethod yX9_fault ∈ BW := bw_mk (List.mem_of_getElem? (i := 1020) (by decide +kernel)) rfl
theorem mm_812 : Cond.selects RX9 yX9_fault yX9_fault ∈ BW := bw_mk (List.mem_of_getElem? (i := 1021) (by decide +kernel)) rfl
theorem mm_813 : Cond.methodLink RL 90 yX8_first ∈ BW := bw_mk (List.mem_of_getElem? (i := 663) (by decide +kernel)) rfl
theorem mm_814 : Cond.instanceMethod yX8_first ∈ BW := bw_mk (List.mem_of_getElem? (i := 664) (by decide +kernel)) rfl
theorem mm_815 : Cond.selects RX8 yX8_first yX8_first ∈ BW := bw_mk (List.mem_of_getElem? (i := 665) (by decide +kernel)) rfl
theorem mm_816 : Cond.methodLink RL 93 yX9_first ∈ BW := bw_mk (List.mem_of_getElem? (i := 1027) (by decide +kernel)) rfl
theorem mm_817 : Cond.instanceMethod yX9_first ∈ BW := bw_mk (List.mem_of_getElem? (i := 1028) (by decide +kernel)) rfl
theorem mm_818 : Cond.selects RX9 yX9_first yX9_first ∈ BW := bw_mk (List.mem_of_getElem? (i := 1029) (by decide +kernel)) rfl
theorem mm_819 : Cond.methodLink RL 94 yX8_cut ∈ BW := bw_mk (List.mem_of_getElem? (i := 676) (by decide +kernel)) rfl
theorem mm_820 : Cond.instanceMethod yX8_cut ∈ BW := bw_mk (List.mem_of_getElem? (i := 677) (by decide +kernel)) rfl
theorem mm_821 : Cond.selects RX8 yX8_cut yX8_cut ∈ BW := bw_mk (List.mem_of_getElem? (i := 678) (by decide +kernel)) rfl
theorem mm_822 : Cond.methodLink RL 97 yX9_cut ∈ BW := bw_mk (List.mem_of_getElem? (i := 1035) (by decide +kernel)) rfl
theorem mm_823 : Cond.instanceMethod yX9_cut ∈ BW := bw_mk (List.mem_of_getElem? (i := 1036) (by decide +kernel)) rfl
theorem mm_824 : Cond.selects RX9 yX9_cut yX9_cut ∈ BW := bw_mk (List.mem_of_getElem? (i := 1037) (by decide +kernel)) rfl
theorem mm_825 : Cond.methodLink RL 98 yX8_runs ∈ BW := bw_mk (List.mem_of_getElem? (i := 714) (by decide +kernel)) rfl
theorem mm_826 : Cond.instanceMethod yX8_runs ∈ BW := bw_mk (List.mem_of_getElem? (i := 715) (by decide +kernel)) rfl
theorem mm_827 : Cond.selects RX8 yX8_runs yX8_runs ∈ BW := bw_mk (List.mem_of_getElem? (i := 716) (by decide +kernel)) rfl
theorem mm_828 : Cond.methodLink RL 101 yX9_runs ∈ BW := bw_mk (List.mem_of_getElem? (i := 1059) (by decide +kernel)) rfl
theorem mm_829 : Cond.instanceMethod yX9_runs ∈ BW := bw_mk (List.mem_of_getElem? (i := 1060) (by decide +kernel)) rfl
theorem mm_830 : Cond.selects RX9 yX9_runs yX9_runs ∈ BW := bw_mk (List.mem_of_getElem? (i := 1061) (by decide +kernel)) rfl
theorem mm_831 : Cond.methodLink RL 102 yX8_least ∈ BW := bw_mk (List.mem_of_getElem? (i := 722) (by decide +kernel)) rfl
theorem mm_832 : Cond.instanceMethod yX8_least ∈ BW := bw_mk (List.mem_of_getElem? (i := 723) (by decide +kernel)) rfl
theorem mm_833 : Cond.selects RX8 yX8_least yX8_least ∈ BW := bw_mk (List.mem_of_getElem? (i := 724) (by decide +kernel)) rfl
theorem mm_834 : Cond.methodLink RL 105 yX9_least ∈ BW := bw_mk (List.mem_of_getElem? (i := 1063) (by decide +kernel)) rfl
theorem mm_835 : Cond.instanceMethod yX9_least ∈ BW := bw_mk (List.mem_of_getElem? (i := 1064) (by decide +kernel)) rfl
theorem mm_836 : Cond.selects RX9 yX9_least yX9_least ∈ BW := bw_mk (List.mem_of_getElem? (i := 1065) (by decide +kernel)) rfl
theorem mm_837 : Cond.methodLink RL 106 yX8_unseen ∈ BW := bw_mk (List.mem_of_getElem? (i := 731) (by decide +kernel)) rfl
theorem mm_838 : Cond.instanceMethod yX8_unseen ∈ BW := bw_mk (List.mem_of_getElem? (i := 732) (by decide +kernel)) rfl
theorem mm_839 : Cond.selects RX8 yX8_unseen yX8_unseen ∈ BW := bw_mk (List.mem_of_getElem? (i := 733) (by decide +kernel)) rfl
theorem mm_840 : Cond.methodLink RL 109 yX9_unseen ∈ BW := bw_mk (List.mem_of_getElem? (i := 1071) (by decide +kernel)) rfl
theorem mm_841 : Cond.instanceMethod yX9_unseen ∈ BW := bw_mk (List.mem_of_getElem? (i := 1072) (by decide +kernel)) rfl
theorem mm_842 : Cond.selects RX9 yX9_unseen yX9_unseen ∈ BW := bw_mk (List.mem_of_getElem? (i := 1073) (by decide +kernel)) rfl
theorem mm_843 : Cond.methodLink RL 110 yX8_merge ∈ BW := bw_mk (List.mem_of_getElem? (i := 740) (by decide +kernel)) rfl
theorem mm_844 : Cond.instanceMethod yX8_merge ∈ BW := bw_mk (List.mem_of_getElem? (i := 741) (by decide +kernel)) rfl
theorem mm_845 : Cond.selects RX8 yX8_merge yX8_merge ∈ BW := bw_mk (List.mem_of_getElem? (i := 742) (by decide +kernel)) rfl
theorem mm_846 : Cond.methodLink RL 113 yX9_merge ∈ BW := bw_mk (List.mem_of_getElem? (i := 1075) (by decide +kernel)) rfl
theorem mm_847 : Cond.instanceMethod yX9_merge ∈ BW := bw_mk (List.mem_of_getElem? (i := 1076) (by decide +kernel)) rfl
theorem mm_848 : Cond.selects RX9 yX9_merge yX9_merge ∈ BW := bw_mk (List.mem_of_getElem? (i := 1077) (by decide +kernel)) rfl
