/-! each word of a method that the law calls, at its place in the tables -/
theorem mem_fm {big ws : List Cond} (ps : List Nat) (hp : ws = ps.filterMap (fun i => big[i]?)) : ∀ w ∈ ws, w ∈ big := by
  intro w hw
  rw [hp] at hw
  obtain ⟨i, -, hi⟩ := List.mem_filterMap.mp hw
  exact List.mem_of_getElem? hi
set_option maxRecDepth 20000 in
theorem mw_0 : (.code yX10_init cX10_init 1 none : Cond) ∈ lw_tbl := List.mem_of_getElem? (i := 112) (by decide +kernel)
set_option maxRecDepth 20000 in
theorem mw_1 : (.methodLink RX10 1 objectInit : Cond) ∈ lw_tbl := List.mem_of_getElem? (i := 113) (by decide +kernel)
set_option maxRecDepth 20000 in
theorem mw_2 : (.instanceMethod objectInit : Cond) ∈ lw_tbl := List.mem_of_getElem? (i := 114) (by decide +kernel)
set_option maxRecDepth 20000 in
theorem mw_3 : (.code objectInit ⟨#[0xb1]⟩ 1 none : Cond) ∈ lw_tbl := List.mem_of_getElem? (i := 115) (by decide +kernel)
set_option maxRecDepth 20000 in
theorem mw_4 : (.classLink RX10 7 RX6 : Cond) ∈ lw_tbl := List.mem_of_getElem? (i := 116) (by decide +kernel)
set_option maxRecDepth 20000 in
theorem mw_5 : (.instantiable RX6 6 : Cond) ∈ lw_tbl := List.mem_of_getElem? (i := 117) (by decide +kernel)
set_option maxRecDepth 20000 in
theorem mw_6 : (.initialized RX6 : Cond) ∈ lw_tbl := List.mem_of_getElem? (i := 94) (by decide +kernel)
set_option maxRecDepth 20000 in
theorem mw_7 : (.fieldLink RX10 10 "FallingWords" "now" "LFallingWords$State;" : Cond) ∈ lw_tbl := List.mem_of_getElem? (i := 376) (by decide +kernel)
set_option maxRecDepth 20000 in
theorem mw_8 : (.fieldLink RX10 16 "FallingWords" "trial" "LFallingWords$State;" : Cond) ∈ lw_tbl := List.mem_of_getElem? (i := 377) (by decide +kernel)
set_option maxRecDepth 20000 in
theorem mw_9 : (.classLink RX10 19 RX0 : Cond) ∈ lw_tbl := List.mem_of_getElem? (i := 208) (by decide +kernel)
set_option maxRecDepth 20000 in
theorem mw_10 : (.instantiable RX0 2 : Cond) ∈ lw_tbl := List.mem_of_getElem? (i := 209) (by decide +kernel)
set_option maxRecDepth 20000 in
theorem mw_11 : (.initialized RX0 : Cond) ∈ lw_tbl := List.mem_of_getElem? (i := 97) (by decide +kernel)
set_option maxRecDepth 20000 in
theorem mw_12 : (.fieldLink RX10 22 "FallingWords" "history" "LFallingWords$History;" : Cond) ∈ lw_tbl := List.mem_of_getElem? (i := 378) (by decide +kernel)
set_option maxRecDepth 20000 in
theorem mw_13 : (.classLink RX10 26 RX3 : Cond) ∈ lw_tbl := List.mem_of_getElem? (i := 225) (by decide +kernel)
set_option maxRecDepth 20000 in
theorem mw_14 : (.instantiable RX3 5 : Cond) ∈ lw_tbl := List.mem_of_getElem? (i := 226) (by decide +kernel)
set_option maxRecDepth 20000 in
theorem mw_15 : (.initialized RX3 : Cond) ∈ lw_tbl := List.mem_of_getElem? (i := 98) (by decide +kernel)
set_option maxRecDepth 20000 in
theorem mw_16 : (.fieldLink RX10 29 "FallingWords" "reduction" "LFallingWords$Reduction;" : Cond) ∈ lw_tbl := List.mem_of_getElem? (i := 379) (by decide +kernel)
set_option maxRecDepth 20000 in
theorem mw_17 : (.classLink RX10 33 RX2 : Cond) ∈ lw_tbl := List.mem_of_getElem? (i := 253) (by decide +kernel)
set_option maxRecDepth 20000 in
theorem mw_18 : (.instantiable RX2 7 : Cond) ∈ lw_tbl := List.mem_of_getElem? (i := 254) (by decide +kernel)
set_option maxRecDepth 20000 in
theorem mw_19 : (.initialized RX2 : Cond) ∈ lw_tbl := List.mem_of_getElem? (i := 99) (by decide +kernel)
set_option maxRecDepth 20000 in
theorem mw_20 : (.fieldLink RX10 36 "FallingWords" "reach" "LFallingWords$Reach;" : Cond) ∈ lw_tbl := List.mem_of_getElem? (i := 380) (by decide +kernel)
set_option maxRecDepth 20000 in
theorem mw_21 : (.classLink RX10 40 RX1 : Cond) ∈ lw_tbl := List.mem_of_getElem? (i := 286) (by decide +kernel)
set_option maxRecDepth 20000 in
theorem mw_22 : (.instantiable RX1 6 : Cond) ∈ lw_tbl := List.mem_of_getElem? (i := 287) (by decide +kernel)
set_option maxRecDepth 20000 in
theorem mw_23 : (.initialized RX1 : Cond) ∈ lw_tbl := List.mem_of_getElem? (i := 100) (by decide +kernel)
set_option maxRecDepth 20000 in
theorem mw_24 : (.fieldLink RX10 43 "FallingWords" "overlaps" "LFallingWords$Overlaps;" : Cond) ∈ lw_tbl := List.mem_of_getElem? (i := 381) (by decide +kernel)
set_option maxRecDepth 20000 in
theorem mw_25 : (.classLink RX10 47 RX8 : Cond) ∈ lw_tbl := List.mem_of_getElem? (i := 317) (by decide +kernel)
set_option maxRecDepth 20000 in
theorem mw_26 : (.instantiable RX8 7 : Cond) ∈ lw_tbl := List.mem_of_getElem? (i := 318) (by decide +kernel)
set_option maxRecDepth 20000 in
theorem mw_27 : (.initialized RX8 : Cond) ∈ lw_tbl := List.mem_of_getElem? (i := 101) (by decide +kernel)
set_option maxRecDepth 20000 in
theorem mw_28 : (.fieldLink RX10 50 "FallingWords" "text" "LFallingWords$Text;" : Cond) ∈ lw_tbl := List.mem_of_getElem? (i := 382) (by decide +kernel)
set_option maxRecDepth 20000 in
theorem mw_29 : (.classLink RX10 54 RX5 : Cond) ∈ lw_tbl := List.mem_of_getElem? (i := 353) (by decide +kernel)
set_option maxRecDepth 20000 in
theorem mw_30 : (.instantiable RX5 4 : Cond) ∈ lw_tbl := List.mem_of_getElem? (i := 354) (by decide +kernel)
set_option maxRecDepth 20000 in
theorem mw_31 : (.initialized RX5 : Cond) ∈ lw_tbl := List.mem_of_getElem? (i := 102) (by decide +kernel)
set_option maxRecDepth 20000 in
theorem mw_32 : (.fieldLink RX10 57 "FallingWords" "script" "LFallingWords$Script;" : Cond) ∈ lw_tbl := List.mem_of_getElem? (i := 383) (by decide +kernel)
set_option maxRecDepth 20000 in
theorem mw_33 : (.instanceMethod yX6_init : Cond) ∈ lw_tbl := List.mem_of_getElem? (i := 119) (by decide +kernel)
set_option maxRecDepth 20000 in
theorem mw_34 : (.code yX6_init cX6_init 1 none : Cond) ∈ lw_tbl := List.mem_of_getElem? (i := 120) (by decide +kernel)
set_option maxRecDepth 20000 in
theorem mw_35 : (.methodLink RX6 3 objectInit : Cond) ∈ lw_tbl := List.mem_of_getElem? (i := 121) (by decide +kernel)
set_option maxRecDepth 20000 in
theorem mw_36 : (.classLink RX6 9 RX4 : Cond) ∈ lw_tbl := List.mem_of_getElem? (i := 122) (by decide +kernel)
set_option maxRecDepth 20000 in
theorem mw_37 : (.instantiable RX4 6 : Cond) ∈ lw_tbl := List.mem_of_getElem? (i := 123) (by decide +kernel)
set_option maxRecDepth 20000 in
theorem mw_38 : (.initialized RX4 : Cond) ∈ lw_tbl := List.mem_of_getElem? (i := 95) (by decide +kernel)
set_option maxRecDepth 20000 in
theorem mw_39 : (.fieldLink RX6 12 "FallingWords$State" "rules" "LFallingWords$Rules;" : Cond) ∈ lw_tbl := List.mem_of_getElem? (i := 179) (by decide +kernel)
set_option maxRecDepth 20000 in
theorem mw_40 : (.classLink RX6 18 RX7 : Cond) ∈ lw_tbl := List.mem_of_getElem? (i := 159) (by decide +kernel)
set_option maxRecDepth 20000 in
theorem mw_41 : (.instantiable RX7 3 : Cond) ∈ lw_tbl := List.mem_of_getElem? (i := 160) (by decide +kernel)
set_option maxRecDepth 20000 in
theorem mw_42 : (.initialized RX7 : Cond) ∈ lw_tbl := List.mem_of_getElem? (i := 96) (by decide +kernel)
set_option maxRecDepth 20000 in
theorem mw_43 : (.fieldLink RX6 21 "FallingWords$State" "store" "LFallingWords$Store;" : Cond) ∈ lw_tbl := List.mem_of_getElem? (i := 183) (by decide +kernel)
set_option maxRecDepth 20000 in
theorem mw_44 : (.fieldLink RX6 27 "FallingWords$State" "word" "I" : Cond) ∈ lw_tbl := List.mem_of_getElem? (i := 185) (by decide +kernel)
set_option maxRecDepth 20000 in
theorem mw_45 : (.fieldLink RX6 31 "FallingWords$State" "choosing" "I" : Cond) ∈ lw_tbl := List.mem_of_getElem? (i := 188) (by decide +kernel)
set_option maxRecDepth 20000 in
theorem mw_46 : (.instanceMethod yX4_init : Cond) ∈ lw_tbl := List.mem_of_getElem? (i := 125) (by decide +kernel)
set_option maxRecDepth 20000 in
theorem mw_47 : (.code yX4_init cX4_init 1 none : Cond) ∈ lw_tbl := List.mem_of_getElem? (i := 126) (by decide +kernel)
set_option maxRecDepth 20000 in
theorem mw_48 : (.methodLink RX4 3 objectInit : Cond) ∈ lw_tbl := List.mem_of_getElem? (i := 127) (by decide +kernel)
set_option maxRecDepth 20000 in
theorem mw_49 : (.arrayClass .int : Cond) ∈ lw_tbl := List.mem_of_getElem? (i := 158) (by decide +kernel)
set_option maxRecDepth 20000 in
theorem mw_50 : (.fieldLink RX4 9 "FallingWords$Rules" "left" "[I" : Cond) ∈ lw_tbl := List.mem_of_getElem? (i := 128) (by decide +kernel)
set_option maxRecDepth 20000 in
theorem mw_51 : (.fieldLink RX4 15 "FallingWords$Rules" "right" "[I" : Cond) ∈ lw_tbl := List.mem_of_getElem? (i := 131) (by decide +kernel)
set_option maxRecDepth 20000 in
theorem mw_52 : (.fieldLink RX4 18 "FallingWords$Rules" "leftLength" "[I" : Cond) ∈ lw_tbl := List.mem_of_getElem? (i := 133) (by decide +kernel)
set_option maxRecDepth 20000 in
theorem mw_53 : (.fieldLink RX4 21 "FallingWords$Rules" "rightLength" "[I" : Cond) ∈ lw_tbl := List.mem_of_getElem? (i := 136) (by decide +kernel)
set_option maxRecDepth 20000 in
theorem mw_54 : (.fieldLink RX4 24 "FallingWords$Rules" "times" "[I" : Cond) ∈ lw_tbl := List.mem_of_getElem? (i := 138) (by decide +kernel)
set_option maxRecDepth 20000 in
theorem mw_55 : (.instanceMethod yX7_init : Cond) ∈ lw_tbl := List.mem_of_getElem? (i := 162) (by decide +kernel)
set_option maxRecDepth 20000 in
theorem mw_56 : (.code yX7_init cX7_init 1 none : Cond) ∈ lw_tbl := List.mem_of_getElem? (i := 163) (by decide +kernel)
set_option maxRecDepth 20000 in
theorem mw_57 : (.methodLink RX7 3 objectInit : Cond) ∈ lw_tbl := List.mem_of_getElem? (i := 164) (by decide +kernel)
set_option maxRecDepth 20000 in
theorem mw_58 : (.fieldLink RX7 9 "FallingWords$Store" "words" "[I" : Cond) ∈ lw_tbl := List.mem_of_getElem? (i := 165) (by decide +kernel)
set_option maxRecDepth 20000 in
theorem mw_59 : (.fieldLink RX7 15 "FallingWords$Store" "normals" "[I" : Cond) ∈ lw_tbl := List.mem_of_getElem? (i := 167) (by decide +kernel)
set_option maxRecDepth 20000 in
theorem mw_60 : (.instanceMethod yX0_init : Cond) ∈ lw_tbl := List.mem_of_getElem? (i := 211) (by decide +kernel)
set_option maxRecDepth 20000 in
theorem mw_61 : (.code yX0_init cX0_init 2 none : Cond) ∈ lw_tbl := List.mem_of_getElem? (i := 212) (by decide +kernel)
set_option maxRecDepth 20000 in
theorem mw_62 : (.methodLink RX0 3 objectInit : Cond) ∈ lw_tbl := List.mem_of_getElem? (i := 213) (by decide +kernel)
set_option maxRecDepth 20000 in
theorem mw_63 : (.classLink RX0 9 RX6 : Cond) ∈ lw_tbl := List.mem_of_getElem? (i := 214) (by decide +kernel)
set_option maxRecDepth 20000 in
theorem mw_64 : (.fieldLink RX0 11 "FallingWords$History" "states" "[LFallingWords$State;" : Cond) ∈ lw_tbl := List.mem_of_getElem? (i := 217) (by decide +kernel)
set_option maxRecDepth 20000 in
theorem mw_65 : (.instanceMethod yX3_init : Cond) ∈ lw_tbl := List.mem_of_getElem? (i := 228) (by decide +kernel)
set_option maxRecDepth 20000 in
theorem mw_66 : (.code yX3_init cX3_init 1 none : Cond) ∈ lw_tbl := List.mem_of_getElem? (i := 229) (by decide +kernel)
set_option maxRecDepth 20000 in
theorem mw_67 : (.methodLink RX3 3 objectInit : Cond) ∈ lw_tbl := List.mem_of_getElem? (i := 230) (by decide +kernel)
set_option maxRecDepth 20000 in
theorem mw_68 : (.fieldLink RX3 9 "FallingWords$Reduction" "words" "[I" : Cond) ∈ lw_tbl := List.mem_of_getElem? (i := 231) (by decide +kernel)
set_option maxRecDepth 20000 in
theorem mw_69 : (.fieldLink RX3 15 "FallingWords$Reduction" "rulesUsed" "[I" : Cond) ∈ lw_tbl := List.mem_of_getElem? (i := 232) (by decide +kernel)
set_option maxRecDepth 20000 in
theorem mw_70 : (.instanceMethod yX2_init : Cond) ∈ lw_tbl := List.mem_of_getElem? (i := 256) (by decide +kernel)
set_option maxRecDepth 20000 in
theorem mw_71 : (.code yX2_init cX2_init 1 none : Cond) ∈ lw_tbl := List.mem_of_getElem? (i := 257) (by decide +kernel)
set_option maxRecDepth 20000 in
theorem mw_72 : (.methodLink RX2 3 objectInit : Cond) ∈ lw_tbl := List.mem_of_getElem? (i := 258) (by decide +kernel)
set_option maxRecDepth 20000 in
theorem mw_73 : (.fieldLink RX2 9 "FallingWords$Reach" "words" "[I" : Cond) ∈ lw_tbl := List.mem_of_getElem? (i := 259) (by decide +kernel)
set_option maxRecDepth 20000 in
theorem mw_74 : (.fieldLink RX2 15 "FallingWords$Reach" "seats" "[I" : Cond) ∈ lw_tbl := List.mem_of_getElem? (i := 260) (by decide +kernel)
set_option maxRecDepth 20000 in
theorem mw_75 : (.instanceMethod yX1_init : Cond) ∈ lw_tbl := List.mem_of_getElem? (i := 289) (by decide +kernel)
set_option maxRecDepth 20000 in
theorem mw_76 : (.code yX1_init cX1_init 1 none : Cond) ∈ lw_tbl := List.mem_of_getElem? (i := 290) (by decide +kernel)
set_option maxRecDepth 20000 in
theorem mw_77 : (.methodLink RX1 3 objectInit : Cond) ∈ lw_tbl := List.mem_of_getElem? (i := 291) (by decide +kernel)
set_option maxRecDepth 20000 in
theorem mw_78 : (.instanceMethod yX8_init : Cond) ∈ lw_tbl := List.mem_of_getElem? (i := 320) (by decide +kernel)
set_option maxRecDepth 20000 in
theorem mw_79 : (.code yX8_init cX8_init 1 none : Cond) ∈ lw_tbl := List.mem_of_getElem? (i := 321) (by decide +kernel)
set_option maxRecDepth 20000 in
theorem mw_80 : (.methodLink RX8 3 objectInit : Cond) ∈ lw_tbl := List.mem_of_getElem? (i := 322) (by decide +kernel)
set_option maxRecDepth 20000 in
theorem mw_81 : (.arrayClass .char : Cond) ∈ lw_tbl := List.mem_of_getElem? (i := 352) (by decide +kernel)
set_option maxRecDepth 20000 in
theorem mw_82 : (.fieldLink RX8 9 "FallingWords$Text" "characters" "[C" : Cond) ∈ lw_tbl := List.mem_of_getElem? (i := 323) (by decide +kernel)
set_option maxRecDepth 20000 in
theorem mw_83 : (.instanceMethod yX5_init : Cond) ∈ lw_tbl := List.mem_of_getElem? (i := 356) (by decide +kernel)
set_option maxRecDepth 20000 in
theorem mw_84 : (.code yX5_init cX5_init 1 none : Cond) ∈ lw_tbl := List.mem_of_getElem? (i := 357) (by decide +kernel)
set_option maxRecDepth 20000 in
theorem mw_85 : (.methodLink RX5 3 objectInit : Cond) ∈ lw_tbl := List.mem_of_getElem? (i := 358) (by decide +kernel)
set_option maxRecDepth 20000 in
theorem mw_86 : (.code yX11_init cX11_init 1 none : Cond) ∈ lw_tbl := List.mem_of_getElem? (i := 789) (by decide +kernel)
set_option maxRecDepth 20000 in
theorem mw_87 : (.methodLink RX11 1 objectInit : Cond) ∈ lw_tbl := List.mem_of_getElem? (i := 790) (by decide +kernel)
set_option maxRecDepth 20000 in
theorem mw_88 : (.fieldLink RX11 7 "FallingWordsModel" "s" "[I" : Cond) ∈ lw_tbl := List.mem_of_getElem? (i := 791) (by decide +kernel)
set_option maxRecDepth 20000 in
theorem mw_89 : (.fieldLink RX11 13 "FallingWordsModel" "was" "[I" : Cond) ∈ lw_tbl := List.mem_of_getElem? (i := 792) (by decide +kernel)
set_option maxRecDepth 20000 in
theorem mw_90 : (.fieldLink RX11 16 "FallingWordsModel" "begun" "[I" : Cond) ∈ lw_tbl := List.mem_of_getElem? (i := 793) (by decide +kernel)
set_option maxRecDepth 20000 in
theorem mw_91 : (.fieldLink RX11 19 "FallingWordsModel" "aside" "[I" : Cond) ∈ lw_tbl := List.mem_of_getElem? (i := 794) (by decide +kernel)
set_option maxRecDepth 20000 in
theorem mw_92 : (.fieldLink RX11 22 "FallingWordsModel" "text" "[C" : Cond) ∈ lw_tbl := List.mem_of_getElem? (i := 796) (by decide +kernel)
set_option maxRecDepth 20000 in
theorem mw_93 : (.fieldLink RX11 26 "FallingWordsModel" "row" "[I" : Cond) ∈ lw_tbl := List.mem_of_getElem? (i := 805) (by decide +kernel)
set_option maxRecDepth 20000 in
theorem mw_94 : (.fieldLink RX11 29 "FallingWordsModel" "rowRule" "[I" : Cond) ∈ lw_tbl := List.mem_of_getElem? (i := 806) (by decide +kernel)
set_option maxRecDepth 20000 in
theorem mw_95 : (.fieldLink RX11 32 "FallingWordsModel" "found" "[I" : Cond) ∈ lw_tbl := List.mem_of_getElem? (i := 809) (by decide +kernel)
set_option maxRecDepth 20000 in
theorem mw_96 : (.code yX10_drop cX10_drop 2 (some .int) : Cond) ∈ lw_tbl := List.mem_of_getElem? (i := 404) (by decide +kernel)
set_option maxRecDepth 20000 in
theorem mw_97 : (.constant RX10 71 (-1000001) : Cond) ∈ lw_tbl := List.mem_of_getElem? (i := 409) (by decide +kernel)
set_option maxRecDepth 20000 in
theorem mw_98 : (.instanceMethod yX4_contains : Cond) ∈ lw_tbl := List.mem_of_getElem? (i := 407) (by decide +kernel)
set_option maxRecDepth 20000 in
theorem mw_99 : (.selects RX4 yX4_contains yX4_contains : Cond) ∈ lw_tbl := List.mem_of_getElem? (i := 0) (by decide +kernel)
set_option maxRecDepth 20000 in
theorem mw_100 : (.code yX4_contains cX4_contains 2 (some .boolean) : Cond) ∈ lw_tbl := List.mem_of_getElem? (i := 408) (by decide +kernel)
set_option maxRecDepth 20000 in
theorem mw_101 : (.fieldLink RX4 33 "FallingWords$Rules" "size" "I" : Cond) ∈ lw_tbl := List.mem_of_getElem? (i := 143) (by decide +kernel)
set_option maxRecDepth 20000 in
theorem mw_102 : (.methodLink RX10 72 yX10_startTrial : Cond) ∈ lw_tbl := List.mem_of_getElem? (i := 410) (by decide +kernel)
set_option maxRecDepth 20000 in
theorem mw_103 : (.instanceMethod yX10_startTrial : Cond) ∈ lw_tbl := List.mem_of_getElem? (i := 412) (by decide +kernel)
set_option maxRecDepth 20000 in
theorem mw_104 : (.selects RX10 yX10_startTrial yX10_startTrial : Cond) ∈ lw_tbl := List.mem_of_getElem? (i := 1) (by decide +kernel)
set_option maxRecDepth 20000 in
theorem mw_105 : (.initialized RX10 : Cond) ∈ lw_tbl := List.mem_of_getElem? (i := 93) (by decide +kernel)
set_option maxRecDepth 20000 in
theorem mw_106 : (.code yX10_startTrial cX10_startTrial 1 none : Cond) ∈ lw_tbl := List.mem_of_getElem? (i := 413) (by decide +kernel)
set_option maxRecDepth 20000 in
theorem mw_107 : (.instanceMethod yX6_takeOver : Cond) ∈ lw_tbl := List.mem_of_getElem? (i := 416) (by decide +kernel)
set_option maxRecDepth 20000 in
theorem mw_108 : (.selects RX6 yX6_takeOver yX6_takeOver : Cond) ∈ lw_tbl := List.mem_of_getElem? (i := 2) (by decide +kernel)
set_option maxRecDepth 20000 in
theorem mw_109 : (.code yX6_takeOver cX6_takeOver 2 none : Cond) ∈ lw_tbl := List.mem_of_getElem? (i := 417) (by decide +kernel)
set_option maxRecDepth 20000 in
theorem mw_110 : (.fieldLink RX6 41 "FallingWords$State" "taken" "I" : Cond) ∈ lw_tbl := List.mem_of_getElem? (i := 191) (by decide +kernel)
set_option maxRecDepth 20000 in
theorem mw_111 : (.fieldLink RX6 44 "FallingWords$State" "steps" "I" : Cond) ∈ lw_tbl := List.mem_of_getElem? (i := 193) (by decide +kernel)
set_option maxRecDepth 20000 in
theorem mw_112 : (.instanceMethod yX4_takeOver : Cond) ∈ lw_tbl := List.mem_of_getElem? (i := 420) (by decide +kernel)
set_option maxRecDepth 20000 in
theorem mw_113 : (.selects RX4 yX4_takeOver yX4_takeOver : Cond) ∈ lw_tbl := List.mem_of_getElem? (i := 3) (by decide +kernel)
set_option maxRecDepth 20000 in
theorem mw_114 : (.code yX4_takeOver cX4_takeOver 2 none : Cond) ∈ lw_tbl := List.mem_of_getElem? (i := 421) (by decide +kernel)
set_option maxRecDepth 20000 in
theorem mw_115 : (.methodLink RX4 27 arraycopyName : Cond) ∈ lw_tbl := List.mem_of_getElem? (i := 422) (by decide +kernel)
set_option maxRecDepth 20000 in
theorem mw_116 : (.native arraycopyName : Cond) ∈ lw_tbl := List.mem_of_getElem? (i := 424) (by decide +kernel)
set_option maxRecDepth 20000 in
theorem mw_117 : (.static arraycopyName : Cond) ∈ lw_tbl := List.mem_of_getElem? (i := 423) (by decide +kernel)
set_option maxRecDepth 20000 in
theorem mw_118 : (.initialized "java/lang/System" : Cond) ∈ lw_tbl := List.mem_of_getElem? (i := 104) (by decide +kernel)
set_option maxRecDepth 20000 in
theorem mw_119 : (.instanceMethod yX7_takeOver : Cond) ∈ lw_tbl := List.mem_of_getElem? (i := 427) (by decide +kernel)
set_option maxRecDepth 20000 in
theorem mw_120 : (.selects RX7 yX7_takeOver yX7_takeOver : Cond) ∈ lw_tbl := List.mem_of_getElem? (i := 4) (by decide +kernel)
set_option maxRecDepth 20000 in
theorem mw_121 : (.code yX7_takeOver cX7_takeOver 2 none : Cond) ∈ lw_tbl := List.mem_of_getElem? (i := 428) (by decide +kernel)
set_option maxRecDepth 20000 in
theorem mw_122 : (.methodLink RX7 18 arraycopyName : Cond) ∈ lw_tbl := List.mem_of_getElem? (i := 429) (by decide +kernel)
set_option maxRecDepth 20000 in
theorem mw_123 : (.fieldLink RX7 24 "FallingWords$Store" "size" "I" : Cond) ∈ lw_tbl := List.mem_of_getElem? (i := 169) (by decide +kernel)
set_option maxRecDepth 20000 in
theorem mw_124 : (.instanceMethod yX6_removeRule : Cond) ∈ lw_tbl := List.mem_of_getElem? (i := 432) (by decide +kernel)
set_option maxRecDepth 20000 in
theorem mw_125 : (.selects RX6 yX6_removeRule yX6_removeRule : Cond) ∈ lw_tbl := List.mem_of_getElem? (i := 5) (by decide +kernel)
set_option maxRecDepth 20000 in
theorem mw_126 : (.code yX6_removeRule cX6_removeRule 2 none : Cond) ∈ lw_tbl := List.mem_of_getElem? (i := 433) (by decide +kernel)
set_option maxRecDepth 20000 in
theorem mw_127 : (.instanceMethod yX4_remove : Cond) ∈ lw_tbl := List.mem_of_getElem? (i := 436) (by decide +kernel)
set_option maxRecDepth 20000 in
theorem mw_128 : (.selects RX4 yX4_remove yX4_remove : Cond) ∈ lw_tbl := List.mem_of_getElem? (i := 6) (by decide +kernel)
set_option maxRecDepth 20000 in
theorem mw_129 : (.code yX4_remove cX4_remove 3 none : Cond) ∈ lw_tbl := List.mem_of_getElem? (i := 437) (by decide +kernel)
set_option maxRecDepth 20000 in
theorem mw_130 : (.methodLink RX4 47 yX4_contains : Cond) ∈ lw_tbl := List.mem_of_getElem? (i := 438) (by decide +kernel)
set_option maxRecDepth 20000 in
theorem mw_131 : (.methodLink RX10 79 yX10_keepTrial : Cond) ∈ lw_tbl := List.mem_of_getElem? (i := 439) (by decide +kernel)
set_option maxRecDepth 20000 in
theorem mw_132 : (.instanceMethod yX10_keepTrial : Cond) ∈ lw_tbl := List.mem_of_getElem? (i := 441) (by decide +kernel)
set_option maxRecDepth 20000 in
theorem mw_133 : (.selects RX10 yX10_keepTrial yX10_keepTrial : Cond) ∈ lw_tbl := List.mem_of_getElem? (i := 7) (by decide +kernel)
set_option maxRecDepth 20000 in
theorem mw_134 : (.code yX10_keepTrial cX10_keepTrial 1 none : Cond) ∈ lw_tbl := List.mem_of_getElem? (i := 442) (by decide +kernel)
set_option maxRecDepth 20000 in
theorem mw_135 : (.instanceMethod yX0_keep : Cond) ∈ lw_tbl := List.mem_of_getElem? (i := 445) (by decide +kernel)
set_option maxRecDepth 20000 in
theorem mw_136 : (.selects RX0 yX0_keep yX0_keep : Cond) ∈ lw_tbl := List.mem_of_getElem? (i := 8) (by decide +kernel)
set_option maxRecDepth 20000 in
theorem mw_137 : (.code yX0_keep cX0_keep 2 none : Cond) ∈ lw_tbl := List.mem_of_getElem? (i := 446) (by decide +kernel)
set_option maxRecDepth 20000 in
theorem mw_138 : (.fieldLink RX0 18 "FallingWords$History" "size" "I" : Cond) ∈ lw_tbl := List.mem_of_getElem? (i := 218) (by decide +kernel)
set_option maxRecDepth 20000 in
theorem mw_139 : (.methodLink RX0 22 yX0_forgetOldest : Cond) ∈ lw_tbl := List.mem_of_getElem? (i := 447) (by decide +kernel)
set_option maxRecDepth 20000 in
theorem mw_140 : (.instanceMethod yX0_forgetOldest : Cond) ∈ lw_tbl := List.mem_of_getElem? (i := 449) (by decide +kernel)
set_option maxRecDepth 20000 in
theorem mw_141 : (.selects RX0 yX0_forgetOldest yX0_forgetOldest : Cond) ∈ lw_tbl := List.mem_of_getElem? (i := 9) (by decide +kernel)
set_option maxRecDepth 20000 in
theorem mw_142 : (.code yX0_forgetOldest cX0_forgetOldest 3 none : Cond) ∈ lw_tbl := List.mem_of_getElem? (i := 450) (by decide +kernel)
set_option maxRecDepth 20000 in
theorem mw_143 : (.methodLink RL 13 yX10_drop : Cond) ∈ lw_tbl := List.mem_of_getElem? (i := 401) (by decide +kernel)
set_option maxRecDepth 20000 in
theorem mw_144 : (.instanceMethod yX10_drop : Cond) ∈ lw_tbl := List.mem_of_getElem? (i := 402) (by decide +kernel)
set_option maxRecDepth 20000 in
theorem mw_145 : (.selects RX10 yX10_drop yX10_drop : Cond) ∈ lw_tbl := List.mem_of_getElem? (i := 403) (by decide +kernel)
set_option maxRecDepth 20000 in
theorem mw_146 : (.code yX11_drop cX11_drop 2 (some .int) : Cond) ∈ lw_tbl := List.mem_of_getElem? (i := 876) (by decide +kernel)
set_option maxRecDepth 20000 in
theorem mw_147 : (.methodLink RX11 85 yX11_keeps : Cond) ∈ lw_tbl := List.mem_of_getElem? (i := 877) (by decide +kernel)
set_option maxRecDepth 20000 in
theorem mw_148 : (.instanceMethod yX11_keeps : Cond) ∈ lw_tbl := List.mem_of_getElem? (i := 879) (by decide +kernel)
set_option maxRecDepth 20000 in
theorem mw_149 : (.selects RX11 yX11_keeps yX11_keeps : Cond) ∈ lw_tbl := List.mem_of_getElem? (i := 58) (by decide +kernel)
set_option maxRecDepth 20000 in
theorem mw_150 : (.initialized RX11 : Cond) ∈ lw_tbl := List.mem_of_getElem? (i := 103) (by decide +kernel)
set_option maxRecDepth 20000 in
theorem mw_151 : (.code yX11_keeps cX11_keeps 2 none : Cond) ∈ lw_tbl := List.mem_of_getElem? (i := 880) (by decide +kernel)
set_option maxRecDepth 20000 in
theorem mw_152 : (.methodLink RX11 88 yX11_drops : Cond) ∈ lw_tbl := List.mem_of_getElem? (i := 881) (by decide +kernel)
set_option maxRecDepth 20000 in
theorem mw_153 : (.instanceMethod yX11_drops : Cond) ∈ lw_tbl := List.mem_of_getElem? (i := 883) (by decide +kernel)
set_option maxRecDepth 20000 in
theorem mw_154 : (.selects RX11 yX11_drops yX11_drops : Cond) ∈ lw_tbl := List.mem_of_getElem? (i := 59) (by decide +kernel)
set_option maxRecDepth 20000 in
theorem mw_155 : (.code yX11_drops cX11_drops 3 (some .int) : Cond) ∈ lw_tbl := List.mem_of_getElem? (i := 884) (by decide +kernel)
set_option maxRecDepth 20000 in
theorem mw_156 : (.constant RX11 78 (-1000001) : Cond) ∈ lw_tbl := List.mem_of_getElem? (i := 892) (by decide +kernel)
set_option maxRecDepth 20000 in
theorem mw_157 : (.methodLink RX11 82 yX11_isRule : Cond) ∈ lw_tbl := List.mem_of_getElem? (i := 885) (by decide +kernel)
set_option maxRecDepth 20000 in
theorem mw_158 : (.instanceMethod yX11_isRule : Cond) ∈ lw_tbl := List.mem_of_getElem? (i := 887) (by decide +kernel)
set_option maxRecDepth 20000 in
theorem mw_159 : (.selects RX11 yX11_isRule yX11_isRule : Cond) ∈ lw_tbl := List.mem_of_getElem? (i := 60) (by decide +kernel)
set_option maxRecDepth 20000 in
theorem mw_160 : (.code yX11_isRule cX11_isRule 2 (some .boolean) : Cond) ∈ lw_tbl := List.mem_of_getElem? (i := 888) (by decide +kernel)
set_option maxRecDepth 20000 in
theorem mw_161 : (.methodLink RX11 44 yX11_in : Cond) ∈ lw_tbl := List.mem_of_getElem? (i := 889) (by decide +kernel)
set_option maxRecDepth 20000 in
theorem mw_162 : (.static yX11_in : Cond) ∈ lw_tbl := List.mem_of_getElem? (i := 890) (by decide +kernel)
set_option maxRecDepth 20000 in
theorem mw_163 : (.code yX11_in cX11_in 3 (some .boolean) : Cond) ∈ lw_tbl := List.mem_of_getElem? (i := 891) (by decide +kernel)
set_option maxRecDepth 20000 in
theorem mw_164 : (.methodLink RX11 91 yX11_acted : Cond) ∈ lw_tbl := List.mem_of_getElem? (i := 893) (by decide +kernel)
set_option maxRecDepth 20000 in
theorem mw_165 : (.instanceMethod yX11_acted : Cond) ∈ lw_tbl := List.mem_of_getElem? (i := 895) (by decide +kernel)
set_option maxRecDepth 20000 in
theorem mw_166 : (.selects RX11 yX11_acted yX11_acted : Cond) ∈ lw_tbl := List.mem_of_getElem? (i := 61) (by decide +kernel)
set_option maxRecDepth 20000 in
theorem mw_167 : (.code yX11_acted cX11_acted 3 (some .int) : Cond) ∈ lw_tbl := List.mem_of_getElem? (i := 896) (by decide +kernel)
set_option maxRecDepth 20000 in
theorem mw_168 : (.fieldLink RX11 79 "FallingWordsModel" "states" "I" : Cond) ∈ lw_tbl := List.mem_of_getElem? (i := 795) (by decide +kernel)
set_option maxRecDepth 20000 in
theorem mw_169 : (.methodLink RL 17 yX11_drop : Cond) ∈ lw_tbl := List.mem_of_getElem? (i := 873) (by decide +kernel)
set_option maxRecDepth 20000 in
theorem mw_170 : (.instanceMethod yX11_drop : Cond) ∈ lw_tbl := List.mem_of_getElem? (i := 874) (by decide +kernel)
set_option maxRecDepth 20000 in
theorem mw_171 : (.selects RX11 yX11_drop yX11_drop : Cond) ∈ lw_tbl := List.mem_of_getElem? (i := 875) (by decide +kernel)
set_option maxRecDepth 20000 in
theorem mw_172 : (.code yX10_way cX10_way 3 (some .int) : Cond) ∈ lw_tbl := List.mem_of_getElem? (i := 455) (by decide +kernel)
set_option maxRecDepth 20000 in
theorem mw_173 : (.instanceMethod yX6_setChoosing : Cond) ∈ lw_tbl := List.mem_of_getElem? (i := 458) (by decide +kernel)
set_option maxRecDepth 20000 in
theorem mw_174 : (.selects RX6 yX6_setChoosing yX6_setChoosing : Cond) ∈ lw_tbl := List.mem_of_getElem? (i := 10) (by decide +kernel)
set_option maxRecDepth 20000 in
theorem mw_175 : (.code yX6_setChoosing cX6_setChoosing 2 none : Cond) ∈ lw_tbl := List.mem_of_getElem? (i := 459) (by decide +kernel)
set_option maxRecDepth 20000 in
theorem mw_176 : (.methodLink RL 18 yX10_way : Cond) ∈ lw_tbl := List.mem_of_getElem? (i := 452) (by decide +kernel)
set_option maxRecDepth 20000 in
theorem mw_177 : (.instanceMethod yX10_way : Cond) ∈ lw_tbl := List.mem_of_getElem? (i := 453) (by decide +kernel)
set_option maxRecDepth 20000 in
theorem mw_178 : (.selects RX10 yX10_way yX10_way : Cond) ∈ lw_tbl := List.mem_of_getElem? (i := 454) (by decide +kernel)
set_option maxRecDepth 20000 in
theorem mw_179 : (.code yX11_way cX11_way 2 (some .int) : Cond) ∈ lw_tbl := List.mem_of_getElem? (i := 900) (by decide +kernel)
set_option maxRecDepth 20000 in
theorem mw_180 : (.methodLink RX11 94 yX11_goes : Cond) ∈ lw_tbl := List.mem_of_getElem? (i := 901) (by decide +kernel)
set_option maxRecDepth 20000 in
theorem mw_181 : (.instanceMethod yX11_goes : Cond) ∈ lw_tbl := List.mem_of_getElem? (i := 903) (by decide +kernel)
set_option maxRecDepth 20000 in
theorem mw_182 : (.selects RX11 yX11_goes yX11_goes : Cond) ∈ lw_tbl := List.mem_of_getElem? (i := 62) (by decide +kernel)
set_option maxRecDepth 20000 in
theorem mw_183 : (.code yX11_goes cX11_goes 3 (some .int) : Cond) ∈ lw_tbl := List.mem_of_getElem? (i := 904) (by decide +kernel)
set_option maxRecDepth 20000 in
theorem mw_184 : (.methodLink RL 21 yX11_way : Cond) ∈ lw_tbl := List.mem_of_getElem? (i := 897) (by decide +kernel)
set_option maxRecDepth 20000 in
theorem mw_185 : (.instanceMethod yX11_way : Cond) ∈ lw_tbl := List.mem_of_getElem? (i := 898) (by decide +kernel)
set_option maxRecDepth 20000 in
theorem mw_186 : (.selects RX11 yX11_way yX11_way : Cond) ∈ lw_tbl := List.mem_of_getElem? (i := 899) (by decide +kernel)
set_option maxRecDepth 20000 in
theorem mw_187 : (.code yX10_ruleOf cX10_ruleOf 4 (some .int) : Cond) ∈ lw_tbl := List.mem_of_getElem? (i := 463) (by decide +kernel)
set_option maxRecDepth 20000 in
theorem mw_188 : (.methodLink RX10 92 yX10_isLetterOf : Cond) ∈ lw_tbl := List.mem_of_getElem? (i := 464) (by decide +kernel)
set_option maxRecDepth 20000 in
theorem mw_189 : (.static yX10_isLetterOf : Cond) ∈ lw_tbl := List.mem_of_getElem? (i := 465) (by decide +kernel)
set_option maxRecDepth 20000 in
theorem mw_190 : (.code yX10_isLetterOf cX10_isLetterOf 3 (some .boolean) : Cond) ∈ lw_tbl := List.mem_of_getElem? (i := 466) (by decide +kernel)
set_option maxRecDepth 20000 in
theorem mw_191 : (.static yX9_letterOf : Cond) ∈ lw_tbl := List.mem_of_getElem? (i := 468) (by decide +kernel)
set_option maxRecDepth 20000 in
theorem mw_192 : (.initialized RX9 : Cond) ∈ lw_tbl := List.mem_of_getElem? (i := 105) (by decide +kernel)
set_option maxRecDepth 20000 in
theorem mw_193 : (.code yX9_letterOf cX9_letterOf 3 (some .int) : Cond) ∈ lw_tbl := List.mem_of_getElem? (i := 469) (by decide +kernel)
set_option maxRecDepth 20000 in
theorem mw_194 : (.constant RX9 15 (-1000004) : Cond) ∈ lw_tbl := List.mem_of_getElem? (i := 473) (by decide +kernel)
set_option maxRecDepth 20000 in
theorem mw_195 : (.methodLink RX9 9 yX9_lengthOf : Cond) ∈ lw_tbl := List.mem_of_getElem? (i := 470) (by decide +kernel)
set_option maxRecDepth 20000 in
theorem mw_196 : (.static yX9_lengthOf : Cond) ∈ lw_tbl := List.mem_of_getElem? (i := 471) (by decide +kernel)
set_option maxRecDepth 20000 in
theorem mw_197 : (.code yX9_lengthOf cX9_lengthOf 3 (some .int) : Cond) ∈ lw_tbl := List.mem_of_getElem? (i := 472) (by decide +kernel)
set_option maxRecDepth 20000 in
theorem mw_198 : (.instanceMethod yX4_placesIn : Cond) ∈ lw_tbl := List.mem_of_getElem? (i := 476) (by decide +kernel)
set_option maxRecDepth 20000 in
theorem mw_199 : (.selects RX4 yX4_placesIn yX4_placesIn : Cond) ∈ lw_tbl := List.mem_of_getElem? (i := 11) (by decide +kernel)
set_option maxRecDepth 20000 in
theorem mw_200 : (.code yX4_placesIn cX4_placesIn 6 (some .int) : Cond) ∈ lw_tbl := List.mem_of_getElem? (i := 477) (by decide +kernel)
set_option maxRecDepth 20000 in
theorem mw_201 : (.methodLink RX4 51 yX4_appliesAt : Cond) ∈ lw_tbl := List.mem_of_getElem? (i := 479) (by decide +kernel)
set_option maxRecDepth 20000 in
theorem mw_202 : (.instanceMethod yX4_appliesAt : Cond) ∈ lw_tbl := List.mem_of_getElem? (i := 481) (by decide +kernel)
set_option maxRecDepth 20000 in
theorem mw_203 : (.selects RX4 yX4_appliesAt yX4_appliesAt : Cond) ∈ lw_tbl := List.mem_of_getElem? (i := 12) (by decide +kernel)
set_option maxRecDepth 20000 in
theorem mw_204 : (.code yX4_appliesAt cX4_appliesAt 8 (some .boolean) : Cond) ∈ lw_tbl := List.mem_of_getElem? (i := 482) (by decide +kernel)
set_option maxRecDepth 20000 in
theorem mw_205 : (.methodLink RL 22 yX10_ruleOf : Cond) ∈ lw_tbl := List.mem_of_getElem? (i := 460) (by decide +kernel)
set_option maxRecDepth 20000 in
theorem mw_206 : (.instanceMethod yX10_ruleOf : Cond) ∈ lw_tbl := List.mem_of_getElem? (i := 461) (by decide +kernel)
set_option maxRecDepth 20000 in
theorem mw_207 : (.selects RX10 yX10_ruleOf yX10_ruleOf : Cond) ∈ lw_tbl := List.mem_of_getElem? (i := 462) (by decide +kernel)
set_option maxRecDepth 20000 in
theorem mw_208 : (.code yX11_ruleOf cX11_ruleOf 3 (some .int) : Cond) ∈ lw_tbl := List.mem_of_getElem? (i := 908) (by decide +kernel)
set_option maxRecDepth 20000 in
theorem mw_209 : (.methodLink RX11 48 yX11_left : Cond) ∈ lw_tbl := List.mem_of_getElem? (i := 909) (by decide +kernel)
set_option maxRecDepth 20000 in
theorem mw_210 : (.instanceMethod yX11_left : Cond) ∈ lw_tbl := List.mem_of_getElem? (i := 911) (by decide +kernel)
set_option maxRecDepth 20000 in
theorem mw_211 : (.selects RX11 yX11_left yX11_left : Cond) ∈ lw_tbl := List.mem_of_getElem? (i := 63) (by decide +kernel)
set_option maxRecDepth 20000 in
theorem mw_212 : (.code yX11_left cX11_left 2 (some .int) : Cond) ∈ lw_tbl := List.mem_of_getElem? (i := 912) (by decide +kernel)
set_option maxRecDepth 20000 in
theorem mw_213 : (.methodLink RX11 35 yX11_length : Cond) ∈ lw_tbl := List.mem_of_getElem? (i := 913) (by decide +kernel)
set_option maxRecDepth 20000 in
theorem mw_214 : (.static yX11_length : Cond) ∈ lw_tbl := List.mem_of_getElem? (i := 914) (by decide +kernel)
set_option maxRecDepth 20000 in
theorem mw_215 : (.code yX11_length cX11_length 3 (some .int) : Cond) ∈ lw_tbl := List.mem_of_getElem? (i := 915) (by decide +kernel)
set_option maxRecDepth 20000 in
theorem mw_216 : (.methodLink RX11 51 yX11_right : Cond) ∈ lw_tbl := List.mem_of_getElem? (i := 916) (by decide +kernel)
set_option maxRecDepth 20000 in
theorem mw_217 : (.instanceMethod yX11_right : Cond) ∈ lw_tbl := List.mem_of_getElem? (i := 918) (by decide +kernel)
set_option maxRecDepth 20000 in
theorem mw_218 : (.selects RX11 yX11_right yX11_right : Cond) ∈ lw_tbl := List.mem_of_getElem? (i := 64) (by decide +kernel)
set_option maxRecDepth 20000 in
theorem mw_219 : (.code yX11_right cX11_right 2 (some .int) : Cond) ∈ lw_tbl := List.mem_of_getElem? (i := 919) (by decide +kernel)
set_option maxRecDepth 20000 in
theorem mw_220 : (.methodLink RX11 97 yX11_places : Cond) ∈ lw_tbl := List.mem_of_getElem? (i := 920) (by decide +kernel)
set_option maxRecDepth 20000 in
theorem mw_221 : (.instanceMethod yX11_places : Cond) ∈ lw_tbl := List.mem_of_getElem? (i := 922) (by decide +kernel)
set_option maxRecDepth 20000 in
theorem mw_222 : (.selects RX11 yX11_places yX11_places : Cond) ∈ lw_tbl := List.mem_of_getElem? (i := 65) (by decide +kernel)
set_option maxRecDepth 20000 in
theorem mw_223 : (.code yX11_places cX11_places 4 (some .int) : Cond) ∈ lw_tbl := List.mem_of_getElem? (i := 923) (by decide +kernel)
set_option maxRecDepth 20000 in
theorem mw_224 : (.methodLink RX11 61 yX11_stands : Cond) ∈ lw_tbl := List.mem_of_getElem? (i := 924) (by decide +kernel)
set_option maxRecDepth 20000 in
theorem mw_225 : (.static yX11_stands : Cond) ∈ lw_tbl := List.mem_of_getElem? (i := 925) (by decide +kernel)
set_option maxRecDepth 20000 in
theorem mw_226 : (.code yX11_stands cX11_stands 6 (some .boolean) : Cond) ∈ lw_tbl := List.mem_of_getElem? (i := 926) (by decide +kernel)
set_option maxRecDepth 20000 in
theorem mw_227 : (.methodLink RX11 100 yX11_letterOf : Cond) ∈ lw_tbl := List.mem_of_getElem? (i := 927) (by decide +kernel)
set_option maxRecDepth 20000 in
theorem mw_228 : (.static yX11_letterOf : Cond) ∈ lw_tbl := List.mem_of_getElem? (i := 928) (by decide +kernel)
set_option maxRecDepth 20000 in
theorem mw_229 : (.code yX11_letterOf cX11_letterOf 2 (some .int) : Cond) ∈ lw_tbl := List.mem_of_getElem? (i := 929) (by decide +kernel)
set_option maxRecDepth 20000 in
theorem mw_230 : (.constant RX11 43 (-1000004) : Cond) ∈ lw_tbl := List.mem_of_getElem? (i := 933) (by decide +kernel)
set_option maxRecDepth 20000 in
theorem mw_231 : (.methodLink RX11 39 yX11_letter : Cond) ∈ lw_tbl := List.mem_of_getElem? (i := 930) (by decide +kernel)
set_option maxRecDepth 20000 in
theorem mw_232 : (.static yX11_letter : Cond) ∈ lw_tbl := List.mem_of_getElem? (i := 931) (by decide +kernel)
set_option maxRecDepth 20000 in
theorem mw_233 : (.code yX11_letter cX11_letter 2 (some .int) : Cond) ∈ lw_tbl := List.mem_of_getElem? (i := 932) (by decide +kernel)
set_option maxRecDepth 20000 in
theorem mw_234 : (.methodLink RL 26 yX11_ruleOf : Cond) ∈ lw_tbl := List.mem_of_getElem? (i := 905) (by decide +kernel)
set_option maxRecDepth 20000 in
theorem mw_235 : (.instanceMethod yX11_ruleOf : Cond) ∈ lw_tbl := List.mem_of_getElem? (i := 906) (by decide +kernel)
set_option maxRecDepth 20000 in
theorem mw_236 : (.selects RX11 yX11_ruleOf yX11_ruleOf : Cond) ∈ lw_tbl := List.mem_of_getElem? (i := 907) (by decide +kernel)
set_option maxRecDepth 20000 in
theorem mw_237 : (.code yX10_step cX10_step 2 (some .int) : Cond) ∈ lw_tbl := List.mem_of_getElem? (i := 486) (by decide +kernel)
set_option maxRecDepth 20000 in
theorem mw_238 : (.instanceMethod yX6_takeStep : Cond) ∈ lw_tbl := List.mem_of_getElem? (i := 489) (by decide +kernel)
set_option maxRecDepth 20000 in
theorem mw_239 : (.selects RX6 yX6_takeStep yX6_takeStep : Cond) ∈ lw_tbl := List.mem_of_getElem? (i := 13) (by decide +kernel)
set_option maxRecDepth 20000 in
theorem mw_240 : (.code yX6_takeStep cX6_takeStep 3 (some .int) : Cond) ∈ lw_tbl := List.mem_of_getElem? (i := 490) (by decide +kernel)
set_option maxRecDepth 20000 in
theorem mw_241 : (.constant RX6 62 (-1000002) : Cond) ∈ lw_tbl := List.mem_of_getElem? (i := 495) (by decide +kernel)
set_option maxRecDepth 20000 in
theorem mw_242 : (.instanceMethod yX4_choiceFor : Cond) ∈ lw_tbl := List.mem_of_getElem? (i := 493) (by decide +kernel)
set_option maxRecDepth 20000 in
theorem mw_243 : (.selects RX4 yX4_choiceFor yX4_choiceFor : Cond) ∈ lw_tbl := List.mem_of_getElem? (i := 14) (by decide +kernel)
set_option maxRecDepth 20000 in
theorem mw_244 : (.code yX4_choiceFor cX4_choiceFor 12 (some .int) : Cond) ∈ lw_tbl := List.mem_of_getElem? (i := 494) (by decide +kernel)
set_option maxRecDepth 20000 in
theorem mw_245 : (.static yX4_ruleIn : Cond) ∈ lw_tbl := List.mem_of_getElem? (i := 497) (by decide +kernel)
set_option maxRecDepth 20000 in
theorem mw_246 : (.code yX4_ruleIn cX4_ruleIn 1 (some .int) : Cond) ∈ lw_tbl := List.mem_of_getElem? (i := 498) (by decide +kernel)
set_option maxRecDepth 20000 in
theorem mw_247 : (.static yX4_placeIn : Cond) ∈ lw_tbl := List.mem_of_getElem? (i := 500) (by decide +kernel)
set_option maxRecDepth 20000 in
theorem mw_248 : (.code yX4_placeIn cX4_placeIn 1 (some .int) : Cond) ∈ lw_tbl := List.mem_of_getElem? (i := 501) (by decide +kernel)
set_option maxRecDepth 20000 in
theorem mw_249 : (.instanceMethod yX4_applied : Cond) ∈ lw_tbl := List.mem_of_getElem? (i := 504) (by decide +kernel)
set_option maxRecDepth 20000 in
theorem mw_250 : (.selects RX4 yX4_applied yX4_applied : Cond) ∈ lw_tbl := List.mem_of_getElem? (i := 15) (by decide +kernel)
set_option maxRecDepth 20000 in
theorem mw_251 : (.code yX4_applied cX4_applied 9 (some .int) : Cond) ∈ lw_tbl := List.mem_of_getElem? (i := 505) (by decide +kernel)
set_option maxRecDepth 20000 in
theorem mw_252 : (.static yX9_lastBits : Cond) ∈ lw_tbl := List.mem_of_getElem? (i := 507) (by decide +kernel)
set_option maxRecDepth 20000 in
theorem mw_253 : (.code yX9_lastBits cX9_lastBits 2 (some .int) : Cond) ∈ lw_tbl := List.mem_of_getElem? (i := 508) (by decide +kernel)
set_option maxRecDepth 20000 in
theorem mw_254 : (.methodLink RL 27 yX10_step : Cond) ∈ lw_tbl := List.mem_of_getElem? (i := 483) (by decide +kernel)
set_option maxRecDepth 20000 in
theorem mw_255 : (.instanceMethod yX10_step : Cond) ∈ lw_tbl := List.mem_of_getElem? (i := 484) (by decide +kernel)
set_option maxRecDepth 20000 in
theorem mw_256 : (.selects RX10 yX10_step yX10_step : Cond) ∈ lw_tbl := List.mem_of_getElem? (i := 485) (by decide +kernel)
set_option maxRecDepth 20000 in
theorem mw_257 : (.code yX11_step cX11_step 1 (some .int) : Cond) ∈ lw_tbl := List.mem_of_getElem? (i := 937) (by decide +kernel)
set_option maxRecDepth 20000 in
theorem mw_258 : (.methodLink RX11 104 yX11_steps : Cond) ∈ lw_tbl := List.mem_of_getElem? (i := 938) (by decide +kernel)
set_option maxRecDepth 20000 in
theorem mw_259 : (.instanceMethod yX11_steps : Cond) ∈ lw_tbl := List.mem_of_getElem? (i := 940) (by decide +kernel)
set_option maxRecDepth 20000 in
theorem mw_260 : (.selects RX11 yX11_steps yX11_steps : Cond) ∈ lw_tbl := List.mem_of_getElem? (i := 66) (by decide +kernel)
set_option maxRecDepth 20000 in
theorem mw_261 : (.code yX11_steps cX11_steps 1 (some .int) : Cond) ∈ lw_tbl := List.mem_of_getElem? (i := 941) (by decide +kernel)
set_option maxRecDepth 20000 in
theorem mw_262 : (.constant RX11 103 (-1000002) : Cond) ∈ lw_tbl := List.mem_of_getElem? (i := 946) (by decide +kernel)
set_option maxRecDepth 20000 in
theorem mw_263 : (.fieldLink RX11 54 "FallingWordsModel" "chosenRule" "I" : Cond) ∈ lw_tbl := List.mem_of_getElem? (i := 803) (by decide +kernel)
set_option maxRecDepth 20000 in
theorem mw_264 : (.fieldLink RX11 58 "FallingWordsModel" "chosenPlace" "I" : Cond) ∈ lw_tbl := List.mem_of_getElem? (i := 804) (by decide +kernel)
set_option maxRecDepth 20000 in
theorem mw_265 : (.methodLink RX11 67 yX11_chooses : Cond) ∈ lw_tbl := List.mem_of_getElem? (i := 942) (by decide +kernel)
set_option maxRecDepth 20000 in
theorem mw_266 : (.instanceMethod yX11_chooses : Cond) ∈ lw_tbl := List.mem_of_getElem? (i := 944) (by decide +kernel)
set_option maxRecDepth 20000 in
theorem mw_267 : (.selects RX11 yX11_chooses yX11_chooses : Cond) ∈ lw_tbl := List.mem_of_getElem? (i := 67) (by decide +kernel)
set_option maxRecDepth 20000 in
theorem mw_268 : (.code yX11_chooses cX11_chooses 6 (some .boolean) : Cond) ∈ lw_tbl := List.mem_of_getElem? (i := 945) (by decide +kernel)
set_option maxRecDepth 20000 in
theorem mw_269 : (.methodLink RX11 71 yX11_applied : Cond) ∈ lw_tbl := List.mem_of_getElem? (i := 947) (by decide +kernel)
set_option maxRecDepth 20000 in
theorem mw_270 : (.instanceMethod yX11_applied : Cond) ∈ lw_tbl := List.mem_of_getElem? (i := 949) (by decide +kernel)
set_option maxRecDepth 20000 in
theorem mw_271 : (.selects RX11 yX11_applied yX11_applied : Cond) ∈ lw_tbl := List.mem_of_getElem? (i := 68) (by decide +kernel)
set_option maxRecDepth 20000 in
theorem mw_272 : (.code yX11_applied cX11_applied 7 (some .int) : Cond) ∈ lw_tbl := List.mem_of_getElem? (i := 950) (by decide +kernel)
set_option maxRecDepth 20000 in
theorem mw_273 : (.methodLink RL 31 yX11_step : Cond) ∈ lw_tbl := List.mem_of_getElem? (i := 934) (by decide +kernel)
set_option maxRecDepth 20000 in
theorem mw_274 : (.instanceMethod yX11_step : Cond) ∈ lw_tbl := List.mem_of_getElem? (i := 935) (by decide +kernel)
set_option maxRecDepth 20000 in
theorem mw_275 : (.selects RX11 yX11_step yX11_step : Cond) ∈ lw_tbl := List.mem_of_getElem? (i := 936) (by decide +kernel)
set_option maxRecDepth 20000 in
theorem mw_276 : (.code yX10_normal cX10_normal 2 (some .int) : Cond) ∈ lw_tbl := List.mem_of_getElem? (i := 512) (by decide +kernel)
set_option maxRecDepth 20000 in
theorem mw_277 : (.instanceMethod yX6_reduce : Cond) ∈ lw_tbl := List.mem_of_getElem? (i := 515) (by decide +kernel)
set_option maxRecDepth 20000 in
theorem mw_278 : (.selects RX6 yX6_reduce yX6_reduce : Cond) ∈ lw_tbl := List.mem_of_getElem? (i := 16) (by decide +kernel)
set_option maxRecDepth 20000 in
theorem mw_279 : (.code yX6_reduce cX6_reduce 3 (some .int) : Cond) ∈ lw_tbl := List.mem_of_getElem? (i := 516) (by decide +kernel)
set_option maxRecDepth 20000 in
theorem mw_280 : (.constant RX6 93 (-1000003) : Cond) ∈ lw_tbl := List.mem_of_getElem? (i := 541) (by decide +kernel)
set_option maxRecDepth 20000 in
theorem mw_281 : (.instanceMethod yX7_indexOf : Cond) ∈ lw_tbl := List.mem_of_getElem? (i := 519) (by decide +kernel)
set_option maxRecDepth 20000 in
theorem mw_282 : (.selects RX7 yX7_indexOf yX7_indexOf : Cond) ∈ lw_tbl := List.mem_of_getElem? (i := 17) (by decide +kernel)
set_option maxRecDepth 20000 in
theorem mw_283 : (.code yX7_indexOf cX7_indexOf 3 (some .int) : Cond) ∈ lw_tbl := List.mem_of_getElem? (i := 520) (by decide +kernel)
set_option maxRecDepth 20000 in
theorem mw_284 : (.instanceMethod yX7_use : Cond) ∈ lw_tbl := List.mem_of_getElem? (i := 523) (by decide +kernel)
set_option maxRecDepth 20000 in
theorem mw_285 : (.selects RX7 yX7_use yX7_use : Cond) ∈ lw_tbl := List.mem_of_getElem? (i := 18) (by decide +kernel)
set_option maxRecDepth 20000 in
theorem mw_286 : (.code yX7_use cX7_use 3 (some .int) : Cond) ∈ lw_tbl := List.mem_of_getElem? (i := 524) (by decide +kernel)
set_option maxRecDepth 20000 in
theorem mw_287 : (.methodLink RX7 28 yX7_setAhead : Cond) ∈ lw_tbl := List.mem_of_getElem? (i := 525) (by decide +kernel)
set_option maxRecDepth 20000 in
theorem mw_288 : (.instanceMethod yX7_setAhead : Cond) ∈ lw_tbl := List.mem_of_getElem? (i := 527) (by decide +kernel)
set_option maxRecDepth 20000 in
theorem mw_289 : (.selects RX7 yX7_setAhead yX7_setAhead : Cond) ∈ lw_tbl := List.mem_of_getElem? (i := 19) (by decide +kernel)
set_option maxRecDepth 20000 in
theorem mw_290 : (.code yX7_setAhead cX7_setAhead 5 none : Cond) ∈ lw_tbl := List.mem_of_getElem? (i := 528) (by decide +kernel)
set_option maxRecDepth 20000 in
theorem mw_291 : (.instanceMethod yX3_run : Cond) ∈ lw_tbl := List.mem_of_getElem? (i := 531) (by decide +kernel)
set_option maxRecDepth 20000 in
theorem mw_292 : (.selects RX3 yX3_run yX3_run : Cond) ∈ lw_tbl := List.mem_of_getElem? (i := 20) (by decide +kernel)
set_option maxRecDepth 20000 in
theorem mw_293 : (.code yX3_run cX3_run 5 none : Cond) ∈ lw_tbl := List.mem_of_getElem? (i := 532) (by decide +kernel)
set_option maxRecDepth 20000 in
theorem mw_294 : (.fieldLink RX3 18 "FallingWords$Reduction" "steps" "I" : Cond) ∈ lw_tbl := List.mem_of_getElem? (i := 237) (by decide +kernel)
set_option maxRecDepth 20000 in
theorem mw_295 : (.fieldLink RX3 26 "FallingWords$Reduction" "ringStart" "I" : Cond) ∈ lw_tbl := List.mem_of_getElem? (i := 240) (by decide +kernel)
set_option maxRecDepth 20000 in
theorem mw_296 : (.fieldLink RX3 29 "FallingWords$Reduction" "outcome" "I" : Cond) ∈ lw_tbl := List.mem_of_getElem? (i := 233) (by decide +kernel)
set_option maxRecDepth 20000 in
theorem mw_297 : (.methodLink RX3 22 yX3_firstTimeOf : Cond) ∈ lw_tbl := List.mem_of_getElem? (i := 533) (by decide +kernel)
set_option maxRecDepth 20000 in
theorem mw_298 : (.instanceMethod yX3_firstTimeOf : Cond) ∈ lw_tbl := List.mem_of_getElem? (i := 535) (by decide +kernel)
set_option maxRecDepth 20000 in
theorem mw_299 : (.selects RX3 yX3_firstTimeOf yX3_firstTimeOf : Cond) ∈ lw_tbl := List.mem_of_getElem? (i := 21) (by decide +kernel)
set_option maxRecDepth 20000 in
theorem mw_300 : (.code yX3_firstTimeOf cX3_firstTimeOf 3 (some .int) : Cond) ∈ lw_tbl := List.mem_of_getElem? (i := 536) (by decide +kernel)
set_option maxRecDepth 20000 in
theorem mw_301 : (.instanceMethod yX3_countRules : Cond) ∈ lw_tbl := List.mem_of_getElem? (i := 544) (by decide +kernel)
set_option maxRecDepth 20000 in
theorem mw_302 : (.selects RX3 yX3_countRules yX3_countRules : Cond) ∈ lw_tbl := List.mem_of_getElem? (i := 22) (by decide +kernel)
set_option maxRecDepth 20000 in
theorem mw_303 : (.code yX3_countRules cX3_countRules 3 none : Cond) ∈ lw_tbl := List.mem_of_getElem? (i := 545) (by decide +kernel)
set_option maxRecDepth 20000 in
theorem mw_304 : (.instanceMethod yX3_last : Cond) ∈ lw_tbl := List.mem_of_getElem? (i := 548) (by decide +kernel)
set_option maxRecDepth 20000 in
theorem mw_305 : (.selects RX3 yX3_last yX3_last : Cond) ∈ lw_tbl := List.mem_of_getElem? (i := 23) (by decide +kernel)
set_option maxRecDepth 20000 in
theorem mw_306 : (.code yX3_last cX3_last 1 (some .int) : Cond) ∈ lw_tbl := List.mem_of_getElem? (i := 549) (by decide +kernel)
set_option maxRecDepth 20000 in
theorem mw_307 : (.instanceMethod yX7_put : Cond) ∈ lw_tbl := List.mem_of_getElem? (i := 552) (by decide +kernel)
set_option maxRecDepth 20000 in
theorem mw_308 : (.selects RX7 yX7_put yX7_put : Cond) ∈ lw_tbl := List.mem_of_getElem? (i := 24) (by decide +kernel)
set_option maxRecDepth 20000 in
theorem mw_309 : (.code yX7_put cX7_put 3 none : Cond) ∈ lw_tbl := List.mem_of_getElem? (i := 553) (by decide +kernel)
set_option maxRecDepth 20000 in
theorem mw_310 : (.methodLink RL 32 yX10_normal : Cond) ∈ lw_tbl := List.mem_of_getElem? (i := 509) (by decide +kernel)
set_option maxRecDepth 20000 in
theorem mw_311 : (.instanceMethod yX10_normal : Cond) ∈ lw_tbl := List.mem_of_getElem? (i := 510) (by decide +kernel)
set_option maxRecDepth 20000 in
theorem mw_312 : (.selects RX10 yX10_normal yX10_normal : Cond) ∈ lw_tbl := List.mem_of_getElem? (i := 511) (by decide +kernel)
set_option maxRecDepth 20000 in
theorem mw_313 : (.code yX11_normal cX11_normal 1 (some .int) : Cond) ∈ lw_tbl := List.mem_of_getElem? (i := 954) (by decide +kernel)
set_option maxRecDepth 20000 in
theorem mw_314 : (.methodLink RX11 116 yX11_normals : Cond) ∈ lw_tbl := List.mem_of_getElem? (i := 955) (by decide +kernel)
set_option maxRecDepth 20000 in
theorem mw_315 : (.instanceMethod yX11_normals : Cond) ∈ lw_tbl := List.mem_of_getElem? (i := 957) (by decide +kernel)
set_option maxRecDepth 20000 in
theorem mw_316 : (.selects RX11 yX11_normals yX11_normals : Cond) ∈ lw_tbl := List.mem_of_getElem? (i := 69) (by decide +kernel)
set_option maxRecDepth 20000 in
theorem mw_317 : (.code yX11_normals cX11_normals 4 (some .int) : Cond) ∈ lw_tbl := List.mem_of_getElem? (i := 958) (by decide +kernel)
set_option maxRecDepth 20000 in
theorem mw_318 : (.constant RX11 115 (-1000003) : Cond) ∈ lw_tbl := List.mem_of_getElem? (i := 967) (by decide +kernel)
set_option maxRecDepth 20000 in
theorem mw_319 : (.fieldLink RX11 64 "FallingWordsModel" "rowSteps" "I" : Cond) ∈ lw_tbl := List.mem_of_getElem? (i := 807) (by decide +kernel)
set_option maxRecDepth 20000 in
theorem mw_320 : (.methodLink RX11 108 yX11_comesFirst : Cond) ∈ lw_tbl := List.mem_of_getElem? (i := 959) (by decide +kernel)
set_option maxRecDepth 20000 in
theorem mw_321 : (.instanceMethod yX11_comesFirst : Cond) ∈ lw_tbl := List.mem_of_getElem? (i := 961) (by decide +kernel)
set_option maxRecDepth 20000 in
theorem mw_322 : (.selects RX11 yX11_comesFirst yX11_comesFirst : Cond) ∈ lw_tbl := List.mem_of_getElem? (i := 70) (by decide +kernel)
set_option maxRecDepth 20000 in
theorem mw_323 : (.code yX11_comesFirst cX11_comesFirst 5 none : Cond) ∈ lw_tbl := List.mem_of_getElem? (i := 962) (by decide +kernel)
set_option maxRecDepth 20000 in
theorem mw_324 : (.methodLink RX11 112 yX11_reduces : Cond) ∈ lw_tbl := List.mem_of_getElem? (i := 963) (by decide +kernel)
set_option maxRecDepth 20000 in
theorem mw_325 : (.instanceMethod yX11_reduces : Cond) ∈ lw_tbl := List.mem_of_getElem? (i := 965) (by decide +kernel)
set_option maxRecDepth 20000 in
theorem mw_326 : (.selects RX11 yX11_reduces yX11_reduces : Cond) ∈ lw_tbl := List.mem_of_getElem? (i := 71) (by decide +kernel)
set_option maxRecDepth 20000 in
theorem mw_327 : (.code yX11_reduces cX11_reduces 4 (some .int) : Cond) ∈ lw_tbl := List.mem_of_getElem? (i := 966) (by decide +kernel)
set_option maxRecDepth 20000 in
theorem mw_328 : (.fieldLink RX11 75 "FallingWordsModel" "ringFrom" "I" : Cond) ∈ lw_tbl := List.mem_of_getElem? (i := 808) (by decide +kernel)
set_option maxRecDepth 20000 in
theorem mw_329 : (.methodLink RL 35 yX11_normal : Cond) ∈ lw_tbl := List.mem_of_getElem? (i := 951) (by decide +kernel)
set_option maxRecDepth 20000 in
theorem mw_330 : (.instanceMethod yX11_normal : Cond) ∈ lw_tbl := List.mem_of_getElem? (i := 952) (by decide +kernel)
set_option maxRecDepth 20000 in
theorem mw_331 : (.selects RX11 yX11_normal yX11_normal : Cond) ∈ lw_tbl := List.mem_of_getElem? (i := 953) (by decide +kernel)
set_option maxRecDepth 20000 in
theorem mw_332 : (.code yX10_letterAt cX10_letterAt 2 (some .int) : Cond) ∈ lw_tbl := List.mem_of_getElem? (i := 557) (by decide +kernel)
set_option maxRecDepth 20000 in
theorem mw_333 : (.methodLink RL 36 yX10_letterAt : Cond) ∈ lw_tbl := List.mem_of_getElem? (i := 554) (by decide +kernel)
set_option maxRecDepth 20000 in
theorem mw_334 : (.instanceMethod yX10_letterAt : Cond) ∈ lw_tbl := List.mem_of_getElem? (i := 555) (by decide +kernel)
set_option maxRecDepth 20000 in
theorem mw_335 : (.selects RX10 yX10_letterAt yX10_letterAt : Cond) ∈ lw_tbl := List.mem_of_getElem? (i := 556) (by decide +kernel)
set_option maxRecDepth 20000 in
theorem mw_336 : (.code yX11_letterAt cX11_letterAt 2 (some .int) : Cond) ∈ lw_tbl := List.mem_of_getElem? (i := 971) (by decide +kernel)
set_option maxRecDepth 20000 in
theorem mw_337 : (.methodLink RL 39 yX11_letterAt : Cond) ∈ lw_tbl := List.mem_of_getElem? (i := 968) (by decide +kernel)
set_option maxRecDepth 20000 in
theorem mw_338 : (.instanceMethod yX11_letterAt : Cond) ∈ lw_tbl := List.mem_of_getElem? (i := 969) (by decide +kernel)
set_option maxRecDepth 20000 in
theorem mw_339 : (.selects RX11 yX11_letterAt yX11_letterAt : Cond) ∈ lw_tbl := List.mem_of_getElem? (i := 970) (by decide +kernel)
set_option maxRecDepth 20000 in
theorem mw_340 : (.code yX10_next cX10_next 3 (some .int) : Cond) ∈ lw_tbl := List.mem_of_getElem? (i := 561) (by decide +kernel)
set_option maxRecDepth 20000 in
theorem mw_341 : (.constant RX10 135 (-1000004) : Cond) ∈ lw_tbl := List.mem_of_getElem? (i := 563) (by decide +kernel)
set_option maxRecDepth 20000 in
theorem mw_342 : (.methodLink RL 40 yX10_next : Cond) ∈ lw_tbl := List.mem_of_getElem? (i := 558) (by decide +kernel)
set_option maxRecDepth 20000 in
theorem mw_343 : (.instanceMethod yX10_next : Cond) ∈ lw_tbl := List.mem_of_getElem? (i := 559) (by decide +kernel)
set_option maxRecDepth 20000 in
theorem mw_344 : (.selects RX10 yX10_next yX10_next : Cond) ∈ lw_tbl := List.mem_of_getElem? (i := 560) (by decide +kernel)
set_option maxRecDepth 20000 in
theorem mw_345 : (.code yX11_next cX11_next 2 (some .int) : Cond) ∈ lw_tbl := List.mem_of_getElem? (i := 975) (by decide +kernel)
set_option maxRecDepth 20000 in
theorem mw_346 : (.methodLink RL 43 yX11_next : Cond) ∈ lw_tbl := List.mem_of_getElem? (i := 972) (by decide +kernel)
set_option maxRecDepth 20000 in
theorem mw_347 : (.instanceMethod yX11_next : Cond) ∈ lw_tbl := List.mem_of_getElem? (i := 973) (by decide +kernel)
set_option maxRecDepth 20000 in
theorem mw_348 : (.selects RX11 yX11_next yX11_next : Cond) ∈ lw_tbl := List.mem_of_getElem? (i := 974) (by decide +kernel)
