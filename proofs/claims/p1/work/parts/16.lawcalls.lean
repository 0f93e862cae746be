set_option maxRecDepth 20000 in
theorem g_law_X6_feed : GoodIn wz_law (wsV RL 13 RX6 yX6_feed wz_X6_feed) := goodIn_sub (show ∀ w ∈ ([Cond.methodLink RL 13 yX6_feed, Cond.instanceMethod yX6_feed, Cond.selects RX6 yX6_feed yX6_feed, Cond.initialized RX6, Cond.code yX6_feed cX6_feed 6 (some .int), Cond.fieldLink RX6 13 "HedgeMaze" "tapeSize" "I", Cond.methodLink RX6 66 yX6_putBytes, Cond.instanceMethod yX6_putBytes, Cond.selects RX6 yX6_putBytes yX6_putBytes, Cond.initialized RX6, Cond.code yX6_putBytes cX6_putBytes 3 none, Cond.fieldLink RX6 9 "HedgeMaze" "tape" "[B"] ++ wsX60), w ∈ wz_law from List.forall_mem_append.mpr ⟨List.forall_mem_cons.mpr ⟨wzw_11, List.forall_mem_cons.mpr ⟨wzw_12, List.forall_mem_cons.mpr ⟨wzw_13, List.forall_mem_cons.mpr ⟨wzw_3, List.forall_mem_cons.mpr ⟨wzw_14, List.forall_mem_cons.mpr ⟨wzw_15, List.forall_mem_cons.mpr ⟨wzw_16, List.forall_mem_cons.mpr ⟨wzw_17, List.forall_mem_cons.mpr ⟨wzw_18, List.forall_mem_cons.mpr ⟨wzw_3, List.forall_mem_cons.mpr ⟨wzw_19, List.forall_mem_cons.mpr ⟨wzw_20, (fun _ h => absurd h List.not_mem_nil)⟩⟩⟩⟩⟩⟩⟩⟩⟩⟩⟩⟩, in_law_X6⟩) (by decide +kernel)
set_option maxRecDepth 20000 in
theorem g_law_X7_feed : GoodIn wz_law (wsV RL 17 RX7 yX7_feed wz_X7_feed) := goodIn_sub (show ∀ w ∈ ([Cond.methodLink RL 17 yX7_feed, Cond.instanceMethod yX7_feed, Cond.selects RX7 yX7_feed yX7_feed, Cond.initialized RX7, Cond.code yX7_feed cX7_feed 6 (some .int), Cond.fieldLink RX7 80 "HedgeMazeModel" "thrown" "I", Cond.fieldLink RX7 97 "HedgeMazeModel" "taped" "I", Cond.methodLink RX7 100 yX7_four, Cond.instanceMethod yX7_four, Cond.selects RX7 yX7_four yX7_four, Cond.initialized RX7, Cond.code yX7_four cX7_four 3 none, Cond.fieldLink RX7 23 "HedgeMazeModel" "tape" "[B"] ++ wsX70), w ∈ wz_law from List.forall_mem_append.mpr ⟨List.forall_mem_cons.mpr ⟨wzw_21, List.forall_mem_cons.mpr ⟨wzw_22, List.forall_mem_cons.mpr ⟨wzw_23, List.forall_mem_cons.mpr ⟨wzw_8, List.forall_mem_cons.mpr ⟨wzw_24, List.forall_mem_cons.mpr ⟨wzw_25, List.forall_mem_cons.mpr ⟨wzw_26, List.forall_mem_cons.mpr ⟨wzw_27, List.forall_mem_cons.mpr ⟨wzw_28, List.forall_mem_cons.mpr ⟨wzw_29, List.forall_mem_cons.mpr ⟨wzw_8, List.forall_mem_cons.mpr ⟨wzw_30, List.forall_mem_cons.mpr ⟨wzw_31, (fun _ h => absurd h List.not_mem_nil)⟩⟩⟩⟩⟩⟩⟩⟩⟩⟩⟩⟩⟩, in_law_X7⟩) (by decide +kernel)
set_option maxRecDepth 20000 in
theorem g_law_X6_end : GoodIn wz_law (wsV RL 18 RX6 yX6_end wz_X6_end) := goodIn_sub (show ∀ w ∈ ([Cond.methodLink RL 18 yX6_end, Cond.instanceMethod yX6_end, Cond.selects RX6 yX6_end yX6_end, Cond.initialized RX6, Cond.code yX6_end cX6_end 2 (some .int), Cond.fieldLink RX6 13 "HedgeMaze" "tapeSize" "I"] ++ wsX60), w ∈ wz_law from List.forall_mem_append.mpr ⟨List.forall_mem_cons.mpr ⟨wzw_32, List.forall_mem_cons.mpr ⟨wzw_33, List.forall_mem_cons.mpr ⟨wzw_34, List.forall_mem_cons.mpr ⟨wzw_3, List.forall_mem_cons.mpr ⟨wzw_35, List.forall_mem_cons.mpr ⟨wzw_15, (fun _ h => absurd h List.not_mem_nil)⟩⟩⟩⟩⟩⟩, in_law_X6⟩) (by decide +kernel)
set_option maxRecDepth 20000 in
theorem g_law_X7_end : GoodIn wz_law (wsV RL 22 RX7 yX7_end wz_X7_end) := goodIn_sub (show ∀ w ∈ ([Cond.methodLink RL 22 yX7_end, Cond.instanceMethod yX7_end, Cond.selects RX7 yX7_end yX7_end, Cond.initialized RX7, Cond.code yX7_end cX7_end 2 (some .int), Cond.fieldLink RX7 80 "HedgeMazeModel" "thrown" "I", Cond.fieldLink RX7 97 "HedgeMazeModel" "taped" "I", Cond.methodLink RX7 85 yX7_in, Cond.static yX7_in, Cond.initialized RX7, Cond.code yX7_in cX7_in 6 (some .boolean)] ++ wsX70), w ∈ wz_law from List.forall_mem_append.mpr ⟨List.forall_mem_cons.mpr ⟨wzw_36, List.forall_mem_cons.mpr ⟨wzw_37, List.forall_mem_cons.mpr ⟨wzw_38, List.forall_mem_cons.mpr ⟨wzw_8, List.forall_mem_cons.mpr ⟨wzw_39, List.forall_mem_cons.mpr ⟨wzw_25, List.forall_mem_cons.mpr ⟨wzw_26, List.forall_mem_cons.mpr ⟨wzw_40, List.forall_mem_cons.mpr ⟨wzw_41, List.forall_mem_cons.mpr ⟨wzw_8, List.forall_mem_cons.mpr ⟨wzw_42, (fun _ h => absurd h List.not_mem_nil)⟩⟩⟩⟩⟩⟩⟩⟩⟩⟩⟩, in_law_X7⟩) (by decide +kernel)
set_option maxRecDepth 20000 in
theorem g_law_X6_maze : GoodIn wz_law (wsV RL 23 RX6 yX6_maze wz_X6_maze) := goodIn_sub (show ∀ w ∈ (((([Cond.methodLink RL 23 yX6_maze, Cond.instanceMethod yX6_maze, Cond.selects RX6 yX6_maze yX6_maze, Cond.initialized RX6, Cond.code yX6_maze cX6_maze 1 (some .int), Cond.fieldLink RX6 26 "HedgeMaze" "reader" "LHedgeMaze$Reader;", Cond.fieldLink RX6 9 "HedgeMaze" "tape" "[B", Cond.fieldLink RX6 13 "HedgeMaze" "tapeSize" "I", Cond.fieldLink RX6 74 "HedgeMaze$Reader" "faultNumber" "I", Cond.fieldLink RX6 17 "HedgeMaze" "faultNumber" "I", Cond.fieldLink RX6 75 "HedgeMaze$Reader" "faultPlace" "I", Cond.fieldLink RX6 20 "HedgeMaze" "faultPlace" "I", Cond.fieldLink RX6 33 "HedgeMaze" "garden" "LHedgeMaze$Garden;", Cond.fieldLink RX6 76 "HedgeMaze$Reader" "draft" "LHedgeMaze$Garden;", Cond.fieldLink RX6 83 "HedgeMaze$Garden" "lines" "I", Cond.methodLink RX6 70 yX4_readTape, Cond.instanceMethod yX4_readTape, Cond.selects RX4 yX4_readTape yX4_readTape, Cond.initialized RX4, Cond.code yX4_readTape cX4_readTape 4 none, Cond.fieldLink RX4 25 "HedgeMaze$Reader" "tape" "[B", Cond.methodLink RX4 48 Lib.Math.min.name, Cond.static Lib.Math.min.name, Cond.initialized "java/lang/Math", Cond.code Lib.Math.min.name Lib.Math.min.code 2 (some .int), Cond.fieldLink RX4 29 "HedgeMaze$Reader" "tapeSize" "I", Cond.fieldLink RX4 18 "HedgeMaze$Reader" "faultNumber" "I", Cond.fieldLink RX4 22 "HedgeMaze$Reader" "faultPlace" "I", Cond.fieldLink RX4 38 "HedgeMaze$Reader" "tokenEnd" "I", Cond.fieldLink RX4 44 "HedgeMaze$Reader" "hasLaw" "Z", Cond.fieldLink RX4 12 "HedgeMaze$Reader" "draft" "LHedgeMaze$Garden;", Cond.fieldLink RX4 32 "HedgeMaze$Reader" "kind" "I", Cond.fieldLink RX4 63 "HedgeMaze$Garden" "lines" "I", Cond.methodLink RX4 54 yX0_clear, Cond.instanceMethod yX0_clear, Cond.selects RX0 yX0_clear yX0_clear, Cond.initialized RX0, Cond.code yX0_clear cX0_clear 1 none, Cond.fieldLink RX0 12 "HedgeMaze$Garden" "plan" "LHedgeMaze$Plan;", Cond.fieldLink RX0 18 "HedgeMaze$Garden" "lines" "I", Cond.fieldLink RX0 22 "HedgeMaze$Garden" "hedges" "J", Cond.fieldLink RX0 26 "HedgeMaze$Garden" "walls" "J", Cond.fieldLink RX0 29 "HedgeMaze$Garden" "isNear" "Z", Cond.fieldLink RX0 33 "HedgeMaze$Garden" "letterCell" "I", Cond.fieldLink RX0 36 "HedgeMaze$Garden" "gateCount" "I", Cond.fieldLink RX0 43 "HedgeMaze$Garden" "guestCount" "I", Cond.fieldLink RX0 49 "HedgeMaze$Garden" "goneCount" "I", Cond.methodLink RX0 55 yX3_lay, Cond.instanceMethod yX3_lay, Cond.selects RX3 yX3_lay yX3_lay, Cond.initialized RX3, Cond.code yX3_lay cX3_lay 6 none, Cond.methodLink RX3 42 Lib.Math.min.name, Cond.fieldLink RX3 9 "HedgeMaze$Plan" "wide" "I", Cond.fieldLink RX3 15 "HedgeMaze$Plan" "deep" "I", Cond.fieldLink RX3 18 "HedgeMaze$Plan" "cellCount" "I", Cond.fieldLink RX3 21 "HedgeMaze$Plan" "sideCount" "I", Cond.fieldLink RX3 24 "HedgeMaze$Plan" "allSides" "J", Cond.fieldLink RX3 39 "HedgeMaze$Plan" "around" "[I", Cond.methodLink RX3 48 yJ7_fill_53178, Cond.static yJ7_fill_53178, Cond.initialized RJ7, Cond.code yJ7_fill_53178 cJ7_fill_53178 4 none, Cond.methodLink RX4 57 yX4_advance, Cond.instanceMethod yX4_advance, Cond.selects RX4 yX4_advance yX4_advance, Cond.code yX4_advance cX4_advance 4 none, Cond.fieldLink RX4 35 "HedgeMaze$Reader" "tokenStart" "I", Cond.methodLink RX6 79 yX0_becomeLike, Cond.instanceMethod yX0_becomeLike, Cond.selects RX0 yX0_becomeLike yX0_becomeLike, Cond.code yX0_becomeLike cX0_becomeLike 2 none, Cond.fieldLink RX0 59 "HedgeMaze$Plan" "wide" "I", Cond.fieldLink RX0 62 "HedgeMaze$Plan" "deep" "I", Cond.fieldLink RX0 39 "HedgeMaze$Garden" "gates" "[I", Cond.methodLink RX0 65 arraycopyName, Cond.native arraycopyName, Cond.static arraycopyName, Cond.initialized "java/lang/System", Cond.fieldLink RX0 46 "HedgeMaze$Garden" "guests" "[I", Cond.fieldLink RX0 52 "HedgeMaze$Garden" "goneNights" "[I"] ++ wsX60) ++ wsX40) ++ wsX00) ++ wsX30), w ∈ wz_law from List.forall_mem_append.mpr ⟨List.forall_mem_append.mpr ⟨List.forall_mem_append.mpr ⟨List.forall_mem_append.mpr ⟨List.forall_mem_cons.mpr ⟨wzw_43, List.forall_mem_cons.mpr ⟨wzw_44, List.forall_mem_cons.mpr ⟨wzw_45, List.forall_mem_cons.mpr ⟨wzw_3, List.forall_mem_cons.mpr ⟨wzw_46, List.forall_mem_cons.mpr ⟨wzw_47, List.forall_mem_cons.mpr ⟨wzw_20, List.forall_mem_cons.mpr ⟨wzw_15, List.forall_mem_cons.mpr ⟨wzw_48, List.forall_mem_cons.mpr ⟨wzw_49, List.forall_mem_cons.mpr ⟨wzw_50, List.forall_mem_cons.mpr ⟨wzw_51, List.forall_mem_cons.mpr ⟨wzw_52, List.forall_mem_cons.mpr ⟨wzw_53, List.forall_mem_cons.mpr ⟨wzw_54, List.forall_mem_cons.mpr ⟨wzw_55, List.forall_mem_cons.mpr ⟨wzw_56, List.forall_mem_cons.mpr ⟨wzw_57, List.forall_mem_cons.mpr ⟨wzw_58, List.forall_mem_cons.mpr ⟨wzw_59, List.forall_mem_cons.mpr ⟨wzw_60, List.forall_mem_cons.mpr ⟨wzw_61, List.forall_mem_cons.mpr ⟨wzw_62, List.forall_mem_cons.mpr ⟨wzw_63, List.forall_mem_cons.mpr ⟨wzw_64, List.forall_mem_cons.mpr ⟨wzw_65, List.forall_mem_cons.mpr ⟨wzw_66, List.forall_mem_cons.mpr ⟨wzw_67, List.forall_mem_cons.mpr ⟨wzw_68, List.forall_mem_cons.mpr ⟨wzw_69, List.forall_mem_cons.mpr ⟨wzw_70, List.forall_mem_cons.mpr ⟨wzw_71, List.forall_mem_cons.mpr ⟨wzw_72, List.forall_mem_cons.mpr ⟨wzw_73, List.forall_mem_cons.mpr ⟨wzw_74, List.forall_mem_cons.mpr ⟨wzw_75, List.forall_mem_cons.mpr ⟨wzw_76, List.forall_mem_cons.mpr ⟨wzw_77, List.forall_mem_cons.mpr ⟨wzw_78, List.forall_mem_cons.mpr ⟨wzw_79, List.forall_mem_cons.mpr ⟨wzw_80, List.forall_mem_cons.mpr ⟨wzw_81, List.forall_mem_cons.mpr ⟨wzw_82, List.forall_mem_cons.mpr ⟨wzw_83, List.forall_mem_cons.mpr ⟨wzw_84, List.forall_mem_cons.mpr ⟨wzw_85, List.forall_mem_cons.mpr ⟨wzw_86, List.forall_mem_cons.mpr ⟨wzw_87, List.forall_mem_cons.mpr ⟨wzw_88, List.forall_mem_cons.mpr ⟨wzw_89, List.forall_mem_cons.mpr ⟨wzw_90, List.forall_mem_cons.mpr ⟨wzw_91, List.forall_mem_cons.mpr ⟨wzw_92, List.forall_mem_cons.mpr ⟨wzw_93, List.forall_mem_cons.mpr ⟨wzw_94, List.forall_mem_cons.mpr ⟨wzw_95, List.forall_mem_cons.mpr ⟨wzw_96, List.forall_mem_cons.mpr ⟨wzw_97, List.forall_mem_cons.mpr ⟨wzw_98, List.forall_mem_cons.mpr ⟨wzw_99, List.forall_mem_cons.mpr ⟨wzw_100, List.forall_mem_cons.mpr ⟨wzw_101, List.forall_mem_cons.mpr ⟨wzw_102, List.forall_mem_cons.mpr ⟨wzw_103, List.forall_mem_cons.mpr ⟨wzw_104, List.forall_mem_cons.mpr ⟨wzw_105, List.forall_mem_cons.mpr ⟨wzw_106, List.forall_mem_cons.mpr ⟨wzw_107, List.forall_mem_cons.mpr ⟨wzw_108, List.forall_mem_cons.mpr ⟨wzw_109, List.forall_mem_cons.mpr ⟨wzw_110, List.forall_mem_cons.mpr ⟨wzw_111, List.forall_mem_cons.mpr ⟨wzw_112, List.forall_mem_cons.mpr ⟨wzw_113, List.forall_mem_cons.mpr ⟨wzw_114, List.forall_mem_cons.mpr ⟨wzw_115, List.forall_mem_cons.mpr ⟨wzw_116, List.forall_mem_cons.mpr ⟨wzw_117, List.forall_mem_cons.mpr ⟨wzw_118, List.forall_mem_cons.mpr ⟨wzw_119, List.forall_mem_cons.mpr ⟨wzw_120, (fun _ h => absurd h List.not_mem_nil)⟩⟩⟩⟩⟩⟩⟩⟩⟩⟩⟩⟩⟩⟩⟩⟩⟩⟩⟩⟩⟩⟩⟩⟩⟩⟩⟩⟩⟩⟩⟩⟩⟩⟩⟩⟩⟩⟩⟩⟩⟩⟩⟩⟩⟩⟩⟩⟩⟩⟩⟩⟩⟩⟩⟩⟩⟩⟩⟩⟩⟩⟩⟩⟩⟩⟩⟩⟩⟩⟩⟩⟩⟩⟩⟩⟩⟩⟩⟩⟩⟩, in_law_X6⟩, in_law_X4⟩, in_law_X0⟩, in_law_X3⟩) (by decide +kernel)
set_option maxRecDepth 20000 in
theorem g_law_X7_maze : GoodIn wz_law (wsV RL 27 RX7 yX7_maze wz_X7_maze) := goodIn_sub (show ∀ w ∈ ([Cond.methodLink RL 27 yX7_maze, Cond.instanceMethod yX7_maze, Cond.selects RX7 yX7_maze yX7_maze, Cond.initialized RX7, Cond.code yX7_maze cX7_maze 1 (some .int), Cond.fieldLink RX7 80 "HedgeMazeModel" "thrown" "I", Cond.fieldLink RX7 121 "HedgeMazeModel" "token" "I", Cond.fieldLink RX7 31 "HedgeMazeModel" "lines" "[I", Cond.fieldLink RX7 132 "HedgeMazeModel" "bad" "I", Cond.methodLink RX7 229 yX7_clears, Cond.instanceMethod yX7_clears, Cond.selects RX7 yX7_clears yX7_clears, Cond.initialized RX7, Cond.code yX7_clears cX7_clears 2 none, Cond.fieldLink RX7 34 "HedgeMazeModel" "has" "[I", Cond.fieldLink RX7 207 "HedgeMazeModel" "isLawTold" "Z", Cond.fieldLink RX7 37 "HedgeMazeModel" "state" "[I", Cond.methodLink RX7 232 yX7_begins, Cond.instanceMethod yX7_begins, Cond.selects RX7 yX7_begins yX7_begins, Cond.code yX7_begins cX7_begins 1 none, Cond.fieldLink RX7 135 "HedgeMazeModel" "badPlace" "I", Cond.fieldLink RX7 104 "HedgeMazeModel" "at" "I", Cond.methodLink RX7 142 yX7_next, Cond.instanceMethod yX7_next, Cond.selects RX7 yX7_next yX7_next, Cond.code yX7_next cX7_next 2 none, Cond.fieldLink RX7 111 "HedgeMazeModel" "place" "I", Cond.fieldLink RX7 114 "HedgeMazeModel" "value" "I", Cond.fieldLink RX7 117 "HedgeMazeModel" "word" "J", Cond.fieldLink RX7 97 "HedgeMazeModel" "taped" "I", Cond.methodLink RX7 107 yX7_isByte, Cond.instanceMethod yX7_isByte, Cond.selects RX7 yX7_isByte yX7_isByte, Cond.code yX7_isByte cX7_isByte 4 (some .boolean), Cond.methodLink RX7 221 yX7_isGood, Cond.instanceMethod yX7_isGood, Cond.selects RX7 yX7_isGood yX7_isGood, Cond.code yX7_isGood cX7_isGood 1 (some .boolean), Cond.methodLink RX7 186 yX7_laysSides, Cond.instanceMethod yX7_laysSides, Cond.selects RX7 yX7_laysSides yX7_laysSides, Cond.code yX7_laysSides cX7_laysSides 5 none, Cond.fieldLink RX7 162 "HedgeMazeModel" "sides" "I", Cond.methodLink RX7 250 yX7_isOver, Cond.instanceMethod yX7_isOver, Cond.selects RX7 yX7_isOver yX7_isOver, Cond.code yX7_isOver cX7_isOver 1 none, Cond.fieldLink RX7 159 "HedgeMazeModel" "fault" "I", Cond.fieldLink RX7 27 "HedgeMazeModel" "faultPlace" "I", Cond.methodLink RX7 253 yX7_copyMaze, Cond.instanceMethod yX7_copyMaze, Cond.selects RX7 yX7_copyMaze yX7_copyMaze, Cond.code yX7_copyMaze cX7_copyMaze 3 none, Cond.fieldLink RX7 40 "HedgeMazeModel" "gate" "[I", Cond.fieldLink RX7 43 "HedgeMazeModel" "guest" "[I", Cond.fieldLink RX7 46 "HedgeMazeModel" "gone" "[I", Cond.methodLink RX7 256 yX7_copyRow, Cond.static yX7_copyRow, Cond.code yX7_copyRow cX7_copyRow 5 none] ++ wsX70), w ∈ wz_law from List.forall_mem_append.mpr ⟨List.forall_mem_cons.mpr ⟨wzw_121, List.forall_mem_cons.mpr ⟨wzw_122, List.forall_mem_cons.mpr ⟨wzw_123, List.forall_mem_cons.mpr ⟨wzw_8, List.forall_mem_cons.mpr ⟨wzw_124, List.forall_mem_cons.mpr ⟨wzw_25, List.forall_mem_cons.mpr ⟨wzw_125, List.forall_mem_cons.mpr ⟨wzw_126, List.forall_mem_cons.mpr ⟨wzw_127, List.forall_mem_cons.mpr ⟨wzw_128, List.forall_mem_cons.mpr ⟨wzw_129, List.forall_mem_cons.mpr ⟨wzw_130, List.forall_mem_cons.mpr ⟨wzw_8, List.forall_mem_cons.mpr ⟨wzw_131, List.forall_mem_cons.mpr ⟨wzw_132, List.forall_mem_cons.mpr ⟨wzw_133, List.forall_mem_cons.mpr ⟨wzw_134, List.forall_mem_cons.mpr ⟨wzw_135, List.forall_mem_cons.mpr ⟨wzw_136, List.forall_mem_cons.mpr ⟨wzw_137, List.forall_mem_cons.mpr ⟨wzw_138, List.forall_mem_cons.mpr ⟨wzw_139, List.forall_mem_cons.mpr ⟨wzw_140, List.forall_mem_cons.mpr ⟨wzw_141, List.forall_mem_cons.mpr ⟨wzw_142, List.forall_mem_cons.mpr ⟨wzw_143, List.forall_mem_cons.mpr ⟨wzw_144, List.forall_mem_cons.mpr ⟨wzw_145, List.forall_mem_cons.mpr ⟨wzw_146, List.forall_mem_cons.mpr ⟨wzw_147, List.forall_mem_cons.mpr ⟨wzw_26, List.forall_mem_cons.mpr ⟨wzw_148, List.forall_mem_cons.mpr ⟨wzw_149, List.forall_mem_cons.mpr ⟨wzw_150, List.forall_mem_cons.mpr ⟨wzw_151, List.forall_mem_cons.mpr ⟨wzw_152, List.forall_mem_cons.mpr ⟨wzw_153, List.forall_mem_cons.mpr ⟨wzw_154, List.forall_mem_cons.mpr ⟨wzw_155, List.forall_mem_cons.mpr ⟨wzw_156, List.forall_mem_cons.mpr ⟨wzw_157, List.forall_mem_cons.mpr ⟨wzw_158, List.forall_mem_cons.mpr ⟨wzw_159, List.forall_mem_cons.mpr ⟨wzw_160, List.forall_mem_cons.mpr ⟨wzw_161, List.forall_mem_cons.mpr ⟨wzw_162, List.forall_mem_cons.mpr ⟨wzw_163, List.forall_mem_cons.mpr ⟨wzw_164, List.forall_mem_cons.mpr ⟨wzw_165, List.forall_mem_cons.mpr ⟨wzw_166, List.forall_mem_cons.mpr ⟨wzw_167, List.forall_mem_cons.mpr ⟨wzw_168, List.forall_mem_cons.mpr ⟨wzw_169, List.forall_mem_cons.mpr ⟨wzw_170, List.forall_mem_cons.mpr ⟨wzw_171, List.forall_mem_cons.mpr ⟨wzw_172, List.forall_mem_cons.mpr ⟨wzw_173, List.forall_mem_cons.mpr ⟨wzw_174, List.forall_mem_cons.mpr ⟨wzw_175, List.forall_mem_cons.mpr ⟨wzw_176, (fun _ h => absurd h List.not_mem_nil)⟩⟩⟩⟩⟩⟩⟩⟩⟩⟩⟩⟩⟩⟩⟩⟩⟩⟩⟩⟩⟩⟩⟩⟩⟩⟩⟩⟩⟩⟩⟩⟩⟩⟩⟩⟩⟩⟩⟩⟩⟩⟩⟩⟩⟩⟩⟩⟩⟩⟩⟩⟩⟩⟩⟩⟩⟩⟩⟩⟩, in_law_X7⟩) (by decide +kernel)
set_option maxRecDepth 20000 in
theorem g_law_X6_fault : GoodIn wz_law (wsV RL 28 RX6 yX6_fault wz_X6_fault) := goodIn_sub (show ∀ w ∈ ([Cond.methodLink RL 28 yX6_fault, Cond.instanceMethod yX6_fault, Cond.selects RX6 yX6_fault yX6_fault, Cond.initialized RX6, Cond.code yX6_fault cX6_fault 2 (some .int), Cond.fieldLink RX6 20 "HedgeMaze" "faultPlace" "I", Cond.fieldLink RX6 17 "HedgeMaze" "faultNumber" "I"] ++ wsX60), w ∈ wz_law from List.forall_mem_append.mpr ⟨List.forall_mem_cons.mpr ⟨wzw_177, List.forall_mem_cons.mpr ⟨wzw_178, List.forall_mem_cons.mpr ⟨wzw_179, List.forall_mem_cons.mpr ⟨wzw_3, List.forall_mem_cons.mpr ⟨wzw_180, List.forall_mem_cons.mpr ⟨wzw_51, List.forall_mem_cons.mpr ⟨wzw_49, (fun _ h => absurd h List.not_mem_nil)⟩⟩⟩⟩⟩⟩⟩, in_law_X6⟩) (by decide +kernel)
set_option maxRecDepth 20000 in
theorem g_law_X7_fault : GoodIn wz_law (wsV RL 31 RX7 yX7_fault wz_X7_fault) := goodIn_sub (show ∀ w ∈ ([Cond.methodLink RL 31 yX7_fault, Cond.instanceMethod yX7_fault, Cond.selects RX7 yX7_fault yX7_fault, Cond.initialized RX7, Cond.code yX7_fault cX7_fault 2 (some .int), Cond.fieldLink RX7 80 "HedgeMazeModel" "thrown" "I", Cond.fieldLink RX7 27 "HedgeMazeModel" "faultPlace" "I", Cond.fieldLink RX7 159 "HedgeMazeModel" "fault" "I"] ++ wsX70), w ∈ wz_law from List.forall_mem_append.mpr ⟨List.forall_mem_cons.mpr ⟨wzw_181, List.forall_mem_cons.mpr ⟨wzw_182, List.forall_mem_cons.mpr ⟨wzw_183, List.forall_mem_cons.mpr ⟨wzw_8, List.forall_mem_cons.mpr ⟨wzw_184, List.forall_mem_cons.mpr ⟨wzw_25, List.forall_mem_cons.mpr ⟨wzw_166, List.forall_mem_cons.mpr ⟨wzw_165, (fun _ h => absurd h List.not_mem_nil)⟩⟩⟩⟩⟩⟩⟩⟩, in_law_X7⟩) (by decide +kernel)
set_option maxRecDepth 20000 in
theorem g_law_X6_sides : GoodIn wz_law (wsV RL 32 RX6 yX6_sides wz_X6_sides) := goodIn_sub (show ∀ w ∈ (([Cond.methodLink RL 32 yX6_sides, Cond.instanceMethod yX6_sides, Cond.selects RX6 yX6_sides yX6_sides, Cond.initialized RX6, Cond.code yX6_sides cX6_sides 1 (some .int), Cond.methodLink RX6 86 yX6_hasMaze, Cond.instanceMethod yX6_hasMaze, Cond.selects RX6 yX6_hasMaze yX6_hasMaze, Cond.initialized RX6, Cond.code yX6_hasMaze cX6_hasMaze 1 (some .boolean), Cond.fieldLink RX6 33 "HedgeMaze" "garden" "LHedgeMaze$Garden;", Cond.fieldLink RX6 83 "HedgeMaze$Garden" "lines" "I"] ++ wsX60) ++ wsX00), w ∈ wz_law from List.forall_mem_append.mpr ⟨List.forall_mem_append.mpr ⟨List.forall_mem_cons.mpr ⟨wzw_185, List.forall_mem_cons.mpr ⟨wzw_186, List.forall_mem_cons.mpr ⟨wzw_187, List.forall_mem_cons.mpr ⟨wzw_3, List.forall_mem_cons.mpr ⟨wzw_188, List.forall_mem_cons.mpr ⟨wzw_189, List.forall_mem_cons.mpr ⟨wzw_190, List.forall_mem_cons.mpr ⟨wzw_191, List.forall_mem_cons.mpr ⟨wzw_3, List.forall_mem_cons.mpr ⟨wzw_192, List.forall_mem_cons.mpr ⟨wzw_52, List.forall_mem_cons.mpr ⟨wzw_54, (fun _ h => absurd h List.not_mem_nil)⟩⟩⟩⟩⟩⟩⟩⟩⟩⟩⟩⟩, in_law_X6⟩, in_law_X0⟩) (by decide +kernel)
set_option maxRecDepth 20000 in
theorem g_law_X7_sides : GoodIn wz_law (wsV RL 35 RX7 yX7_sides wz_X7_sides) := goodIn_sub (show ∀ w ∈ ([Cond.methodLink RL 35 yX7_sides, Cond.instanceMethod yX7_sides, Cond.selects RX7 yX7_sides yX7_sides, Cond.initialized RX7, Cond.code yX7_sides cX7_sides 1 (some .int), Cond.fieldLink RX7 80 "HedgeMazeModel" "thrown" "I", Cond.methodLink RX7 263 yX7_isMaze, Cond.instanceMethod yX7_isMaze, Cond.selects RX7 yX7_isMaze yX7_isMaze, Cond.initialized RX7, Cond.code yX7_isMaze cX7_isMaze 1 (some .boolean), Cond.fieldLink RX7 31 "HedgeMazeModel" "lines" "[I"] ++ wsX70), w ∈ wz_law from List.forall_mem_append.mpr ⟨List.forall_mem_cons.mpr ⟨wzw_193, List.forall_mem_cons.mpr ⟨wzw_194, List.forall_mem_cons.mpr ⟨wzw_195, List.forall_mem_cons.mpr ⟨wzw_8, List.forall_mem_cons.mpr ⟨wzw_196, List.forall_mem_cons.mpr ⟨wzw_25, List.forall_mem_cons.mpr ⟨wzw_197, List.forall_mem_cons.mpr ⟨wzw_198, List.forall_mem_cons.mpr ⟨wzw_199, List.forall_mem_cons.mpr ⟨wzw_8, List.forall_mem_cons.mpr ⟨wzw_200, List.forall_mem_cons.mpr ⟨wzw_126, (fun _ h => absurd h List.not_mem_nil)⟩⟩⟩⟩⟩⟩⟩⟩⟩⟩⟩⟩, in_law_X7⟩) (by decide +kernel)
set_option maxRecDepth 20000 in
theorem g_law_X6_side : GoodIn wz_law (wsV RL 36 RX6 yX6_side wz_X6_side) := goodIn_sub (show ∀ w ∈ ((([Cond.methodLink RL 36 yX6_side, Cond.instanceMethod yX6_side, Cond.selects RX6 yX6_side yX6_side, Cond.initialized RX6, Cond.code yX6_side cX6_side 3 (some .int), Cond.methodLink RX6 99 yX6_isCell, Cond.instanceMethod yX6_isCell, Cond.selects RX6 yX6_isCell yX6_isCell, Cond.initialized RX6, Cond.code yX6_isCell cX6_isCell 2 (some .boolean), Cond.fieldLink RX6 33 "HedgeMaze" "garden" "LHedgeMaze$Garden;", Cond.fieldLink RX6 90 "HedgeMaze$Garden" "plan" "LHedgeMaze$Plan;", Cond.fieldLink RX6 169 "HedgeMaze$Plan" "cellCount" "I"] ++ wsX60) ++ wsX00) ++ wsX30), w ∈ wz_law from List.forall_mem_append.mpr ⟨List.forall_mem_append.mpr ⟨List.forall_mem_append.mpr ⟨List.forall_mem_cons.mpr ⟨wzw_201, List.forall_mem_cons.mpr ⟨wzw_202, List.forall_mem_cons.mpr ⟨wzw_203, List.forall_mem_cons.mpr ⟨wzw_3, List.forall_mem_cons.mpr ⟨wzw_204, List.forall_mem_cons.mpr ⟨wzw_205, List.forall_mem_cons.mpr ⟨wzw_206, List.forall_mem_cons.mpr ⟨wzw_207, List.forall_mem_cons.mpr ⟨wzw_3, List.forall_mem_cons.mpr ⟨wzw_208, List.forall_mem_cons.mpr ⟨wzw_52, List.forall_mem_cons.mpr ⟨wzw_209, List.forall_mem_cons.mpr ⟨wzw_210, (fun _ h => absurd h List.not_mem_nil)⟩⟩⟩⟩⟩⟩⟩⟩⟩⟩⟩⟩⟩, in_law_X6⟩, in_law_X0⟩, in_law_X3⟩) (by decide +kernel)
set_option maxRecDepth 20000 in
theorem g_law_X7_side : GoodIn wz_law (wsV RL 40 RX7 yX7_side wz_X7_side) := goodIn_sub (show ∀ w ∈ ([Cond.methodLink RL 40 yX7_side, Cond.instanceMethod yX7_side, Cond.selects RX7 yX7_side yX7_side, Cond.initialized RX7, Cond.code yX7_side cX7_side 3 (some .int), Cond.fieldLink RX7 80 "HedgeMazeModel" "thrown" "I", Cond.methodLink RX7 276 yX7_isCell, Cond.instanceMethod yX7_isCell, Cond.selects RX7 yX7_isCell yX7_isCell, Cond.initialized RX7, Cond.code yX7_isCell cX7_isCell 2 (some .boolean), Cond.methodLink RX7 260 yX7_cellMany, Cond.instanceMethod yX7_cellMany, Cond.selects RX7 yX7_cellMany yX7_cellMany, Cond.code yX7_cellMany cX7_cellMany 1 (some .int), Cond.fieldLink RX7 34 "HedgeMazeModel" "has" "[I", Cond.methodLink RX7 85 yX7_in, Cond.static yX7_in, Cond.code yX7_in cX7_in 6 (some .boolean)] ++ wsX70), w ∈ wz_law from List.forall_mem_append.mpr ⟨List.forall_mem_cons.mpr ⟨wzw_211, List.forall_mem_cons.mpr ⟨wzw_212, List.forall_mem_cons.mpr ⟨wzw_213, List.forall_mem_cons.mpr ⟨wzw_8, List.forall_mem_cons.mpr ⟨wzw_214, List.forall_mem_cons.mpr ⟨wzw_25, List.forall_mem_cons.mpr ⟨wzw_215, List.forall_mem_cons.mpr ⟨wzw_216, List.forall_mem_cons.mpr ⟨wzw_217, List.forall_mem_cons.mpr ⟨wzw_8, List.forall_mem_cons.mpr ⟨wzw_218, List.forall_mem_cons.mpr ⟨wzw_219, List.forall_mem_cons.mpr ⟨wzw_220, List.forall_mem_cons.mpr ⟨wzw_221, List.forall_mem_cons.mpr ⟨wzw_222, List.forall_mem_cons.mpr ⟨wzw_132, List.forall_mem_cons.mpr ⟨wzw_40, List.forall_mem_cons.mpr ⟨wzw_41, List.forall_mem_cons.mpr ⟨wzw_42, (fun _ h => absurd h List.not_mem_nil)⟩⟩⟩⟩⟩⟩⟩⟩⟩⟩⟩⟩⟩⟩⟩⟩⟩⟩⟩, in_law_X7⟩) (by decide +kernel)
set_option maxRecDepth 20000 in
theorem g_law_X6_what : GoodIn wz_law (wsV RL 41 RX6 yX6_what wz_X6_what) := goodIn_sub (show ∀ w ∈ ((([Cond.methodLink RL 41 yX6_what, Cond.instanceMethod yX6_what, Cond.selects RX6 yX6_what yX6_what, Cond.initialized RX6, Cond.code yX6_what cX6_what 4 (some .int), Cond.methodLink RX6 107 yX6_isSide, Cond.instanceMethod yX6_isSide, Cond.selects RX6 yX6_isSide yX6_isSide, Cond.initialized RX6, Cond.code yX6_isSide cX6_isSide 3 (some .boolean), Cond.fieldLink RX6 33 "HedgeMaze" "garden" "LHedgeMaze$Garden;", Cond.fieldLink RX6 90 "HedgeMaze$Garden" "plan" "LHedgeMaze$Plan;", Cond.fieldLink RX6 94 "HedgeMaze$Plan" "sideCount" "I"] ++ wsX60) ++ wsX00) ++ wsX30), w ∈ wz_law from List.forall_mem_append.mpr ⟨List.forall_mem_append.mpr ⟨List.forall_mem_append.mpr ⟨List.forall_mem_cons.mpr ⟨wzw_223, List.forall_mem_cons.mpr ⟨wzw_224, List.forall_mem_cons.mpr ⟨wzw_225, List.forall_mem_cons.mpr ⟨wzw_3, List.forall_mem_cons.mpr ⟨wzw_226, List.forall_mem_cons.mpr ⟨wzw_227, List.forall_mem_cons.mpr ⟨wzw_228, List.forall_mem_cons.mpr ⟨wzw_229, List.forall_mem_cons.mpr ⟨wzw_3, List.forall_mem_cons.mpr ⟨wzw_230, List.forall_mem_cons.mpr ⟨wzw_52, List.forall_mem_cons.mpr ⟨wzw_209, List.forall_mem_cons.mpr ⟨wzw_231, (fun _ h => absurd h List.not_mem_nil)⟩⟩⟩⟩⟩⟩⟩⟩⟩⟩⟩⟩⟩, in_law_X6⟩, in_law_X0⟩, in_law_X3⟩) (by decide +kernel)
set_option maxRecDepth 20000 in
theorem g_law_X7_what : GoodIn wz_law (wsV RL 44 RX7 yX7_what wz_X7_what) := goodIn_sub (show ∀ w ∈ ([Cond.methodLink RL 44 yX7_what, Cond.instanceMethod yX7_what, Cond.selects RX7 yX7_what yX7_what, Cond.initialized RX7, Cond.code yX7_what cX7_what 3 (some .int), Cond.fieldLink RX7 80 "HedgeMazeModel" "thrown" "I", Cond.methodLink RX7 282 yX7_isSide, Cond.instanceMethod yX7_isSide, Cond.selects RX7 yX7_isSide yX7_isSide, Cond.initialized RX7, Cond.code yX7_isSide cX7_isSide 3 (some .boolean), Cond.methodLink RX7 263 yX7_isMaze, Cond.instanceMethod yX7_isMaze, Cond.selects RX7 yX7_isMaze yX7_isMaze, Cond.code yX7_isMaze cX7_isMaze 1 (some .boolean), Cond.fieldLink RX7 31 "HedgeMazeModel" "lines" "[I"] ++ wsX70), w ∈ wz_law from List.forall_mem_append.mpr ⟨List.forall_mem_cons.mpr ⟨wzw_232, List.forall_mem_cons.mpr ⟨wzw_233, List.forall_mem_cons.mpr ⟨wzw_234, List.forall_mem_cons.mpr ⟨wzw_8, List.forall_mem_cons.mpr ⟨wzw_235, List.forall_mem_cons.mpr ⟨wzw_25, List.forall_mem_cons.mpr ⟨wzw_236, List.forall_mem_cons.mpr ⟨wzw_237, List.forall_mem_cons.mpr ⟨wzw_238, List.forall_mem_cons.mpr ⟨wzw_8, List.forall_mem_cons.mpr ⟨wzw_239, List.forall_mem_cons.mpr ⟨wzw_197, List.forall_mem_cons.mpr ⟨wzw_198, List.forall_mem_cons.mpr ⟨wzw_199, List.forall_mem_cons.mpr ⟨wzw_200, List.forall_mem_cons.mpr ⟨wzw_126, (fun _ h => absurd h List.not_mem_nil)⟩⟩⟩⟩⟩⟩⟩⟩⟩⟩⟩⟩⟩⟩⟩⟩, in_law_X7⟩) (by decide +kernel)
set_option maxRecDepth 20000 in
theorem g_law_X6_far : GoodIn wz_law (wsV RL 45 RX6 yX6_far wz_X6_far) := goodIn_sub (show ∀ w ∈ ((([Cond.methodLink RL 45 yX6_far, Cond.instanceMethod yX6_far, Cond.selects RX6 yX6_far yX6_far, Cond.initialized RX6, Cond.code yX6_far cX6_far 3 (some .int), Cond.methodLink RX6 99 yX6_isCell, Cond.instanceMethod yX6_isCell, Cond.selects RX6 yX6_isCell yX6_isCell, Cond.initialized RX6, Cond.code yX6_isCell cX6_isCell 2 (some .boolean), Cond.fieldLink RX6 33 "HedgeMaze" "garden" "LHedgeMaze$Garden;", Cond.fieldLink RX6 90 "HedgeMaze$Garden" "plan" "LHedgeMaze$Plan;", Cond.fieldLink RX6 169 "HedgeMaze$Plan" "cellCount" "I"] ++ wsX60) ++ wsX00) ++ wsX30), w ∈ wz_law from List.forall_mem_append.mpr ⟨List.forall_mem_append.mpr ⟨List.forall_mem_append.mpr ⟨List.forall_mem_cons.mpr ⟨wzw_240, List.forall_mem_cons.mpr ⟨wzw_241, List.forall_mem_cons.mpr ⟨wzw_242, List.forall_mem_cons.mpr ⟨wzw_3, List.forall_mem_cons.mpr ⟨wzw_243, List.forall_mem_cons.mpr ⟨wzw_205, List.forall_mem_cons.mpr ⟨wzw_206, List.forall_mem_cons.mpr ⟨wzw_207, List.forall_mem_cons.mpr ⟨wzw_3, List.forall_mem_cons.mpr ⟨wzw_208, List.forall_mem_cons.mpr ⟨wzw_52, List.forall_mem_cons.mpr ⟨wzw_209, List.forall_mem_cons.mpr ⟨wzw_210, (fun _ h => absurd h List.not_mem_nil)⟩⟩⟩⟩⟩⟩⟩⟩⟩⟩⟩⟩⟩, in_law_X6⟩, in_law_X0⟩, in_law_X3⟩) (by decide +kernel)
set_option maxRecDepth 20000 in
theorem g_law_X7_far : GoodIn wz_law (wsV RL 48 RX7 yX7_far wz_X7_far) := goodIn_sub (show ∀ w ∈ ([Cond.methodLink RL 48 yX7_far, Cond.instanceMethod yX7_far, Cond.selects RX7 yX7_far yX7_far, Cond.initialized RX7, Cond.code yX7_far cX7_far 3 (some .int), Cond.fieldLink RX7 80 "HedgeMazeModel" "thrown" "I", Cond.methodLink RX7 276 yX7_isCell, Cond.instanceMethod yX7_isCell, Cond.selects RX7 yX7_isCell yX7_isCell, Cond.initialized RX7, Cond.code yX7_isCell cX7_isCell 2 (some .boolean), Cond.methodLink RX7 260 yX7_cellMany, Cond.instanceMethod yX7_cellMany, Cond.selects RX7 yX7_cellMany yX7_cellMany, Cond.code yX7_cellMany cX7_cellMany 1 (some .int), Cond.fieldLink RX7 34 "HedgeMazeModel" "has" "[I", Cond.methodLink RX7 85 yX7_in, Cond.static yX7_in, Cond.code yX7_in cX7_in 6 (some .boolean)] ++ wsX70), w ∈ wz_law from List.forall_mem_append.mpr ⟨List.forall_mem_cons.mpr ⟨wzw_244, List.forall_mem_cons.mpr ⟨wzw_245, List.forall_mem_cons.mpr ⟨wzw_246, List.forall_mem_cons.mpr ⟨wzw_8, List.forall_mem_cons.mpr ⟨wzw_247, List.forall_mem_cons.mpr ⟨wzw_25, List.forall_mem_cons.mpr ⟨wzw_215, List.forall_mem_cons.mpr ⟨wzw_216, List.forall_mem_cons.mpr ⟨wzw_217, List.forall_mem_cons.mpr ⟨wzw_8, List.forall_mem_cons.mpr ⟨wzw_218, List.forall_mem_cons.mpr ⟨wzw_219, List.forall_mem_cons.mpr ⟨wzw_220, List.forall_mem_cons.mpr ⟨wzw_221, List.forall_mem_cons.mpr ⟨wzw_222, List.forall_mem_cons.mpr ⟨wzw_132, List.forall_mem_cons.mpr ⟨wzw_40, List.forall_mem_cons.mpr ⟨wzw_41, List.forall_mem_cons.mpr ⟨wzw_42, (fun _ h => absurd h List.not_mem_nil)⟩⟩⟩⟩⟩⟩⟩⟩⟩⟩⟩⟩⟩⟩⟩⟩⟩⟩⟩, in_law_X7⟩) (by decide +kernel)
set_option maxRecDepth 20000 in
theorem g_law_X6_way : GoodIn wz_law (wsV RL 49 RX6 yX6_way wz_X6_way) := goodIn_sub (show ∀ w ∈ ((([Cond.methodLink RL 49 yX6_way, Cond.instanceMethod yX6_way, Cond.selects RX6 yX6_way yX6_way, Cond.initialized RX6, Cond.code yX6_way cX6_way 6 (some .int), Cond.methodLink RX6 99 yX6_isCell, Cond.instanceMethod yX6_isCell, Cond.selects RX6 yX6_isCell yX6_isCell, Cond.initialized RX6, Cond.code yX6_isCell cX6_isCell 2 (some .boolean), Cond.fieldLink RX6 33 "HedgeMaze" "garden" "LHedgeMaze$Garden;", Cond.fieldLink RX6 90 "HedgeMaze$Garden" "plan" "LHedgeMaze$Plan;", Cond.fieldLink RX6 169 "HedgeMaze$Plan" "cellCount" "I"] ++ wsX60) ++ wsX00) ++ wsX30), w ∈ wz_law from List.forall_mem_append.mpr ⟨List.forall_mem_append.mpr ⟨List.forall_mem_append.mpr ⟨List.forall_mem_cons.mpr ⟨wzw_248, List.forall_mem_cons.mpr ⟨wzw_249, List.forall_mem_cons.mpr ⟨wzw_250, List.forall_mem_cons.mpr ⟨wzw_3, List.forall_mem_cons.mpr ⟨wzw_251, List.forall_mem_cons.mpr ⟨wzw_205, List.forall_mem_cons.mpr ⟨wzw_206, List.forall_mem_cons.mpr ⟨wzw_207, List.forall_mem_cons.mpr ⟨wzw_3, List.forall_mem_cons.mpr ⟨wzw_208, List.forall_mem_cons.mpr ⟨wzw_52, List.forall_mem_cons.mpr ⟨wzw_209, List.forall_mem_cons.mpr ⟨wzw_210, (fun _ h => absurd h List.not_mem_nil)⟩⟩⟩⟩⟩⟩⟩⟩⟩⟩⟩⟩⟩, in_law_X6⟩, in_law_X0⟩, in_law_X3⟩) (by decide +kernel)
set_option maxRecDepth 20000 in
theorem g_law_X7_way : GoodIn wz_law (wsV RL 53 RX7 yX7_way wz_X7_way) := goodIn_sub (show ∀ w ∈ ([Cond.methodLink RL 53 yX7_way, Cond.instanceMethod yX7_way, Cond.selects RX7 yX7_way yX7_way, Cond.initialized RX7, Cond.code yX7_way cX7_way 6 (some .int), Cond.fieldLink RX7 80 "HedgeMazeModel" "thrown" "I", Cond.methodLink RX7 276 yX7_isCell, Cond.instanceMethod yX7_isCell, Cond.selects RX7 yX7_isCell yX7_isCell, Cond.initialized RX7, Cond.code yX7_isCell cX7_isCell 2 (some .boolean), Cond.methodLink RX7 260 yX7_cellMany, Cond.instanceMethod yX7_cellMany, Cond.selects RX7 yX7_cellMany yX7_cellMany, Cond.code yX7_cellMany cX7_cellMany 1 (some .int), Cond.fieldLink RX7 34 "HedgeMazeModel" "has" "[I", Cond.methodLink RX7 85 yX7_in, Cond.static yX7_in, Cond.code yX7_in cX7_in 6 (some .boolean)] ++ wsX70), w ∈ wz_law from List.forall_mem_append.mpr ⟨List.forall_mem_cons.mpr ⟨wzw_252, List.forall_mem_cons.mpr ⟨wzw_253, List.forall_mem_cons.mpr ⟨wzw_254, List.forall_mem_cons.mpr ⟨wzw_8, List.forall_mem_cons.mpr ⟨wzw_255, List.forall_mem_cons.mpr ⟨wzw_25, List.forall_mem_cons.mpr ⟨wzw_215, List.forall_mem_cons.mpr ⟨wzw_216, List.forall_mem_cons.mpr ⟨wzw_217, List.forall_mem_cons.mpr ⟨wzw_8, List.forall_mem_cons.mpr ⟨wzw_218, List.forall_mem_cons.mpr ⟨wzw_219, List.forall_mem_cons.mpr ⟨wzw_220, List.forall_mem_cons.mpr ⟨wzw_221, List.forall_mem_cons.mpr ⟨wzw_222, List.forall_mem_cons.mpr ⟨wzw_132, List.forall_mem_cons.mpr ⟨wzw_40, List.forall_mem_cons.mpr ⟨wzw_41, List.forall_mem_cons.mpr ⟨wzw_42, (fun _ h => absurd h List.not_mem_nil)⟩⟩⟩⟩⟩⟩⟩⟩⟩⟩⟩⟩⟩⟩⟩⟩⟩⟩⟩, in_law_X7⟩) (by decide +kernel)
set_option maxRecDepth 20000 in
theorem g_law_X6_gate : GoodIn wz_law (wsV RL 54 RX6 yX6_gate wz_X6_gate) := goodIn_sub (show ∀ w ∈ ((([Cond.methodLink RL 54 yX6_gate, Cond.instanceMethod yX6_gate, Cond.selects RX6 yX6_gate yX6_gate, Cond.initialized RX6, Cond.code yX6_gate cX6_gate 2 (some .int), Cond.methodLink RX6 99 yX6_isCell, Cond.instanceMethod yX6_isCell, Cond.selects RX6 yX6_isCell yX6_isCell, Cond.initialized RX6, Cond.code yX6_isCell cX6_isCell 2 (some .boolean), Cond.fieldLink RX6 33 "HedgeMaze" "garden" "LHedgeMaze$Garden;", Cond.fieldLink RX6 90 "HedgeMaze$Garden" "plan" "LHedgeMaze$Plan;", Cond.fieldLink RX6 169 "HedgeMaze$Plan" "cellCount" "I"] ++ wsX60) ++ wsX00) ++ wsX30), w ∈ wz_law from List.forall_mem_append.mpr ⟨List.forall_mem_append.mpr ⟨List.forall_mem_append.mpr ⟨List.forall_mem_cons.mpr ⟨wzw_256, List.forall_mem_cons.mpr ⟨wzw_257, List.forall_mem_cons.mpr ⟨wzw_258, List.forall_mem_cons.mpr ⟨wzw_3, List.forall_mem_cons.mpr ⟨wzw_259, List.forall_mem_cons.mpr ⟨wzw_205, List.forall_mem_cons.mpr ⟨wzw_206, List.forall_mem_cons.mpr ⟨wzw_207, List.forall_mem_cons.mpr ⟨wzw_3, List.forall_mem_cons.mpr ⟨wzw_208, List.forall_mem_cons.mpr ⟨wzw_52, List.forall_mem_cons.mpr ⟨wzw_209, List.forall_mem_cons.mpr ⟨wzw_210, (fun _ h => absurd h List.not_mem_nil)⟩⟩⟩⟩⟩⟩⟩⟩⟩⟩⟩⟩⟩, in_law_X6⟩, in_law_X0⟩, in_law_X3⟩) (by decide +kernel)
set_option maxRecDepth 20000 in
theorem g_law_X7_gate : GoodIn wz_law (wsV RL 57 RX7 yX7_gate wz_X7_gate) := goodIn_sub (show ∀ w ∈ ([Cond.methodLink RL 57 yX7_gate, Cond.instanceMethod yX7_gate, Cond.selects RX7 yX7_gate yX7_gate, Cond.initialized RX7, Cond.code yX7_gate cX7_gate 2 (some .int), Cond.fieldLink RX7 80 "HedgeMazeModel" "thrown" "I", Cond.methodLink RX7 276 yX7_isCell, Cond.instanceMethod yX7_isCell, Cond.selects RX7 yX7_isCell yX7_isCell, Cond.initialized RX7, Cond.code yX7_isCell cX7_isCell 2 (some .boolean), Cond.methodLink RX7 260 yX7_cellMany, Cond.instanceMethod yX7_cellMany, Cond.selects RX7 yX7_cellMany yX7_cellMany, Cond.code yX7_cellMany cX7_cellMany 1 (some .int), Cond.fieldLink RX7 34 "HedgeMazeModel" "has" "[I", Cond.methodLink RX7 85 yX7_in, Cond.static yX7_in, Cond.code yX7_in cX7_in 6 (some .boolean)] ++ wsX70), w ∈ wz_law from List.forall_mem_append.mpr ⟨List.forall_mem_cons.mpr ⟨wzw_260, List.forall_mem_cons.mpr ⟨wzw_261, List.forall_mem_cons.mpr ⟨wzw_262, List.forall_mem_cons.mpr ⟨wzw_8, List.forall_mem_cons.mpr ⟨wzw_263, List.forall_mem_cons.mpr ⟨wzw_25, List.forall_mem_cons.mpr ⟨wzw_215, List.forall_mem_cons.mpr ⟨wzw_216, List.forall_mem_cons.mpr ⟨wzw_217, List.forall_mem_cons.mpr ⟨wzw_8, List.forall_mem_cons.mpr ⟨wzw_218, List.forall_mem_cons.mpr ⟨wzw_219, List.forall_mem_cons.mpr ⟨wzw_220, List.forall_mem_cons.mpr ⟨wzw_221, List.forall_mem_cons.mpr ⟨wzw_222, List.forall_mem_cons.mpr ⟨wzw_132, List.forall_mem_cons.mpr ⟨wzw_40, List.forall_mem_cons.mpr ⟨wzw_41, List.forall_mem_cons.mpr ⟨wzw_42, (fun _ h => absurd h List.not_mem_nil)⟩⟩⟩⟩⟩⟩⟩⟩⟩⟩⟩⟩⟩⟩⟩⟩⟩⟩⟩, in_law_X7⟩) (by decide +kernel)
set_option maxRecDepth 20000 in
theorem g_law_X6_within : GoodIn wz_law (wsV RL 58 RX6 yX6_within wz_X6_within) := goodIn_sub (show ∀ w ∈ ((([Cond.methodLink RL 58 yX6_within, Cond.instanceMethod yX6_within, Cond.selects RX6 yX6_within yX6_within, Cond.initialized RX6, Cond.code yX6_within cX6_within 3 (some .int), Cond.methodLink RX6 99 yX6_isCell, Cond.instanceMethod yX6_isCell, Cond.selects RX6 yX6_isCell yX6_isCell, Cond.initialized RX6, Cond.code yX6_isCell cX6_isCell 2 (some .boolean), Cond.fieldLink RX6 33 "HedgeMaze" "garden" "LHedgeMaze$Garden;", Cond.fieldLink RX6 90 "HedgeMaze$Garden" "plan" "LHedgeMaze$Plan;", Cond.fieldLink RX6 169 "HedgeMaze$Plan" "cellCount" "I"] ++ wsX60) ++ wsX00) ++ wsX30), w ∈ wz_law from List.forall_mem_append.mpr ⟨List.forall_mem_append.mpr ⟨List.forall_mem_append.mpr ⟨List.forall_mem_cons.mpr ⟨wzw_264, List.forall_mem_cons.mpr ⟨wzw_265, List.forall_mem_cons.mpr ⟨wzw_266, List.forall_mem_cons.mpr ⟨wzw_3, List.forall_mem_cons.mpr ⟨wzw_267, List.forall_mem_cons.mpr ⟨wzw_205, List.forall_mem_cons.mpr ⟨wzw_206, List.forall_mem_cons.mpr ⟨wzw_207, List.forall_mem_cons.mpr ⟨wzw_3, List.forall_mem_cons.mpr ⟨wzw_208, List.forall_mem_cons.mpr ⟨wzw_52, List.forall_mem_cons.mpr ⟨wzw_209, List.forall_mem_cons.mpr ⟨wzw_210, (fun _ h => absurd h List.not_mem_nil)⟩⟩⟩⟩⟩⟩⟩⟩⟩⟩⟩⟩⟩, in_law_X6⟩, in_law_X0⟩, in_law_X3⟩) (by decide +kernel)
set_option maxRecDepth 20000 in
theorem g_law_X7_within : GoodIn wz_law (wsV RL 61 RX7 yX7_within wz_X7_within) := goodIn_sub (show ∀ w ∈ ([Cond.methodLink RL 61 yX7_within, Cond.instanceMethod yX7_within, Cond.selects RX7 yX7_within yX7_within, Cond.initialized RX7, Cond.code yX7_within cX7_within 5 (some .int), Cond.fieldLink RX7 80 "HedgeMazeModel" "thrown" "I", Cond.methodLink RX7 276 yX7_isCell, Cond.instanceMethod yX7_isCell, Cond.selects RX7 yX7_isCell yX7_isCell, Cond.initialized RX7, Cond.code yX7_isCell cX7_isCell 2 (some .boolean), Cond.methodLink RX7 260 yX7_cellMany, Cond.instanceMethod yX7_cellMany, Cond.selects RX7 yX7_cellMany yX7_cellMany, Cond.code yX7_cellMany cX7_cellMany 1 (some .int), Cond.fieldLink RX7 34 "HedgeMazeModel" "has" "[I", Cond.methodLink RX7 85 yX7_in, Cond.static yX7_in, Cond.code yX7_in cX7_in 6 (some .boolean)] ++ wsX70), w ∈ wz_law from List.forall_mem_append.mpr ⟨List.forall_mem_cons.mpr ⟨wzw_268, List.forall_mem_cons.mpr ⟨wzw_269, List.forall_mem_cons.mpr ⟨wzw_270, List.forall_mem_cons.mpr ⟨wzw_8, List.forall_mem_cons.mpr ⟨wzw_271, List.forall_mem_cons.mpr ⟨wzw_25, List.forall_mem_cons.mpr ⟨wzw_215, List.forall_mem_cons.mpr ⟨wzw_216, List.forall_mem_cons.mpr ⟨wzw_217, List.forall_mem_cons.mpr ⟨wzw_8, List.forall_mem_cons.mpr ⟨wzw_218, List.forall_mem_cons.mpr ⟨wzw_219, List.forall_mem_cons.mpr ⟨wzw_220, List.forall_mem_cons.mpr ⟨wzw_221, List.forall_mem_cons.mpr ⟨wzw_222, List.forall_mem_cons.mpr ⟨wzw_132, List.forall_mem_cons.mpr ⟨wzw_40, List.forall_mem_cons.mpr ⟨wzw_41, List.forall_mem_cons.mpr ⟨wzw_42, (fun _ h => absurd h List.not_mem_nil)⟩⟩⟩⟩⟩⟩⟩⟩⟩⟩⟩⟩⟩⟩⟩⟩⟩⟩⟩, in_law_X7⟩) (by decide +kernel)
set_option maxRecDepth 20000 in
theorem g_law_X6_shape : GoodIn wz_law (wsV RL 62 RX6 yX6_shape wz_X6_shape) := goodIn_sub (show ∀ w ∈ (([Cond.methodLink RL 62 yX6_shape, Cond.instanceMethod yX6_shape, Cond.selects RX6 yX6_shape yX6_shape, Cond.initialized RX6, Cond.code yX6_shape cX6_shape 4 (some .int), Cond.methodLink RX6 86 yX6_hasMaze, Cond.instanceMethod yX6_hasMaze, Cond.selects RX6 yX6_hasMaze yX6_hasMaze, Cond.initialized RX6, Cond.code yX6_hasMaze cX6_hasMaze 1 (some .boolean), Cond.fieldLink RX6 33 "HedgeMaze" "garden" "LHedgeMaze$Garden;", Cond.fieldLink RX6 83 "HedgeMaze$Garden" "lines" "I"] ++ wsX60) ++ wsX00), w ∈ wz_law from List.forall_mem_append.mpr ⟨List.forall_mem_append.mpr ⟨List.forall_mem_cons.mpr ⟨wzw_272, List.forall_mem_cons.mpr ⟨wzw_273, List.forall_mem_cons.mpr ⟨wzw_274, List.forall_mem_cons.mpr ⟨wzw_3, List.forall_mem_cons.mpr ⟨wzw_275, List.forall_mem_cons.mpr ⟨wzw_189, List.forall_mem_cons.mpr ⟨wzw_190, List.forall_mem_cons.mpr ⟨wzw_191, List.forall_mem_cons.mpr ⟨wzw_3, List.forall_mem_cons.mpr ⟨wzw_192, List.forall_mem_cons.mpr ⟨wzw_52, List.forall_mem_cons.mpr ⟨wzw_54, (fun _ h => absurd h List.not_mem_nil)⟩⟩⟩⟩⟩⟩⟩⟩⟩⟩⟩⟩, in_law_X6⟩, in_law_X0⟩) (by decide +kernel)
set_option maxRecDepth 20000 in
theorem g_law_X7_shape : GoodIn wz_law (wsV RL 65 RX7 yX7_shape wz_X7_shape) := goodIn_sub (show ∀ w ∈ ([Cond.methodLink RL 65 yX7_shape, Cond.instanceMethod yX7_shape, Cond.selects RX7 yX7_shape yX7_shape, Cond.initialized RX7, Cond.code yX7_shape cX7_shape 5 (some .int), Cond.fieldLink RX7 80 "HedgeMazeModel" "thrown" "I", Cond.methodLink RX7 263 yX7_isMaze, Cond.instanceMethod yX7_isMaze, Cond.selects RX7 yX7_isMaze yX7_isMaze, Cond.initialized RX7, Cond.code yX7_isMaze cX7_isMaze 1 (some .boolean), Cond.fieldLink RX7 31 "HedgeMazeModel" "lines" "[I"] ++ wsX70), w ∈ wz_law from List.forall_mem_append.mpr ⟨List.forall_mem_cons.mpr ⟨wzw_276, List.forall_mem_cons.mpr ⟨wzw_277, List.forall_mem_cons.mpr ⟨wzw_278, List.forall_mem_cons.mpr ⟨wzw_8, List.forall_mem_cons.mpr ⟨wzw_279, List.forall_mem_cons.mpr ⟨wzw_25, List.forall_mem_cons.mpr ⟨wzw_197, List.forall_mem_cons.mpr ⟨wzw_198, List.forall_mem_cons.mpr ⟨wzw_199, List.forall_mem_cons.mpr ⟨wzw_8, List.forall_mem_cons.mpr ⟨wzw_200, List.forall_mem_cons.mpr ⟨wzw_126, (fun _ h => absurd h List.not_mem_nil)⟩⟩⟩⟩⟩⟩⟩⟩⟩⟩⟩⟩, in_law_X7⟩) (by decide +kernel)
set_option maxRecDepth 20000 in
theorem g_law_X6_bridge : GoodIn wz_law (wsV RL 66 RX6 yX6_bridge wz_X6_bridge) := goodIn_sub (show ∀ w ∈ (([Cond.methodLink RL 66 yX6_bridge, Cond.instanceMethod yX6_bridge, Cond.selects RX6 yX6_bridge yX6_bridge, Cond.initialized RX6, Cond.code yX6_bridge cX6_bridge 6 (some .int), Cond.methodLink RX6 86 yX6_hasMaze, Cond.instanceMethod yX6_hasMaze, Cond.selects RX6 yX6_hasMaze yX6_hasMaze, Cond.initialized RX6, Cond.code yX6_hasMaze cX6_hasMaze 1 (some .boolean), Cond.fieldLink RX6 33 "HedgeMaze" "garden" "LHedgeMaze$Garden;", Cond.fieldLink RX6 83 "HedgeMaze$Garden" "lines" "I"] ++ wsX60) ++ wsX00), w ∈ wz_law from List.forall_mem_append.mpr ⟨List.forall_mem_append.mpr ⟨List.forall_mem_cons.mpr ⟨wzw_280, List.forall_mem_cons.mpr ⟨wzw_281, List.forall_mem_cons.mpr ⟨wzw_282, List.forall_mem_cons.mpr ⟨wzw_3, List.forall_mem_cons.mpr ⟨wzw_283, List.forall_mem_cons.mpr ⟨wzw_189, List.forall_mem_cons.mpr ⟨wzw_190, List.forall_mem_cons.mpr ⟨wzw_191, List.forall_mem_cons.mpr ⟨wzw_3, List.forall_mem_cons.mpr ⟨wzw_192, List.forall_mem_cons.mpr ⟨wzw_52, List.forall_mem_cons.mpr ⟨wzw_54, (fun _ h => absurd h List.not_mem_nil)⟩⟩⟩⟩⟩⟩⟩⟩⟩⟩⟩⟩, in_law_X6⟩, in_law_X0⟩) (by decide +kernel)
set_option maxRecDepth 20000 in
theorem g_law_X7_bridge : GoodIn wz_law (wsV RL 69 RX7 yX7_bridge wz_X7_bridge) := goodIn_sub (show ∀ w ∈ ([Cond.methodLink RL 69 yX7_bridge, Cond.instanceMethod yX7_bridge, Cond.selects RX7 yX7_bridge yX7_bridge, Cond.initialized RX7, Cond.code yX7_bridge cX7_bridge 4 (some .int), Cond.fieldLink RX7 80 "HedgeMazeModel" "thrown" "I", Cond.methodLink RX7 263 yX7_isMaze, Cond.instanceMethod yX7_isMaze, Cond.selects RX7 yX7_isMaze yX7_isMaze, Cond.initialized RX7, Cond.code yX7_isMaze cX7_isMaze 1 (some .boolean), Cond.fieldLink RX7 31 "HedgeMazeModel" "lines" "[I"] ++ wsX70), w ∈ wz_law from List.forall_mem_append.mpr ⟨List.forall_mem_cons.mpr ⟨wzw_284, List.forall_mem_cons.mpr ⟨wzw_285, List.forall_mem_cons.mpr ⟨wzw_286, List.forall_mem_cons.mpr ⟨wzw_8, List.forall_mem_cons.mpr ⟨wzw_287, List.forall_mem_cons.mpr ⟨wzw_25, List.forall_mem_cons.mpr ⟨wzw_197, List.forall_mem_cons.mpr ⟨wzw_198, List.forall_mem_cons.mpr ⟨wzw_199, List.forall_mem_cons.mpr ⟨wzw_8, List.forall_mem_cons.mpr ⟨wzw_200, List.forall_mem_cons.mpr ⟨wzw_126, (fun _ h => absurd h List.not_mem_nil)⟩⟩⟩⟩⟩⟩⟩⟩⟩⟩⟩⟩, in_law_X7⟩) (by decide +kernel)
set_option maxRecDepth 20000 in
theorem g_law_X6_lawful : GoodIn wz_law (wsV RL 70 RX6 yX6_lawful wz_X6_lawful) := goodIn_sub (show ∀ w ∈ ((([Cond.methodLink RL 70 yX6_lawful, Cond.instanceMethod yX6_lawful, Cond.selects RX6 yX6_lawful yX6_lawful, Cond.initialized RX6, Cond.code yX6_lawful cX6_lawful 3 (some .int), Cond.methodLink RX6 107 yX6_isSide, Cond.instanceMethod yX6_isSide, Cond.selects RX6 yX6_isSide yX6_isSide, Cond.initialized RX6, Cond.code yX6_isSide cX6_isSide 3 (some .boolean), Cond.fieldLink RX6 33 "HedgeMaze" "garden" "LHedgeMaze$Garden;", Cond.fieldLink RX6 90 "HedgeMaze$Garden" "plan" "LHedgeMaze$Plan;", Cond.fieldLink RX6 94 "HedgeMaze$Plan" "sideCount" "I"] ++ wsX60) ++ wsX00) ++ wsX30), w ∈ wz_law from List.forall_mem_append.mpr ⟨List.forall_mem_append.mpr ⟨List.forall_mem_append.mpr ⟨List.forall_mem_cons.mpr ⟨wzw_288, List.forall_mem_cons.mpr ⟨wzw_289, List.forall_mem_cons.mpr ⟨wzw_290, List.forall_mem_cons.mpr ⟨wzw_3, List.forall_mem_cons.mpr ⟨wzw_291, List.forall_mem_cons.mpr ⟨wzw_227, List.forall_mem_cons.mpr ⟨wzw_228, List.forall_mem_cons.mpr ⟨wzw_229, List.forall_mem_cons.mpr ⟨wzw_3, List.forall_mem_cons.mpr ⟨wzw_230, List.forall_mem_cons.mpr ⟨wzw_52, List.forall_mem_cons.mpr ⟨wzw_209, List.forall_mem_cons.mpr ⟨wzw_231, (fun _ h => absurd h List.not_mem_nil)⟩⟩⟩⟩⟩⟩⟩⟩⟩⟩⟩⟩⟩, in_law_X6⟩, in_law_X0⟩, in_law_X3⟩) (by decide +kernel)
set_option maxRecDepth 20000 in
theorem g_law_X7_lawful : GoodIn wz_law (wsV RL 73 RX7 yX7_lawful wz_X7_lawful) := goodIn_sub (show ∀ w ∈ ([Cond.methodLink RL 73 yX7_lawful, Cond.instanceMethod yX7_lawful, Cond.selects RX7 yX7_lawful yX7_lawful, Cond.initialized RX7, Cond.code yX7_lawful cX7_lawful 3 (some .int), Cond.fieldLink RX7 80 "HedgeMazeModel" "thrown" "I", Cond.methodLink RX7 282 yX7_isSide, Cond.instanceMethod yX7_isSide, Cond.selects RX7 yX7_isSide yX7_isSide, Cond.initialized RX7, Cond.code yX7_isSide cX7_isSide 3 (some .boolean), Cond.methodLink RX7 263 yX7_isMaze, Cond.instanceMethod yX7_isMaze, Cond.selects RX7 yX7_isMaze yX7_isMaze, Cond.code yX7_isMaze cX7_isMaze 1 (some .boolean), Cond.fieldLink RX7 31 "HedgeMazeModel" "lines" "[I"] ++ wsX70), w ∈ wz_law from List.forall_mem_append.mpr ⟨List.forall_mem_cons.mpr ⟨wzw_292, List.forall_mem_cons.mpr ⟨wzw_293, List.forall_mem_cons.mpr ⟨wzw_294, List.forall_mem_cons.mpr ⟨wzw_8, List.forall_mem_cons.mpr ⟨wzw_295, List.forall_mem_cons.mpr ⟨wzw_25, List.forall_mem_cons.mpr ⟨wzw_236, List.forall_mem_cons.mpr ⟨wzw_237, List.forall_mem_cons.mpr ⟨wzw_238, List.forall_mem_cons.mpr ⟨wzw_8, List.forall_mem_cons.mpr ⟨wzw_239, List.forall_mem_cons.mpr ⟨wzw_197, List.forall_mem_cons.mpr ⟨wzw_198, List.forall_mem_cons.mpr ⟨wzw_199, List.forall_mem_cons.mpr ⟨wzw_200, List.forall_mem_cons.mpr ⟨wzw_126, (fun _ h => absurd h List.not_mem_nil)⟩⟩⟩⟩⟩⟩⟩⟩⟩⟩⟩⟩⟩⟩⟩⟩, in_law_X7⟩) (by decide +kernel)
set_option maxRecDepth 20000 in
theorem g_law_X6_many : GoodIn wz_law (wsV RL 74 RX6 yX6_many wz_X6_many) := goodIn_sub (show ∀ w ∈ (([Cond.methodLink RL 74 yX6_many, Cond.instanceMethod yX6_many, Cond.selects RX6 yX6_many yX6_many, Cond.initialized RX6, Cond.code yX6_many cX6_many 1 (some .int), Cond.methodLink RX6 86 yX6_hasMaze, Cond.instanceMethod yX6_hasMaze, Cond.selects RX6 yX6_hasMaze yX6_hasMaze, Cond.initialized RX6, Cond.code yX6_hasMaze cX6_hasMaze 1 (some .boolean), Cond.fieldLink RX6 33 "HedgeMaze" "garden" "LHedgeMaze$Garden;", Cond.fieldLink RX6 83 "HedgeMaze$Garden" "lines" "I"] ++ wsX60) ++ wsX00), w ∈ wz_law from List.forall_mem_append.mpr ⟨List.forall_mem_append.mpr ⟨List.forall_mem_cons.mpr ⟨wzw_296, List.forall_mem_cons.mpr ⟨wzw_297, List.forall_mem_cons.mpr ⟨wzw_298, List.forall_mem_cons.mpr ⟨wzw_3, List.forall_mem_cons.mpr ⟨wzw_299, List.forall_mem_cons.mpr ⟨wzw_189, List.forall_mem_cons.mpr ⟨wzw_190, List.forall_mem_cons.mpr ⟨wzw_191, List.forall_mem_cons.mpr ⟨wzw_3, List.forall_mem_cons.mpr ⟨wzw_192, List.forall_mem_cons.mpr ⟨wzw_52, List.forall_mem_cons.mpr ⟨wzw_54, (fun _ h => absurd h List.not_mem_nil)⟩⟩⟩⟩⟩⟩⟩⟩⟩⟩⟩⟩, in_law_X6⟩, in_law_X0⟩) (by decide +kernel)
set_option maxRecDepth 20000 in
theorem g_law_X7_many : GoodIn wz_law (wsV RL 77 RX7 yX7_many wz_X7_many) := goodIn_sub (show ∀ w ∈ ([Cond.methodLink RL 77 yX7_many, Cond.instanceMethod yX7_many, Cond.selects RX7 yX7_many yX7_many, Cond.initialized RX7, Cond.code yX7_many cX7_many 1 (some .int), Cond.fieldLink RX7 80 "HedgeMazeModel" "thrown" "I", Cond.methodLink RX7 263 yX7_isMaze, Cond.instanceMethod yX7_isMaze, Cond.selects RX7 yX7_isMaze yX7_isMaze, Cond.initialized RX7, Cond.code yX7_isMaze cX7_isMaze 1 (some .boolean), Cond.fieldLink RX7 31 "HedgeMazeModel" "lines" "[I"] ++ wsX70), w ∈ wz_law from List.forall_mem_append.mpr ⟨List.forall_mem_cons.mpr ⟨wzw_300, List.forall_mem_cons.mpr ⟨wzw_301, List.forall_mem_cons.mpr ⟨wzw_302, List.forall_mem_cons.mpr ⟨wzw_8, List.forall_mem_cons.mpr ⟨wzw_303, List.forall_mem_cons.mpr ⟨wzw_25, List.forall_mem_cons.mpr ⟨wzw_197, List.forall_mem_cons.mpr ⟨wzw_198, List.forall_mem_cons.mpr ⟨wzw_199, List.forall_mem_cons.mpr ⟨wzw_8, List.forall_mem_cons.mpr ⟨wzw_200, List.forall_mem_cons.mpr ⟨wzw_126, (fun _ h => absurd h List.not_mem_nil)⟩⟩⟩⟩⟩⟩⟩⟩⟩⟩⟩⟩, in_law_X7⟩) (by decide +kernel)
set_option maxRecDepth 20000 in
theorem g_law_X6_nth : GoodIn wz_law (wsV RL 78 RX6 yX6_nth wz_X6_nth) := goodIn_sub (show ∀ w ∈ (([Cond.methodLink RL 78 yX6_nth, Cond.instanceMethod yX6_nth, Cond.selects RX6 yX6_nth yX6_nth, Cond.initialized RX6, Cond.code yX6_nth cX6_nth 3 (some .int), Cond.methodLink RX6 86 yX6_hasMaze, Cond.instanceMethod yX6_hasMaze, Cond.selects RX6 yX6_hasMaze yX6_hasMaze, Cond.initialized RX6, Cond.code yX6_hasMaze cX6_hasMaze 1 (some .boolean), Cond.fieldLink RX6 33 "HedgeMaze" "garden" "LHedgeMaze$Garden;", Cond.fieldLink RX6 83 "HedgeMaze$Garden" "lines" "I"] ++ wsX60) ++ wsX00), w ∈ wz_law from List.forall_mem_append.mpr ⟨List.forall_mem_append.mpr ⟨List.forall_mem_cons.mpr ⟨wzw_304, List.forall_mem_cons.mpr ⟨wzw_305, List.forall_mem_cons.mpr ⟨wzw_306, List.forall_mem_cons.mpr ⟨wzw_3, List.forall_mem_cons.mpr ⟨wzw_307, List.forall_mem_cons.mpr ⟨wzw_189, List.forall_mem_cons.mpr ⟨wzw_190, List.forall_mem_cons.mpr ⟨wzw_191, List.forall_mem_cons.mpr ⟨wzw_3, List.forall_mem_cons.mpr ⟨wzw_192, List.forall_mem_cons.mpr ⟨wzw_52, List.forall_mem_cons.mpr ⟨wzw_54, (fun _ h => absurd h List.not_mem_nil)⟩⟩⟩⟩⟩⟩⟩⟩⟩⟩⟩⟩, in_law_X6⟩, in_law_X0⟩) (by decide +kernel)
set_option maxRecDepth 20000 in
theorem g_law_X7_nth : GoodIn wz_law (wsV RL 81 RX7 yX7_nth wz_X7_nth) := goodIn_sub (show ∀ w ∈ ([Cond.methodLink RL 81 yX7_nth, Cond.instanceMethod yX7_nth, Cond.selects RX7 yX7_nth yX7_nth, Cond.initialized RX7, Cond.code yX7_nth cX7_nth 2 (some .int), Cond.fieldLink RX7 80 "HedgeMazeModel" "thrown" "I", Cond.methodLink RX7 263 yX7_isMaze, Cond.instanceMethod yX7_isMaze, Cond.selects RX7 yX7_isMaze yX7_isMaze, Cond.initialized RX7, Cond.code yX7_isMaze cX7_isMaze 1 (some .boolean), Cond.fieldLink RX7 31 "HedgeMazeModel" "lines" "[I"] ++ wsX70), w ∈ wz_law from List.forall_mem_append.mpr ⟨List.forall_mem_cons.mpr ⟨wzw_308, List.forall_mem_cons.mpr ⟨wzw_309, List.forall_mem_cons.mpr ⟨wzw_310, List.forall_mem_cons.mpr ⟨wzw_8, List.forall_mem_cons.mpr ⟨wzw_311, List.forall_mem_cons.mpr ⟨wzw_25, List.forall_mem_cons.mpr ⟨wzw_197, List.forall_mem_cons.mpr ⟨wzw_198, List.forall_mem_cons.mpr ⟨wzw_199, List.forall_mem_cons.mpr ⟨wzw_8, List.forall_mem_cons.mpr ⟨wzw_200, List.forall_mem_cons.mpr ⟨wzw_126, (fun _ h => absurd h List.not_mem_nil)⟩⟩⟩⟩⟩⟩⟩⟩⟩⟩⟩⟩, in_law_X7⟩) (by decide +kernel)
set_option maxRecDepth 20000 in
theorem g_law_X6_night : GoodIn wz_law (wsV RL 82 RX6 yX6_night wz_X6_night) := goodIn_sub (show ∀ w ∈ ((([Cond.methodLink RL 82 yX6_night, Cond.instanceMethod yX6_night, Cond.selects RX6 yX6_night yX6_night, Cond.initialized RX6, Cond.code yX6_night cX6_night 5 (some .int), Cond.methodLink RX6 194 yX6_lawful, Cond.instanceMethod yX6_lawful, Cond.selects RX6 yX6_lawful yX6_lawful, Cond.initialized RX6, Cond.code yX6_lawful cX6_lawful 3 (some .int), Cond.methodLink RX6 107 yX6_isSide, Cond.instanceMethod yX6_isSide, Cond.selects RX6 yX6_isSide yX6_isSide, Cond.code yX6_isSide cX6_isSide 3 (some .boolean), Cond.fieldLink RX6 33 "HedgeMaze" "garden" "LHedgeMaze$Garden;", Cond.fieldLink RX6 90 "HedgeMaze$Garden" "plan" "LHedgeMaze$Plan;", Cond.fieldLink RX6 94 "HedgeMaze$Plan" "sideCount" "I"] ++ wsX60) ++ wsX00) ++ wsX30), w ∈ wz_law from List.forall_mem_append.mpr ⟨List.forall_mem_append.mpr ⟨List.forall_mem_append.mpr ⟨List.forall_mem_cons.mpr ⟨wzw_312, List.forall_mem_cons.mpr ⟨wzw_313, List.forall_mem_cons.mpr ⟨wzw_314, List.forall_mem_cons.mpr ⟨wzw_3, List.forall_mem_cons.mpr ⟨wzw_315, List.forall_mem_cons.mpr ⟨wzw_316, List.forall_mem_cons.mpr ⟨wzw_289, List.forall_mem_cons.mpr ⟨wzw_290, List.forall_mem_cons.mpr ⟨wzw_3, List.forall_mem_cons.mpr ⟨wzw_291, List.forall_mem_cons.mpr ⟨wzw_227, List.forall_mem_cons.mpr ⟨wzw_228, List.forall_mem_cons.mpr ⟨wzw_229, List.forall_mem_cons.mpr ⟨wzw_230, List.forall_mem_cons.mpr ⟨wzw_52, List.forall_mem_cons.mpr ⟨wzw_209, List.forall_mem_cons.mpr ⟨wzw_231, (fun _ h => absurd h List.not_mem_nil)⟩⟩⟩⟩⟩⟩⟩⟩⟩⟩⟩⟩⟩⟩⟩⟩⟩, in_law_X6⟩, in_law_X0⟩, in_law_X3⟩) (by decide +kernel)
set_option maxRecDepth 20000 in
theorem g_law_X7_night : GoodIn wz_law (wsV RL 85 RX7 yX7_night wz_X7_night) := goodIn_sub (show ∀ w ∈ ([Cond.methodLink RL 85 yX7_night, Cond.instanceMethod yX7_night, Cond.selects RX7 yX7_night yX7_night, Cond.initialized RX7, Cond.code yX7_night cX7_night 4 (some .int), Cond.fieldLink RX7 80 "HedgeMazeModel" "thrown" "I", Cond.methodLink RX7 282 yX7_isSide, Cond.instanceMethod yX7_isSide, Cond.selects RX7 yX7_isSide yX7_isSide, Cond.initialized RX7, Cond.code yX7_isSide cX7_isSide 3 (some .boolean), Cond.methodLink RX7 263 yX7_isMaze, Cond.instanceMethod yX7_isMaze, Cond.selects RX7 yX7_isMaze yX7_isMaze, Cond.code yX7_isMaze cX7_isMaze 1 (some .boolean), Cond.fieldLink RX7 31 "HedgeMazeModel" "lines" "[I"] ++ wsX70), w ∈ wz_law from List.forall_mem_append.mpr ⟨List.forall_mem_cons.mpr ⟨wzw_317, List.forall_mem_cons.mpr ⟨wzw_318, List.forall_mem_cons.mpr ⟨wzw_319, List.forall_mem_cons.mpr ⟨wzw_8, List.forall_mem_cons.mpr ⟨wzw_320, List.forall_mem_cons.mpr ⟨wzw_25, List.forall_mem_cons.mpr ⟨wzw_236, List.forall_mem_cons.mpr ⟨wzw_237, List.forall_mem_cons.mpr ⟨wzw_238, List.forall_mem_cons.mpr ⟨wzw_8, List.forall_mem_cons.mpr ⟨wzw_239, List.forall_mem_cons.mpr ⟨wzw_197, List.forall_mem_cons.mpr ⟨wzw_198, List.forall_mem_cons.mpr ⟨wzw_199, List.forall_mem_cons.mpr ⟨wzw_200, List.forall_mem_cons.mpr ⟨wzw_126, (fun _ h => absurd h List.not_mem_nil)⟩⟩⟩⟩⟩⟩⟩⟩⟩⟩⟩⟩⟩⟩⟩⟩, in_law_X7⟩) (by decide +kernel)
set_option maxRecDepth 20000 in
theorem g_law_X6_dawn : GoodIn wz_law (wsV RL 86 RX6 yX6_dawn wz_X6_dawn) := goodIn_sub (show ∀ w ∈ (([Cond.methodLink RL 86 yX6_dawn, Cond.instanceMethod yX6_dawn, Cond.selects RX6 yX6_dawn yX6_dawn, Cond.initialized RX6, Cond.code yX6_dawn cX6_dawn 1 (some .int), Cond.methodLink RX6 86 yX6_hasMaze, Cond.instanceMethod yX6_hasMaze, Cond.selects RX6 yX6_hasMaze yX6_hasMaze, Cond.initialized RX6, Cond.code yX6_hasMaze cX6_hasMaze 1 (some .boolean), Cond.fieldLink RX6 33 "HedgeMaze" "garden" "LHedgeMaze$Garden;", Cond.fieldLink RX6 83 "HedgeMaze$Garden" "lines" "I"] ++ wsX60) ++ wsX00), w ∈ wz_law from List.forall_mem_append.mpr ⟨List.forall_mem_append.mpr ⟨List.forall_mem_cons.mpr ⟨wzw_321, List.forall_mem_cons.mpr ⟨wzw_322, List.forall_mem_cons.mpr ⟨wzw_323, List.forall_mem_cons.mpr ⟨wzw_3, List.forall_mem_cons.mpr ⟨wzw_324, List.forall_mem_cons.mpr ⟨wzw_189, List.forall_mem_cons.mpr ⟨wzw_190, List.forall_mem_cons.mpr ⟨wzw_191, List.forall_mem_cons.mpr ⟨wzw_3, List.forall_mem_cons.mpr ⟨wzw_192, List.forall_mem_cons.mpr ⟨wzw_52, List.forall_mem_cons.mpr ⟨wzw_54, (fun _ h => absurd h List.not_mem_nil)⟩⟩⟩⟩⟩⟩⟩⟩⟩⟩⟩⟩, in_law_X6⟩, in_law_X0⟩) (by decide +kernel)
set_option maxRecDepth 20000 in
theorem g_law_X7_dawn : GoodIn wz_law (wsV RL 89 RX7 yX7_dawn wz_X7_dawn) := goodIn_sub (show ∀ w ∈ ([Cond.methodLink RL 89 yX7_dawn, Cond.instanceMethod yX7_dawn, Cond.selects RX7 yX7_dawn yX7_dawn, Cond.initialized RX7, Cond.code yX7_dawn cX7_dawn 1 (some .int), Cond.fieldLink RX7 80 "HedgeMazeModel" "thrown" "I", Cond.methodLink RX7 263 yX7_isMaze, Cond.instanceMethod yX7_isMaze, Cond.selects RX7 yX7_isMaze yX7_isMaze, Cond.initialized RX7, Cond.code yX7_isMaze cX7_isMaze 1 (some .boolean), Cond.fieldLink RX7 31 "HedgeMazeModel" "lines" "[I"] ++ wsX70), w ∈ wz_law from List.forall_mem_append.mpr ⟨List.forall_mem_cons.mpr ⟨wzw_325, List.forall_mem_cons.mpr ⟨wzw_326, List.forall_mem_cons.mpr ⟨wzw_327, List.forall_mem_cons.mpr ⟨wzw_8, List.forall_mem_cons.mpr ⟨wzw_328, List.forall_mem_cons.mpr ⟨wzw_25, List.forall_mem_cons.mpr ⟨wzw_197, List.forall_mem_cons.mpr ⟨wzw_198, List.forall_mem_cons.mpr ⟨wzw_199, List.forall_mem_cons.mpr ⟨wzw_8, List.forall_mem_cons.mpr ⟨wzw_200, List.forall_mem_cons.mpr ⟨wzw_126, (fun _ h => absurd h List.not_mem_nil)⟩⟩⟩⟩⟩⟩⟩⟩⟩⟩⟩⟩, in_law_X7⟩) (by decide +kernel)
set_option maxRecDepth 20000 in
theorem g_law_X6_gone : GoodIn wz_law (wsV RL 90 RX6 yX6_gone wz_X6_gone) := goodIn_sub (show ∀ w ∈ (([Cond.methodLink RL 90 yX6_gone, Cond.instanceMethod yX6_gone, Cond.selects RX6 yX6_gone yX6_gone, Cond.initialized RX6, Cond.code yX6_gone cX6_gone 2 (some .int), Cond.methodLink RX6 86 yX6_hasMaze, Cond.instanceMethod yX6_hasMaze, Cond.selects RX6 yX6_hasMaze yX6_hasMaze, Cond.initialized RX6, Cond.code yX6_hasMaze cX6_hasMaze 1 (some .boolean), Cond.fieldLink RX6 33 "HedgeMaze" "garden" "LHedgeMaze$Garden;", Cond.fieldLink RX6 83 "HedgeMaze$Garden" "lines" "I"] ++ wsX60) ++ wsX00), w ∈ wz_law from List.forall_mem_append.mpr ⟨List.forall_mem_append.mpr ⟨List.forall_mem_cons.mpr ⟨wzw_329, List.forall_mem_cons.mpr ⟨wzw_330, List.forall_mem_cons.mpr ⟨wzw_331, List.forall_mem_cons.mpr ⟨wzw_3, List.forall_mem_cons.mpr ⟨wzw_332, List.forall_mem_cons.mpr ⟨wzw_189, List.forall_mem_cons.mpr ⟨wzw_190, List.forall_mem_cons.mpr ⟨wzw_191, List.forall_mem_cons.mpr ⟨wzw_3, List.forall_mem_cons.mpr ⟨wzw_192, List.forall_mem_cons.mpr ⟨wzw_52, List.forall_mem_cons.mpr ⟨wzw_54, (fun _ h => absurd h List.not_mem_nil)⟩⟩⟩⟩⟩⟩⟩⟩⟩⟩⟩⟩, in_law_X6⟩, in_law_X0⟩) (by decide +kernel)
set_option maxRecDepth 20000 in
theorem g_law_X7_gone : GoodIn wz_law (wsV RL 93 RX7 yX7_gone wz_X7_gone) := goodIn_sub (show ∀ w ∈ ([Cond.methodLink RL 93 yX7_gone, Cond.instanceMethod yX7_gone, Cond.selects RX7 yX7_gone yX7_gone, Cond.initialized RX7, Cond.code yX7_gone cX7_gone 2 (some .int), Cond.fieldLink RX7 80 "HedgeMazeModel" "thrown" "I", Cond.methodLink RX7 263 yX7_isMaze, Cond.instanceMethod yX7_isMaze, Cond.selects RX7 yX7_isMaze yX7_isMaze, Cond.initialized RX7, Cond.code yX7_isMaze cX7_isMaze 1 (some .boolean), Cond.fieldLink RX7 31 "HedgeMazeModel" "lines" "[I"] ++ wsX70), w ∈ wz_law from List.forall_mem_append.mpr ⟨List.forall_mem_cons.mpr ⟨wzw_333, List.forall_mem_cons.mpr ⟨wzw_334, List.forall_mem_cons.mpr ⟨wzw_335, List.forall_mem_cons.mpr ⟨wzw_8, List.forall_mem_cons.mpr ⟨wzw_336, List.forall_mem_cons.mpr ⟨wzw_25, List.forall_mem_cons.mpr ⟨wzw_197, List.forall_mem_cons.mpr ⟨wzw_198, List.forall_mem_cons.mpr ⟨wzw_199, List.forall_mem_cons.mpr ⟨wzw_8, List.forall_mem_cons.mpr ⟨wzw_200, List.forall_mem_cons.mpr ⟨wzw_126, (fun _ h => absurd h List.not_mem_nil)⟩⟩⟩⟩⟩⟩⟩⟩⟩⟩⟩⟩, in_law_X7⟩) (by decide +kernel)
set_option maxRecDepth 20000 in
theorem g_law_X6_may : GoodIn wz_law (wsV RL 94 RX6 yX6_may wz_X6_may) := goodIn_sub (show ∀ w ∈ ((([Cond.methodLink RL 94 yX6_may, Cond.instanceMethod yX6_may, Cond.selects RX6 yX6_may yX6_may, Cond.initialized RX6, Cond.code yX6_may cX6_may 3 (some .int), Cond.methodLink RX6 107 yX6_isSide, Cond.instanceMethod yX6_isSide, Cond.selects RX6 yX6_isSide yX6_isSide, Cond.initialized RX6, Cond.code yX6_isSide cX6_isSide 3 (some .boolean), Cond.fieldLink RX6 33 "HedgeMaze" "garden" "LHedgeMaze$Garden;", Cond.fieldLink RX6 90 "HedgeMaze$Garden" "plan" "LHedgeMaze$Plan;", Cond.fieldLink RX6 94 "HedgeMaze$Plan" "sideCount" "I"] ++ wsX60) ++ wsX00) ++ wsX30), w ∈ wz_law from List.forall_mem_append.mpr ⟨List.forall_mem_append.mpr ⟨List.forall_mem_append.mpr ⟨List.forall_mem_cons.mpr ⟨wzw_337, List.forall_mem_cons.mpr ⟨wzw_338, List.forall_mem_cons.mpr ⟨wzw_339, List.forall_mem_cons.mpr ⟨wzw_3, List.forall_mem_cons.mpr ⟨wzw_340, List.forall_mem_cons.mpr ⟨wzw_227, List.forall_mem_cons.mpr ⟨wzw_228, List.forall_mem_cons.mpr ⟨wzw_229, List.forall_mem_cons.mpr ⟨wzw_3, List.forall_mem_cons.mpr ⟨wzw_230, List.forall_mem_cons.mpr ⟨wzw_52, List.forall_mem_cons.mpr ⟨wzw_209, List.forall_mem_cons.mpr ⟨wzw_231, (fun _ h => absurd h List.not_mem_nil)⟩⟩⟩⟩⟩⟩⟩⟩⟩⟩⟩⟩⟩, in_law_X6⟩, in_law_X0⟩, in_law_X3⟩) (by decide +kernel)
set_option maxRecDepth 20000 in
theorem g_law_X7_may : GoodIn wz_law (wsV RL 97 RX7 yX7_may wz_X7_may) := goodIn_sub (show ∀ w ∈ ([Cond.methodLink RL 97 yX7_may, Cond.instanceMethod yX7_may, Cond.selects RX7 yX7_may yX7_may, Cond.initialized RX7, Cond.code yX7_may cX7_may 3 (some .int), Cond.fieldLink RX7 80 "HedgeMazeModel" "thrown" "I", Cond.methodLink RX7 282 yX7_isSide, Cond.instanceMethod yX7_isSide, Cond.selects RX7 yX7_isSide yX7_isSide, Cond.initialized RX7, Cond.code yX7_isSide cX7_isSide 3 (some .boolean), Cond.methodLink RX7 263 yX7_isMaze, Cond.instanceMethod yX7_isMaze, Cond.selects RX7 yX7_isMaze yX7_isMaze, Cond.code yX7_isMaze cX7_isMaze 1 (some .boolean), Cond.fieldLink RX7 31 "HedgeMazeModel" "lines" "[I"] ++ wsX70), w ∈ wz_law from List.forall_mem_append.mpr ⟨List.forall_mem_cons.mpr ⟨wzw_341, List.forall_mem_cons.mpr ⟨wzw_342, List.forall_mem_cons.mpr ⟨wzw_343, List.forall_mem_cons.mpr ⟨wzw_8, List.forall_mem_cons.mpr ⟨wzw_344, List.forall_mem_cons.mpr ⟨wzw_25, List.forall_mem_cons.mpr ⟨wzw_236, List.forall_mem_cons.mpr ⟨wzw_237, List.forall_mem_cons.mpr ⟨wzw_238, List.forall_mem_cons.mpr ⟨wzw_8, List.forall_mem_cons.mpr ⟨wzw_239, List.forall_mem_cons.mpr ⟨wzw_197, List.forall_mem_cons.mpr ⟨wzw_198, List.forall_mem_cons.mpr ⟨wzw_199, List.forall_mem_cons.mpr ⟨wzw_200, List.forall_mem_cons.mpr ⟨wzw_126, (fun _ h => absurd h List.not_mem_nil)⟩⟩⟩⟩⟩⟩⟩⟩⟩⟩⟩⟩⟩⟩⟩⟩, in_law_X7⟩) (by decide +kernel)
set_option maxRecDepth 20000 in
theorem g_law_X6_nights : GoodIn wz_law (wsV RL 98 RX6 yX6_nights wz_X6_nights) := goodIn_sub (show ∀ w ∈ (([Cond.methodLink RL 98 yX6_nights, Cond.instanceMethod yX6_nights, Cond.selects RX6 yX6_nights yX6_nights, Cond.initialized RX6, Cond.code yX6_nights cX6_nights 8 (some .int), Cond.methodLink RX6 211 yX6_isSlot, Cond.static yX6_isSlot, Cond.initialized RX6, Cond.code yX6_isSlot cX6_isSlot 1 (some .boolean), Cond.methodLink RX6 86 yX6_hasMaze, Cond.instanceMethod yX6_hasMaze, Cond.selects RX6 yX6_hasMaze yX6_hasMaze, Cond.code yX6_hasMaze cX6_hasMaze 1 (some .boolean), Cond.fieldLink RX6 33 "HedgeMaze" "garden" "LHedgeMaze$Garden;", Cond.fieldLink RX6 83 "HedgeMaze$Garden" "lines" "I"] ++ wsX60) ++ wsX00), w ∈ wz_law from List.forall_mem_append.mpr ⟨List.forall_mem_append.mpr ⟨List.forall_mem_cons.mpr ⟨wzw_345, List.forall_mem_cons.mpr ⟨wzw_346, List.forall_mem_cons.mpr ⟨wzw_347, List.forall_mem_cons.mpr ⟨wzw_3, List.forall_mem_cons.mpr ⟨wzw_348, List.forall_mem_cons.mpr ⟨wzw_349, List.forall_mem_cons.mpr ⟨wzw_350, List.forall_mem_cons.mpr ⟨wzw_3, List.forall_mem_cons.mpr ⟨wzw_351, List.forall_mem_cons.mpr ⟨wzw_189, List.forall_mem_cons.mpr ⟨wzw_190, List.forall_mem_cons.mpr ⟨wzw_191, List.forall_mem_cons.mpr ⟨wzw_192, List.forall_mem_cons.mpr ⟨wzw_52, List.forall_mem_cons.mpr ⟨wzw_54, (fun _ h => absurd h List.not_mem_nil)⟩⟩⟩⟩⟩⟩⟩⟩⟩⟩⟩⟩⟩⟩⟩, in_law_X6⟩, in_law_X0⟩) (by decide +kernel)
set_option maxRecDepth 20000 in
theorem g_law_X7_nights : GoodIn wz_law (wsV RL 101 RX7 yX7_nights wz_X7_nights) := goodIn_sub (show ∀ w ∈ ([Cond.methodLink RL 101 yX7_nights, Cond.instanceMethod yX7_nights, Cond.selects RX7 yX7_nights yX7_nights, Cond.initialized RX7, Cond.code yX7_nights cX7_nights 6 (some .int), Cond.fieldLink RX7 80 "HedgeMazeModel" "thrown" "I", Cond.methodLink RX7 331 yX7_whyNotSlot, Cond.instanceMethod yX7_whyNotSlot, Cond.selects RX7 yX7_whyNotSlot yX7_whyNotSlot, Cond.initialized RX7, Cond.code yX7_whyNotSlot cX7_whyNotSlot 2 (some .int), Cond.methodLink RX7 89 yX7_isSlot, Cond.static yX7_isSlot, Cond.code yX7_isSlot cX7_isSlot 1 (some .boolean), Cond.constantLong RX7 83 (3), Cond.methodLink RX7 85 yX7_in, Cond.static yX7_in, Cond.code yX7_in cX7_in 6 (some .boolean), Cond.methodLink RX7 263 yX7_isMaze, Cond.instanceMethod yX7_isMaze, Cond.selects RX7 yX7_isMaze yX7_isMaze, Cond.code yX7_isMaze cX7_isMaze 1 (some .boolean), Cond.fieldLink RX7 31 "HedgeMazeModel" "lines" "[I"] ++ wsX70), w ∈ wz_law from List.forall_mem_append.mpr ⟨List.forall_mem_cons.mpr ⟨wzw_352, List.forall_mem_cons.mpr ⟨wzw_353, List.forall_mem_cons.mpr ⟨wzw_354, List.forall_mem_cons.mpr ⟨wzw_8, List.forall_mem_cons.mpr ⟨wzw_355, List.forall_mem_cons.mpr ⟨wzw_25, List.forall_mem_cons.mpr ⟨wzw_356, List.forall_mem_cons.mpr ⟨wzw_357, List.forall_mem_cons.mpr ⟨wzw_358, List.forall_mem_cons.mpr ⟨wzw_8, List.forall_mem_cons.mpr ⟨wzw_359, List.forall_mem_cons.mpr ⟨wzw_360, List.forall_mem_cons.mpr ⟨wzw_361, List.forall_mem_cons.mpr ⟨wzw_362, List.forall_mem_cons.mpr ⟨wzw_363, List.forall_mem_cons.mpr ⟨wzw_40, List.forall_mem_cons.mpr ⟨wzw_41, List.forall_mem_cons.mpr ⟨wzw_42, List.forall_mem_cons.mpr ⟨wzw_197, List.forall_mem_cons.mpr ⟨wzw_198, List.forall_mem_cons.mpr ⟨wzw_199, List.forall_mem_cons.mpr ⟨wzw_200, List.forall_mem_cons.mpr ⟨wzw_126, (fun _ h => absurd h List.not_mem_nil)⟩⟩⟩⟩⟩⟩⟩⟩⟩⟩⟩⟩⟩⟩⟩⟩⟩⟩⟩⟩⟩⟩⟩, in_law_X7⟩) (by decide +kernel)
set_option maxRecDepth 20000 in
theorem g_law_X6_out : GoodIn wz_law (wsV RL 102 RX6 yX6_out wz_X6_out) := goodIn_sub (show ∀ w ∈ ((([Cond.methodLink RL 102 yX6_out, Cond.instanceMethod yX6_out, Cond.selects RX6 yX6_out yX6_out, Cond.initialized RX6, Cond.code yX6_out cX6_out 9 (some .int), Cond.methodLink RX6 211 yX6_isSlot, Cond.static yX6_isSlot, Cond.initialized RX6, Cond.code yX6_isSlot cX6_isSlot 1 (some .boolean), Cond.methodLink RX6 99 yX6_isCell, Cond.instanceMethod yX6_isCell, Cond.selects RX6 yX6_isCell yX6_isCell, Cond.code yX6_isCell cX6_isCell 2 (some .boolean), Cond.fieldLink RX6 33 "HedgeMaze" "garden" "LHedgeMaze$Garden;", Cond.fieldLink RX6 90 "HedgeMaze$Garden" "plan" "LHedgeMaze$Plan;", Cond.fieldLink RX6 169 "HedgeMaze$Plan" "cellCount" "I"] ++ wsX60) ++ wsX00) ++ wsX30), w ∈ wz_law from List.forall_mem_append.mpr ⟨List.forall_mem_append.mpr ⟨List.forall_mem_append.mpr ⟨List.forall_mem_cons.mpr ⟨wzw_364, List.forall_mem_cons.mpr ⟨wzw_365, List.forall_mem_cons.mpr ⟨wzw_366, List.forall_mem_cons.mpr ⟨wzw_3, List.forall_mem_cons.mpr ⟨wzw_367, List.forall_mem_cons.mpr ⟨wzw_349, List.forall_mem_cons.mpr ⟨wzw_350, List.forall_mem_cons.mpr ⟨wzw_3, List.forall_mem_cons.mpr ⟨wzw_351, List.forall_mem_cons.mpr ⟨wzw_205, List.forall_mem_cons.mpr ⟨wzw_206, List.forall_mem_cons.mpr ⟨wzw_207, List.forall_mem_cons.mpr ⟨wzw_208, List.forall_mem_cons.mpr ⟨wzw_52, List.forall_mem_cons.mpr ⟨wzw_209, List.forall_mem_cons.mpr ⟨wzw_210, (fun _ h => absurd h List.not_mem_nil)⟩⟩⟩⟩⟩⟩⟩⟩⟩⟩⟩⟩⟩⟩⟩⟩, in_law_X6⟩, in_law_X0⟩, in_law_X3⟩) (by decide +kernel)
set_option maxRecDepth 20000 in
theorem g_law_X7_out : GoodIn wz_law (wsV RL 105 RX7 yX7_out wz_X7_out) := goodIn_sub (show ∀ w ∈ ([Cond.methodLink RL 105 yX7_out, Cond.instanceMethod yX7_out, Cond.selects RX7 yX7_out yX7_out, Cond.initialized RX7, Cond.code yX7_out cX7_out 8 (some .int), Cond.fieldLink RX7 80 "HedgeMazeModel" "thrown" "I", Cond.methodLink RX7 89 yX7_isSlot, Cond.static yX7_isSlot, Cond.initialized RX7, Cond.code yX7_isSlot cX7_isSlot 1 (some .boolean), Cond.constantLong RX7 83 (3), Cond.methodLink RX7 85 yX7_in, Cond.static yX7_in, Cond.code yX7_in cX7_in 6 (some .boolean), Cond.methodLink RX7 276 yX7_isCell, Cond.instanceMethod yX7_isCell, Cond.selects RX7 yX7_isCell yX7_isCell, Cond.code yX7_isCell cX7_isCell 2 (some .boolean), Cond.methodLink RX7 260 yX7_cellMany, Cond.instanceMethod yX7_cellMany, Cond.selects RX7 yX7_cellMany yX7_cellMany, Cond.code yX7_cellMany cX7_cellMany 1 (some .int), Cond.fieldLink RX7 34 "HedgeMazeModel" "has" "[I"] ++ wsX70), w ∈ wz_law from List.forall_mem_append.mpr ⟨List.forall_mem_cons.mpr ⟨wzw_368, List.forall_mem_cons.mpr ⟨wzw_369, List.forall_mem_cons.mpr ⟨wzw_370, List.forall_mem_cons.mpr ⟨wzw_8, List.forall_mem_cons.mpr ⟨wzw_371, List.forall_mem_cons.mpr ⟨wzw_25, List.forall_mem_cons.mpr ⟨wzw_360, List.forall_mem_cons.mpr ⟨wzw_361, List.forall_mem_cons.mpr ⟨wzw_8, List.forall_mem_cons.mpr ⟨wzw_362, List.forall_mem_cons.mpr ⟨wzw_363, List.forall_mem_cons.mpr ⟨wzw_40, List.forall_mem_cons.mpr ⟨wzw_41, List.forall_mem_cons.mpr ⟨wzw_42, List.forall_mem_cons.mpr ⟨wzw_215, List.forall_mem_cons.mpr ⟨wzw_216, List.forall_mem_cons.mpr ⟨wzw_217, List.forall_mem_cons.mpr ⟨wzw_218, List.forall_mem_cons.mpr ⟨wzw_219, List.forall_mem_cons.mpr ⟨wzw_220, List.forall_mem_cons.mpr ⟨wzw_221, List.forall_mem_cons.mpr ⟨wzw_222, List.forall_mem_cons.mpr ⟨wzw_132, (fun _ h => absurd h List.not_mem_nil)⟩⟩⟩⟩⟩⟩⟩⟩⟩⟩⟩⟩⟩⟩⟩⟩⟩⟩⟩⟩⟩⟩⟩, in_law_X7⟩) (by decide +kernel)
set_option maxRecDepth 20000 in
theorem g_law_X6_held : GoodIn wz_law (wsV RL 106 RX6 yX6_held wz_X6_held) := goodIn_sub (show ∀ w ∈ ((([Cond.methodLink RL 106 yX6_held, Cond.instanceMethod yX6_held, Cond.selects RX6 yX6_held yX6_held, Cond.initialized RX6, Cond.code yX6_held cX6_held 4 (some .int), Cond.methodLink RX6 99 yX6_isCell, Cond.instanceMethod yX6_isCell, Cond.selects RX6 yX6_isCell yX6_isCell, Cond.initialized RX6, Cond.code yX6_isCell cX6_isCell 2 (some .boolean), Cond.fieldLink RX6 33 "HedgeMaze" "garden" "LHedgeMaze$Garden;", Cond.fieldLink RX6 90 "HedgeMaze$Garden" "plan" "LHedgeMaze$Plan;", Cond.fieldLink RX6 169 "HedgeMaze$Plan" "cellCount" "I"] ++ wsX60) ++ wsX00) ++ wsX30), w ∈ wz_law from List.forall_mem_append.mpr ⟨List.forall_mem_append.mpr ⟨List.forall_mem_append.mpr ⟨List.forall_mem_cons.mpr ⟨wzw_372, List.forall_mem_cons.mpr ⟨wzw_373, List.forall_mem_cons.mpr ⟨wzw_374, List.forall_mem_cons.mpr ⟨wzw_3, List.forall_mem_cons.mpr ⟨wzw_375, List.forall_mem_cons.mpr ⟨wzw_205, List.forall_mem_cons.mpr ⟨wzw_206, List.forall_mem_cons.mpr ⟨wzw_207, List.forall_mem_cons.mpr ⟨wzw_3, List.forall_mem_cons.mpr ⟨wzw_208, List.forall_mem_cons.mpr ⟨wzw_52, List.forall_mem_cons.mpr ⟨wzw_209, List.forall_mem_cons.mpr ⟨wzw_210, (fun _ h => absurd h List.not_mem_nil)⟩⟩⟩⟩⟩⟩⟩⟩⟩⟩⟩⟩⟩, in_law_X6⟩, in_law_X0⟩, in_law_X3⟩) (by decide +kernel)
set_option maxRecDepth 20000 in
theorem g_law_X7_held : GoodIn wz_law (wsV RL 109 RX7 yX7_held wz_X7_held) := goodIn_sub (show ∀ w ∈ ([Cond.methodLink RL 109 yX7_held, Cond.instanceMethod yX7_held, Cond.selects RX7 yX7_held yX7_held, Cond.initialized RX7, Cond.code yX7_held cX7_held 4 (some .int), Cond.fieldLink RX7 80 "HedgeMazeModel" "thrown" "I", Cond.methodLink RX7 276 yX7_isCell, Cond.instanceMethod yX7_isCell, Cond.selects RX7 yX7_isCell yX7_isCell, Cond.initialized RX7, Cond.code yX7_isCell cX7_isCell 2 (some .boolean), Cond.methodLink RX7 260 yX7_cellMany, Cond.instanceMethod yX7_cellMany, Cond.selects RX7 yX7_cellMany yX7_cellMany, Cond.code yX7_cellMany cX7_cellMany 1 (some .int), Cond.fieldLink RX7 34 "HedgeMazeModel" "has" "[I", Cond.methodLink RX7 85 yX7_in, Cond.static yX7_in, Cond.code yX7_in cX7_in 6 (some .boolean)] ++ wsX70), w ∈ wz_law from List.forall_mem_append.mpr ⟨List.forall_mem_cons.mpr ⟨wzw_376, List.forall_mem_cons.mpr ⟨wzw_377, List.forall_mem_cons.mpr ⟨wzw_378, List.forall_mem_cons.mpr ⟨wzw_8, List.forall_mem_cons.mpr ⟨wzw_379, List.forall_mem_cons.mpr ⟨wzw_25, List.forall_mem_cons.mpr ⟨wzw_215, List.forall_mem_cons.mpr ⟨wzw_216, List.forall_mem_cons.mpr ⟨wzw_217, List.forall_mem_cons.mpr ⟨wzw_8, List.forall_mem_cons.mpr ⟨wzw_218, List.forall_mem_cons.mpr ⟨wzw_219, List.forall_mem_cons.mpr ⟨wzw_220, List.forall_mem_cons.mpr ⟨wzw_221, List.forall_mem_cons.mpr ⟨wzw_222, List.forall_mem_cons.mpr ⟨wzw_132, List.forall_mem_cons.mpr ⟨wzw_40, List.forall_mem_cons.mpr ⟨wzw_41, List.forall_mem_cons.mpr ⟨wzw_42, (fun _ h => absurd h List.not_mem_nil)⟩⟩⟩⟩⟩⟩⟩⟩⟩⟩⟩⟩⟩⟩⟩⟩⟩⟩⟩, in_law_X7⟩) (by decide +kernel)
set_option maxRecDepth 20000 in
theorem g_law_X6_hold : GoodIn wz_law (wsV RL 110 RX6 yX6_hold wz_X6_hold) := goodIn_sub (show ∀ w ∈ (([Cond.methodLink RL 110 yX6_hold, Cond.instanceMethod yX6_hold, Cond.selects RX6 yX6_hold yX6_hold, Cond.initialized RX6, Cond.code yX6_hold cX6_hold 3 (some .int), Cond.methodLink RX6 86 yX6_hasMaze, Cond.instanceMethod yX6_hasMaze, Cond.selects RX6 yX6_hasMaze yX6_hasMaze, Cond.initialized RX6, Cond.code yX6_hasMaze cX6_hasMaze 1 (some .boolean), Cond.fieldLink RX6 33 "HedgeMaze" "garden" "LHedgeMaze$Garden;", Cond.fieldLink RX6 83 "HedgeMaze$Garden" "lines" "I"] ++ wsX60) ++ wsX00), w ∈ wz_law from List.forall_mem_append.mpr ⟨List.forall_mem_append.mpr ⟨List.forall_mem_cons.mpr ⟨wzw_380, List.forall_mem_cons.mpr ⟨wzw_381, List.forall_mem_cons.mpr ⟨wzw_382, List.forall_mem_cons.mpr ⟨wzw_3, List.forall_mem_cons.mpr ⟨wzw_383, List.forall_mem_cons.mpr ⟨wzw_189, List.forall_mem_cons.mpr ⟨wzw_190, List.forall_mem_cons.mpr ⟨wzw_191, List.forall_mem_cons.mpr ⟨wzw_3, List.forall_mem_cons.mpr ⟨wzw_192, List.forall_mem_cons.mpr ⟨wzw_52, List.forall_mem_cons.mpr ⟨wzw_54, (fun _ h => absurd h List.not_mem_nil)⟩⟩⟩⟩⟩⟩⟩⟩⟩⟩⟩⟩, in_law_X6⟩, in_law_X0⟩) (by decide +kernel)
set_option maxRecDepth 20000 in
theorem g_law_X7_hold : GoodIn wz_law (wsV RL 113 RX7 yX7_hold wz_X7_hold) := goodIn_sub (show ∀ w ∈ ([Cond.methodLink RL 113 yX7_hold, Cond.instanceMethod yX7_hold, Cond.selects RX7 yX7_hold yX7_hold, Cond.initialized RX7, Cond.code yX7_hold cX7_hold 5 (some .int), Cond.fieldLink RX7 80 "HedgeMazeModel" "thrown" "I", Cond.methodLink RX7 365 yX7_isHold, Cond.instanceMethod yX7_isHold, Cond.selects RX7 yX7_isHold yX7_isHold, Cond.initialized RX7, Cond.code yX7_isHold cX7_isHold 3 (some .boolean), Cond.methodLink RX7 263 yX7_isMaze, Cond.instanceMethod yX7_isMaze, Cond.selects RX7 yX7_isMaze yX7_isMaze, Cond.code yX7_isMaze cX7_isMaze 1 (some .boolean), Cond.fieldLink RX7 31 "HedgeMazeModel" "lines" "[I"] ++ wsX70), w ∈ wz_law from List.forall_mem_append.mpr ⟨List.forall_mem_cons.mpr ⟨wzw_384, List.forall_mem_cons.mpr ⟨wzw_385, List.forall_mem_cons.mpr ⟨wzw_386, List.forall_mem_cons.mpr ⟨wzw_8, List.forall_mem_cons.mpr ⟨wzw_387, List.forall_mem_cons.mpr ⟨wzw_25, List.forall_mem_cons.mpr ⟨wzw_388, List.forall_mem_cons.mpr ⟨wzw_389, List.forall_mem_cons.mpr ⟨wzw_390, List.forall_mem_cons.mpr ⟨wzw_8, List.forall_mem_cons.mpr ⟨wzw_391, List.forall_mem_cons.mpr ⟨wzw_197, List.forall_mem_cons.mpr ⟨wzw_198, List.forall_mem_cons.mpr ⟨wzw_199, List.forall_mem_cons.mpr ⟨wzw_200, List.forall_mem_cons.mpr ⟨wzw_126, (fun _ h => absurd h List.not_mem_nil)⟩⟩⟩⟩⟩⟩⟩⟩⟩⟩⟩⟩⟩⟩⟩⟩, in_law_X7⟩) (by decide +kernel)
set_option maxRecDepth 20000 in
theorem g_law_X6_worst : GoodIn wz_law (wsV RL 114 RX6 yX6_worst wz_X6_worst) := goodIn_sub (show ∀ w ∈ ((([Cond.methodLink RL 114 yX6_worst, Cond.instanceMethod yX6_worst, Cond.selects RX6 yX6_worst yX6_worst, Cond.initialized RX6, Cond.code yX6_worst cX6_worst 8 (some .int), Cond.methodLink RX6 99 yX6_isCell, Cond.instanceMethod yX6_isCell, Cond.selects RX6 yX6_isCell yX6_isCell, Cond.initialized RX6, Cond.code yX6_isCell cX6_isCell 2 (some .boolean), Cond.fieldLink RX6 33 "HedgeMaze" "garden" "LHedgeMaze$Garden;", Cond.fieldLink RX6 90 "HedgeMaze$Garden" "plan" "LHedgeMaze$Plan;", Cond.fieldLink RX6 169 "HedgeMaze$Plan" "cellCount" "I"] ++ wsX60) ++ wsX00) ++ wsX30), w ∈ wz_law from List.forall_mem_append.mpr ⟨List.forall_mem_append.mpr ⟨List.forall_mem_append.mpr ⟨List.forall_mem_cons.mpr ⟨wzw_392, List.forall_mem_cons.mpr ⟨wzw_393, List.forall_mem_cons.mpr ⟨wzw_394, List.forall_mem_cons.mpr ⟨wzw_3, List.forall_mem_cons.mpr ⟨wzw_395, List.forall_mem_cons.mpr ⟨wzw_205, List.forall_mem_cons.mpr ⟨wzw_206, List.forall_mem_cons.mpr ⟨wzw_207, List.forall_mem_cons.mpr ⟨wzw_3, List.forall_mem_cons.mpr ⟨wzw_208, List.forall_mem_cons.mpr ⟨wzw_52, List.forall_mem_cons.mpr ⟨wzw_209, List.forall_mem_cons.mpr ⟨wzw_210, (fun _ h => absurd h List.not_mem_nil)⟩⟩⟩⟩⟩⟩⟩⟩⟩⟩⟩⟩⟩, in_law_X6⟩, in_law_X0⟩, in_law_X3⟩) (by decide +kernel)
set_option maxRecDepth 20000 in
theorem g_law_X7_worst : GoodIn wz_law (wsV RL 117 RX7 yX7_worst wz_X7_worst) := goodIn_sub (show ∀ w ∈ ([Cond.methodLink RL 117 yX7_worst, Cond.instanceMethod yX7_worst, Cond.selects RX7 yX7_worst yX7_worst, Cond.initialized RX7, Cond.code yX7_worst cX7_worst 7 (some .int), Cond.fieldLink RX7 80 "HedgeMazeModel" "thrown" "I", Cond.methodLink RX7 276 yX7_isCell, Cond.instanceMethod yX7_isCell, Cond.selects RX7 yX7_isCell yX7_isCell, Cond.initialized RX7, Cond.code yX7_isCell cX7_isCell 2 (some .boolean), Cond.methodLink RX7 260 yX7_cellMany, Cond.instanceMethod yX7_cellMany, Cond.selects RX7 yX7_cellMany yX7_cellMany, Cond.code yX7_cellMany cX7_cellMany 1 (some .int), Cond.fieldLink RX7 34 "HedgeMazeModel" "has" "[I", Cond.methodLink RX7 85 yX7_in, Cond.static yX7_in, Cond.code yX7_in cX7_in 6 (some .boolean)] ++ wsX70), w ∈ wz_law from List.forall_mem_append.mpr ⟨List.forall_mem_cons.mpr ⟨wzw_396, List.forall_mem_cons.mpr ⟨wzw_397, List.forall_mem_cons.mpr ⟨wzw_398, List.forall_mem_cons.mpr ⟨wzw_8, List.forall_mem_cons.mpr ⟨wzw_399, List.forall_mem_cons.mpr ⟨wzw_25, List.forall_mem_cons.mpr ⟨wzw_215, List.forall_mem_cons.mpr ⟨wzw_216, List.forall_mem_cons.mpr ⟨wzw_217, List.forall_mem_cons.mpr ⟨wzw_8, List.forall_mem_cons.mpr ⟨wzw_218, List.forall_mem_cons.mpr ⟨wzw_219, List.forall_mem_cons.mpr ⟨wzw_220, List.forall_mem_cons.mpr ⟨wzw_221, List.forall_mem_cons.mpr ⟨wzw_222, List.forall_mem_cons.mpr ⟨wzw_132, List.forall_mem_cons.mpr ⟨wzw_40, List.forall_mem_cons.mpr ⟨wzw_41, List.forall_mem_cons.mpr ⟨wzw_42, (fun _ h => absurd h List.not_mem_nil)⟩⟩⟩⟩⟩⟩⟩⟩⟩⟩⟩⟩⟩⟩⟩⟩⟩⟩⟩, in_law_X7⟩) (by decide +kernel)
set_option maxRecDepth 20000 in
theorem g_law_X6_guest : GoodIn wz_law (wsV RL 118 RX6 yX6_guest wz_X6_guest) := goodIn_sub (show ∀ w ∈ (([Cond.methodLink RL 118 yX6_guest, Cond.instanceMethod yX6_guest, Cond.selects RX6 yX6_guest yX6_guest, Cond.initialized RX6, Cond.code yX6_guest cX6_guest 2 (some .int), Cond.methodLink RX6 252 yX6_isGuest, Cond.instanceMethod yX6_isGuest, Cond.selects RX6 yX6_isGuest yX6_isGuest, Cond.initialized RX6, Cond.code yX6_isGuest cX6_isGuest 2 (some .boolean), Cond.fieldLink RX6 33 "HedgeMaze" "garden" "LHedgeMaze$Garden;", Cond.fieldLink RX6 258 "HedgeMaze$Garden" "guestCount" "I"] ++ wsX60) ++ wsX00), w ∈ wz_law from List.forall_mem_append.mpr ⟨List.forall_mem_append.mpr ⟨List.forall_mem_cons.mpr ⟨wzw_400, List.forall_mem_cons.mpr ⟨wzw_401, List.forall_mem_cons.mpr ⟨wzw_402, List.forall_mem_cons.mpr ⟨wzw_3, List.forall_mem_cons.mpr ⟨wzw_403, List.forall_mem_cons.mpr ⟨wzw_404, List.forall_mem_cons.mpr ⟨wzw_405, List.forall_mem_cons.mpr ⟨wzw_406, List.forall_mem_cons.mpr ⟨wzw_3, List.forall_mem_cons.mpr ⟨wzw_407, List.forall_mem_cons.mpr ⟨wzw_52, List.forall_mem_cons.mpr ⟨wzw_408, (fun _ h => absurd h List.not_mem_nil)⟩⟩⟩⟩⟩⟩⟩⟩⟩⟩⟩⟩, in_law_X6⟩, in_law_X0⟩) (by decide +kernel)
set_option maxRecDepth 20000 in
theorem g_law_X7_guest : GoodIn wz_law (wsV RL 121 RX7 yX7_guest wz_X7_guest) := goodIn_sub (show ∀ w ∈ ([Cond.methodLink RL 121 yX7_guest, Cond.instanceMethod yX7_guest, Cond.selects RX7 yX7_guest yX7_guest, Cond.initialized RX7, Cond.code yX7_guest cX7_guest 2 (some .int), Cond.fieldLink RX7 80 "HedgeMazeModel" "thrown" "I", Cond.fieldLink RX7 34 "HedgeMazeModel" "has" "[I", Cond.methodLink RX7 85 yX7_in, Cond.static yX7_in, Cond.initialized RX7, Cond.code yX7_in cX7_in 6 (some .boolean)] ++ wsX70), w ∈ wz_law from List.forall_mem_append.mpr ⟨List.forall_mem_cons.mpr ⟨wzw_409, List.forall_mem_cons.mpr ⟨wzw_410, List.forall_mem_cons.mpr ⟨wzw_411, List.forall_mem_cons.mpr ⟨wzw_8, List.forall_mem_cons.mpr ⟨wzw_412, List.forall_mem_cons.mpr ⟨wzw_25, List.forall_mem_cons.mpr ⟨wzw_132, List.forall_mem_cons.mpr ⟨wzw_40, List.forall_mem_cons.mpr ⟨wzw_41, List.forall_mem_cons.mpr ⟨wzw_8, List.forall_mem_cons.mpr ⟨wzw_42, (fun _ h => absurd h List.not_mem_nil)⟩⟩⟩⟩⟩⟩⟩⟩⟩⟩⟩, in_law_X7⟩) (by decide +kernel)
set_option maxRecDepth 20000 in
theorem g_law_X6_meet : GoodIn wz_law (wsV RL 122 RX6 yX6_meet wz_X6_meet) := goodIn_sub (show ∀ w ∈ (([Cond.methodLink RL 122 yX6_meet, Cond.instanceMethod yX6_meet, Cond.selects RX6 yX6_meet yX6_meet, Cond.initialized RX6, Cond.code yX6_meet cX6_meet 3 (some .int), Cond.methodLink RX6 86 yX6_hasMaze, Cond.instanceMethod yX6_hasMaze, Cond.selects RX6 yX6_hasMaze yX6_hasMaze, Cond.initialized RX6, Cond.code yX6_hasMaze cX6_hasMaze 1 (some .boolean), Cond.fieldLink RX6 33 "HedgeMaze" "garden" "LHedgeMaze$Garden;", Cond.fieldLink RX6 83 "HedgeMaze$Garden" "lines" "I"] ++ wsX60) ++ wsX00), w ∈ wz_law from List.forall_mem_append.mpr ⟨List.forall_mem_append.mpr ⟨List.forall_mem_cons.mpr ⟨wzw_413, List.forall_mem_cons.mpr ⟨wzw_414, List.forall_mem_cons.mpr ⟨wzw_415, List.forall_mem_cons.mpr ⟨wzw_3, List.forall_mem_cons.mpr ⟨wzw_416, List.forall_mem_cons.mpr ⟨wzw_189, List.forall_mem_cons.mpr ⟨wzw_190, List.forall_mem_cons.mpr ⟨wzw_191, List.forall_mem_cons.mpr ⟨wzw_3, List.forall_mem_cons.mpr ⟨wzw_192, List.forall_mem_cons.mpr ⟨wzw_52, List.forall_mem_cons.mpr ⟨wzw_54, (fun _ h => absurd h List.not_mem_nil)⟩⟩⟩⟩⟩⟩⟩⟩⟩⟩⟩⟩, in_law_X6⟩, in_law_X0⟩) (by decide +kernel)
set_option maxRecDepth 20000 in
theorem g_law_X7_meet : GoodIn wz_law (wsV RL 125 RX7 yX7_meet wz_X7_meet) := goodIn_sub (show ∀ w ∈ ([Cond.methodLink RL 125 yX7_meet, Cond.instanceMethod yX7_meet, Cond.selects RX7 yX7_meet yX7_meet, Cond.initialized RX7, Cond.code yX7_meet cX7_meet 9 (some .int), Cond.fieldLink RX7 80 "HedgeMazeModel" "thrown" "I", Cond.methodLink RX7 263 yX7_isMaze, Cond.instanceMethod yX7_isMaze, Cond.selects RX7 yX7_isMaze yX7_isMaze, Cond.initialized RX7, Cond.code yX7_isMaze cX7_isMaze 1 (some .boolean), Cond.fieldLink RX7 31 "HedgeMazeModel" "lines" "[I"] ++ wsX70), w ∈ wz_law from List.forall_mem_append.mpr ⟨List.forall_mem_cons.mpr ⟨wzw_417, List.forall_mem_cons.mpr ⟨wzw_418, List.forall_mem_cons.mpr ⟨wzw_419, List.forall_mem_cons.mpr ⟨wzw_8, List.forall_mem_cons.mpr ⟨wzw_420, List.forall_mem_cons.mpr ⟨wzw_25, List.forall_mem_cons.mpr ⟨wzw_197, List.forall_mem_cons.mpr ⟨wzw_198, List.forall_mem_cons.mpr ⟨wzw_199, List.forall_mem_cons.mpr ⟨wzw_8, List.forall_mem_cons.mpr ⟨wzw_200, List.forall_mem_cons.mpr ⟨wzw_126, (fun _ h => absurd h List.not_mem_nil)⟩⟩⟩⟩⟩⟩⟩⟩⟩⟩⟩⟩, in_law_X7⟩) (by decide +kernel)
set_option maxRecDepth 20000 in
theorem g_law_X6_tea : GoodIn wz_law (wsV RL 126 RX6 yX6_tea wz_X6_tea) := goodIn_sub (show ∀ w ∈ ((([Cond.methodLink RL 126 yX6_tea, Cond.instanceMethod yX6_tea, Cond.selects RX6 yX6_tea yX6_tea, Cond.initialized RX6, Cond.code yX6_tea cX6_tea 2 (some .int), Cond.methodLink RX6 99 yX6_isCell, Cond.instanceMethod yX6_isCell, Cond.selects RX6 yX6_isCell yX6_isCell, Cond.initialized RX6, Cond.code yX6_isCell cX6_isCell 2 (some .boolean), Cond.fieldLink RX6 33 "HedgeMaze" "garden" "LHedgeMaze$Garden;", Cond.fieldLink RX6 90 "HedgeMaze$Garden" "plan" "LHedgeMaze$Plan;", Cond.fieldLink RX6 169 "HedgeMaze$Plan" "cellCount" "I"] ++ wsX60) ++ wsX00) ++ wsX30), w ∈ wz_law from List.forall_mem_append.mpr ⟨List.forall_mem_append.mpr ⟨List.forall_mem_append.mpr ⟨List.forall_mem_cons.mpr ⟨wzw_421, List.forall_mem_cons.mpr ⟨wzw_422, List.forall_mem_cons.mpr ⟨wzw_423, List.forall_mem_cons.mpr ⟨wzw_3, List.forall_mem_cons.mpr ⟨wzw_424, List.forall_mem_cons.mpr ⟨wzw_205, List.forall_mem_cons.mpr ⟨wzw_206, List.forall_mem_cons.mpr ⟨wzw_207, List.forall_mem_cons.mpr ⟨wzw_3, List.forall_mem_cons.mpr ⟨wzw_208, List.forall_mem_cons.mpr ⟨wzw_52, List.forall_mem_cons.mpr ⟨wzw_209, List.forall_mem_cons.mpr ⟨wzw_210, (fun _ h => absurd h List.not_mem_nil)⟩⟩⟩⟩⟩⟩⟩⟩⟩⟩⟩⟩⟩, in_law_X6⟩, in_law_X0⟩, in_law_X3⟩) (by decide +kernel)
set_option maxRecDepth 20000 in
theorem g_law_X7_tea : GoodIn wz_law (wsV RL 129 RX7 yX7_tea wz_X7_tea) := goodIn_sub (show ∀ w ∈ ([Cond.methodLink RL 129 yX7_tea, Cond.instanceMethod yX7_tea, Cond.selects RX7 yX7_tea yX7_tea, Cond.initialized RX7, Cond.code yX7_tea cX7_tea 2 (some .int), Cond.fieldLink RX7 80 "HedgeMazeModel" "thrown" "I", Cond.methodLink RX7 276 yX7_isCell, Cond.instanceMethod yX7_isCell, Cond.selects RX7 yX7_isCell yX7_isCell, Cond.initialized RX7, Cond.code yX7_isCell cX7_isCell 2 (some .boolean), Cond.methodLink RX7 260 yX7_cellMany, Cond.instanceMethod yX7_cellMany, Cond.selects RX7 yX7_cellMany yX7_cellMany, Cond.code yX7_cellMany cX7_cellMany 1 (some .int), Cond.fieldLink RX7 34 "HedgeMazeModel" "has" "[I", Cond.methodLink RX7 85 yX7_in, Cond.static yX7_in, Cond.code yX7_in cX7_in 6 (some .boolean)] ++ wsX70), w ∈ wz_law from List.forall_mem_append.mpr ⟨List.forall_mem_cons.mpr ⟨wzw_425, List.forall_mem_cons.mpr ⟨wzw_426, List.forall_mem_cons.mpr ⟨wzw_427, List.forall_mem_cons.mpr ⟨wzw_8, List.forall_mem_cons.mpr ⟨wzw_428, List.forall_mem_cons.mpr ⟨wzw_25, List.forall_mem_cons.mpr ⟨wzw_215, List.forall_mem_cons.mpr ⟨wzw_216, List.forall_mem_cons.mpr ⟨wzw_217, List.forall_mem_cons.mpr ⟨wzw_8, List.forall_mem_cons.mpr ⟨wzw_218, List.forall_mem_cons.mpr ⟨wzw_219, List.forall_mem_cons.mpr ⟨wzw_220, List.forall_mem_cons.mpr ⟨wzw_221, List.forall_mem_cons.mpr ⟨wzw_222, List.forall_mem_cons.mpr ⟨wzw_132, List.forall_mem_cons.mpr ⟨wzw_40, List.forall_mem_cons.mpr ⟨wzw_41, List.forall_mem_cons.mpr ⟨wzw_42, (fun _ h => absurd h List.not_mem_nil)⟩⟩⟩⟩⟩⟩⟩⟩⟩⟩⟩⟩⟩⟩⟩⟩⟩⟩⟩, in_law_X7⟩) (by decide +kernel)
set_option maxRecDepth 20000 in
theorem g_law_X6_served : GoodIn wz_law (wsV RL 130 RX6 yX6_served wz_X6_served) := goodIn_sub (show ∀ w ∈ ((([Cond.methodLink RL 130 yX6_served, Cond.instanceMethod yX6_served, Cond.selects RX6 yX6_served yX6_served, Cond.initialized RX6, Cond.code yX6_served cX6_served 3 (some .int), Cond.methodLink RX6 99 yX6_isCell, Cond.instanceMethod yX6_isCell, Cond.selects RX6 yX6_isCell yX6_isCell, Cond.initialized RX6, Cond.code yX6_isCell cX6_isCell 2 (some .boolean), Cond.fieldLink RX6 33 "HedgeMaze" "garden" "LHedgeMaze$Garden;", Cond.fieldLink RX6 90 "HedgeMaze$Garden" "plan" "LHedgeMaze$Plan;", Cond.fieldLink RX6 169 "HedgeMaze$Plan" "cellCount" "I"] ++ wsX60) ++ wsX00) ++ wsX30), w ∈ wz_law from List.forall_mem_append.mpr ⟨List.forall_mem_append.mpr ⟨List.forall_mem_append.mpr ⟨List.forall_mem_cons.mpr ⟨wzw_429, List.forall_mem_cons.mpr ⟨wzw_430, List.forall_mem_cons.mpr ⟨wzw_431, List.forall_mem_cons.mpr ⟨wzw_3, List.forall_mem_cons.mpr ⟨wzw_432, List.forall_mem_cons.mpr ⟨wzw_205, List.forall_mem_cons.mpr ⟨wzw_206, List.forall_mem_cons.mpr ⟨wzw_207, List.forall_mem_cons.mpr ⟨wzw_3, List.forall_mem_cons.mpr ⟨wzw_208, List.forall_mem_cons.mpr ⟨wzw_52, List.forall_mem_cons.mpr ⟨wzw_209, List.forall_mem_cons.mpr ⟨wzw_210, (fun _ h => absurd h List.not_mem_nil)⟩⟩⟩⟩⟩⟩⟩⟩⟩⟩⟩⟩⟩, in_law_X6⟩, in_law_X0⟩, in_law_X3⟩) (by decide +kernel)
set_option maxRecDepth 20000 in
theorem g_law_X7_served : GoodIn wz_law (wsV RL 133 RX7 yX7_served wz_X7_served) := goodIn_sub (show ∀ w ∈ ([Cond.methodLink RL 133 yX7_served, Cond.instanceMethod yX7_served, Cond.selects RX7 yX7_served yX7_served, Cond.initialized RX7, Cond.code yX7_served cX7_served 3 (some .int), Cond.fieldLink RX7 80 "HedgeMazeModel" "thrown" "I", Cond.methodLink RX7 276 yX7_isCell, Cond.instanceMethod yX7_isCell, Cond.selects RX7 yX7_isCell yX7_isCell, Cond.initialized RX7, Cond.code yX7_isCell cX7_isCell 2 (some .boolean), Cond.methodLink RX7 260 yX7_cellMany, Cond.instanceMethod yX7_cellMany, Cond.selects RX7 yX7_cellMany yX7_cellMany, Cond.code yX7_cellMany cX7_cellMany 1 (some .int), Cond.fieldLink RX7 34 "HedgeMazeModel" "has" "[I", Cond.methodLink RX7 85 yX7_in, Cond.static yX7_in, Cond.code yX7_in cX7_in 6 (some .boolean)] ++ wsX70), w ∈ wz_law from List.forall_mem_append.mpr ⟨List.forall_mem_cons.mpr ⟨wzw_433, List.forall_mem_cons.mpr ⟨wzw_434, List.forall_mem_cons.mpr ⟨wzw_435, List.forall_mem_cons.mpr ⟨wzw_8, List.forall_mem_cons.mpr ⟨wzw_436, List.forall_mem_cons.mpr ⟨wzw_25, List.forall_mem_cons.mpr ⟨wzw_215, List.forall_mem_cons.mpr ⟨wzw_216, List.forall_mem_cons.mpr ⟨wzw_217, List.forall_mem_cons.mpr ⟨wzw_8, List.forall_mem_cons.mpr ⟨wzw_218, List.forall_mem_cons.mpr ⟨wzw_219, List.forall_mem_cons.mpr ⟨wzw_220, List.forall_mem_cons.mpr ⟨wzw_221, List.forall_mem_cons.mpr ⟨wzw_222, List.forall_mem_cons.mpr ⟨wzw_132, List.forall_mem_cons.mpr ⟨wzw_40, List.forall_mem_cons.mpr ⟨wzw_41, List.forall_mem_cons.mpr ⟨wzw_42, (fun _ h => absurd h List.not_mem_nil)⟩⟩⟩⟩⟩⟩⟩⟩⟩⟩⟩⟩⟩⟩⟩⟩⟩⟩⟩, in_law_X7⟩) (by decide +kernel)
set_option maxRecDepth 20000 in
theorem g_law_X6_letter : GoodIn wz_law (wsV RL 134 RX6 yX6_letter wz_X6_letter) := goodIn_sub (show ∀ w ∈ (([Cond.methodLink RL 134 yX6_letter, Cond.instanceMethod yX6_letter, Cond.selects RX6 yX6_letter yX6_letter, Cond.initialized RX6, Cond.code yX6_letter cX6_letter 6 (some .int), Cond.methodLink RX6 86 yX6_hasMaze, Cond.instanceMethod yX6_hasMaze, Cond.selects RX6 yX6_hasMaze yX6_hasMaze, Cond.initialized RX6, Cond.code yX6_hasMaze cX6_hasMaze 1 (some .boolean), Cond.fieldLink RX6 33 "HedgeMaze" "garden" "LHedgeMaze$Garden;", Cond.fieldLink RX6 83 "HedgeMaze$Garden" "lines" "I"] ++ wsX60) ++ wsX00), w ∈ wz_law from List.forall_mem_append.mpr ⟨List.forall_mem_append.mpr ⟨List.forall_mem_cons.mpr ⟨wzw_437, List.forall_mem_cons.mpr ⟨wzw_438, List.forall_mem_cons.mpr ⟨wzw_439, List.forall_mem_cons.mpr ⟨wzw_3, List.forall_mem_cons.mpr ⟨wzw_440, List.forall_mem_cons.mpr ⟨wzw_189, List.forall_mem_cons.mpr ⟨wzw_190, List.forall_mem_cons.mpr ⟨wzw_191, List.forall_mem_cons.mpr ⟨wzw_3, List.forall_mem_cons.mpr ⟨wzw_192, List.forall_mem_cons.mpr ⟨wzw_52, List.forall_mem_cons.mpr ⟨wzw_54, (fun _ h => absurd h List.not_mem_nil)⟩⟩⟩⟩⟩⟩⟩⟩⟩⟩⟩⟩, in_law_X6⟩, in_law_X0⟩) (by decide +kernel)
set_option maxRecDepth 20000 in
theorem g_law_X7_letter : GoodIn wz_law (wsV RL 137 RX7 yX7_letter wz_X7_letter) := goodIn_sub (show ∀ w ∈ ([Cond.methodLink RL 137 yX7_letter, Cond.instanceMethod yX7_letter, Cond.selects RX7 yX7_letter yX7_letter, Cond.initialized RX7, Cond.code yX7_letter cX7_letter 6 (some .int), Cond.fieldLink RX7 80 "HedgeMazeModel" "thrown" "I", Cond.methodLink RX7 263 yX7_isMaze, Cond.instanceMethod yX7_isMaze, Cond.selects RX7 yX7_isMaze yX7_isMaze, Cond.initialized RX7, Cond.code yX7_isMaze cX7_isMaze 1 (some .boolean), Cond.fieldLink RX7 31 "HedgeMazeModel" "lines" "[I"] ++ wsX70), w ∈ wz_law from List.forall_mem_append.mpr ⟨List.forall_mem_cons.mpr ⟨wzw_441, List.forall_mem_cons.mpr ⟨wzw_442, List.forall_mem_cons.mpr ⟨wzw_443, List.forall_mem_cons.mpr ⟨wzw_8, List.forall_mem_cons.mpr ⟨wzw_444, List.forall_mem_cons.mpr ⟨wzw_25, List.forall_mem_cons.mpr ⟨wzw_197, List.forall_mem_cons.mpr ⟨wzw_198, List.forall_mem_cons.mpr ⟨wzw_199, List.forall_mem_cons.mpr ⟨wzw_8, List.forall_mem_cons.mpr ⟨wzw_200, List.forall_mem_cons.mpr ⟨wzw_126, (fun _ h => absurd h List.not_mem_nil)⟩⟩⟩⟩⟩⟩⟩⟩⟩⟩⟩⟩, in_law_X7⟩) (by decide +kernel)
set_option maxRecDepth 20000 in
theorem g_law_X6_goes : GoodIn wz_law (wsV RL 138 RX6 yX6_goes wz_X6_goes) := goodIn_sub (show ∀ w ∈ (([Cond.methodLink RL 138 yX6_goes, Cond.instanceMethod yX6_goes, Cond.selects RX6 yX6_goes yX6_goes, Cond.initialized RX6, Cond.code yX6_goes cX6_goes 4 (some .int), Cond.methodLink RX6 252 yX6_isGuest, Cond.instanceMethod yX6_isGuest, Cond.selects RX6 yX6_isGuest yX6_isGuest, Cond.initialized RX6, Cond.code yX6_isGuest cX6_isGuest 2 (some .boolean), Cond.fieldLink RX6 33 "HedgeMaze" "garden" "LHedgeMaze$Garden;", Cond.fieldLink RX6 258 "HedgeMaze$Garden" "guestCount" "I"] ++ wsX60) ++ wsX00), w ∈ wz_law from List.forall_mem_append.mpr ⟨List.forall_mem_append.mpr ⟨List.forall_mem_cons.mpr ⟨wzw_445, List.forall_mem_cons.mpr ⟨wzw_446, List.forall_mem_cons.mpr ⟨wzw_447, List.forall_mem_cons.mpr ⟨wzw_3, List.forall_mem_cons.mpr ⟨wzw_448, List.forall_mem_cons.mpr ⟨wzw_404, List.forall_mem_cons.mpr ⟨wzw_405, List.forall_mem_cons.mpr ⟨wzw_406, List.forall_mem_cons.mpr ⟨wzw_3, List.forall_mem_cons.mpr ⟨wzw_407, List.forall_mem_cons.mpr ⟨wzw_52, List.forall_mem_cons.mpr ⟨wzw_408, (fun _ h => absurd h List.not_mem_nil)⟩⟩⟩⟩⟩⟩⟩⟩⟩⟩⟩⟩, in_law_X6⟩, in_law_X0⟩) (by decide +kernel)
set_option maxRecDepth 20000 in
theorem g_law_X7_goes : GoodIn wz_law (wsV RL 141 RX7 yX7_goes wz_X7_goes) := goodIn_sub (show ∀ w ∈ ([Cond.methodLink RL 141 yX7_goes, Cond.instanceMethod yX7_goes, Cond.selects RX7 yX7_goes yX7_goes, Cond.initialized RX7, Cond.code yX7_goes cX7_goes 4 (some .int), Cond.fieldLink RX7 80 "HedgeMazeModel" "thrown" "I", Cond.fieldLink RX7 34 "HedgeMazeModel" "has" "[I", Cond.methodLink RX7 85 yX7_in, Cond.static yX7_in, Cond.initialized RX7, Cond.code yX7_in cX7_in 6 (some .boolean)] ++ wsX70), w ∈ wz_law from List.forall_mem_append.mpr ⟨List.forall_mem_cons.mpr ⟨wzw_449, List.forall_mem_cons.mpr ⟨wzw_450, List.forall_mem_cons.mpr ⟨wzw_451, List.forall_mem_cons.mpr ⟨wzw_8, List.forall_mem_cons.mpr ⟨wzw_452, List.forall_mem_cons.mpr ⟨wzw_25, List.forall_mem_cons.mpr ⟨wzw_132, List.forall_mem_cons.mpr ⟨wzw_40, List.forall_mem_cons.mpr ⟨wzw_41, List.forall_mem_cons.mpr ⟨wzw_8, List.forall_mem_cons.mpr ⟨wzw_42, (fun _ h => absurd h List.not_mem_nil)⟩⟩⟩⟩⟩⟩⟩⟩⟩⟩⟩, in_law_X7⟩) (by decide +kernel)
set_option maxRecDepth 20000 in
theorem g_law_X6_walk : GoodIn wz_law (wsV RL 142 RX6 yX6_walk wz_X6_walk) := goodIn_sub (show ∀ w ∈ ((([Cond.methodLink RL 142 yX6_walk, Cond.instanceMethod yX6_walk, Cond.selects RX6 yX6_walk yX6_walk, Cond.initialized RX6, Cond.code yX6_walk cX6_walk 4 (some .int), Cond.methodLink RX6 293 yX6_refusalOfWalk, Cond.instanceMethod yX6_refusalOfWalk, Cond.selects RX6 yX6_refusalOfWalk yX6_refusalOfWalk, Cond.initialized RX6, Cond.code yX6_refusalOfWalk cX6_refusalOfWalk 5 (some .int), Cond.methodLink RX6 211 yX6_isSlot, Cond.static yX6_isSlot, Cond.code yX6_isSlot cX6_isSlot 1 (some .boolean), Cond.methodLink RX6 99 yX6_isCell, Cond.instanceMethod yX6_isCell, Cond.selects RX6 yX6_isCell yX6_isCell, Cond.code yX6_isCell cX6_isCell 2 (some .boolean), Cond.fieldLink RX6 33 "HedgeMaze" "garden" "LHedgeMaze$Garden;", Cond.fieldLink RX6 90 "HedgeMaze$Garden" "plan" "LHedgeMaze$Plan;", Cond.fieldLink RX6 169 "HedgeMaze$Plan" "cellCount" "I"] ++ wsX60) ++ wsX00) ++ wsX30), w ∈ wz_law from List.forall_mem_append.mpr ⟨List.forall_mem_append.mpr ⟨List.forall_mem_append.mpr ⟨List.forall_mem_cons.mpr ⟨wzw_453, List.forall_mem_cons.mpr ⟨wzw_454, List.forall_mem_cons.mpr ⟨wzw_455, List.forall_mem_cons.mpr ⟨wzw_3, List.forall_mem_cons.mpr ⟨wzw_456, List.forall_mem_cons.mpr ⟨wzw_457, List.forall_mem_cons.mpr ⟨wzw_458, List.forall_mem_cons.mpr ⟨wzw_459, List.forall_mem_cons.mpr ⟨wzw_3, List.forall_mem_cons.mpr ⟨wzw_460, List.forall_mem_cons.mpr ⟨wzw_349, List.forall_mem_cons.mpr ⟨wzw_350, List.forall_mem_cons.mpr ⟨wzw_351, List.forall_mem_cons.mpr ⟨wzw_205, List.forall_mem_cons.mpr ⟨wzw_206, List.forall_mem_cons.mpr ⟨wzw_207, List.forall_mem_cons.mpr ⟨wzw_208, List.forall_mem_cons.mpr ⟨wzw_52, List.forall_mem_cons.mpr ⟨wzw_209, List.forall_mem_cons.mpr ⟨wzw_210, (fun _ h => absurd h List.not_mem_nil)⟩⟩⟩⟩⟩⟩⟩⟩⟩⟩⟩⟩⟩⟩⟩⟩⟩⟩⟩⟩, in_law_X6⟩, in_law_X0⟩, in_law_X3⟩) (by decide +kernel)
set_option maxRecDepth 20000 in
theorem g_law_X7_walk : GoodIn wz_law (wsV RL 145 RX7 yX7_walk wz_X7_walk) := goodIn_sub (show ∀ w ∈ ([Cond.methodLink RL 145 yX7_walk, Cond.instanceMethod yX7_walk, Cond.selects RX7 yX7_walk yX7_walk, Cond.initialized RX7, Cond.code yX7_walk cX7_walk 4 (some .int), Cond.fieldLink RX7 80 "HedgeMazeModel" "thrown" "I", Cond.methodLink RX7 383 yX7_whyNotWalk, Cond.instanceMethod yX7_whyNotWalk, Cond.selects RX7 yX7_whyNotWalk yX7_whyNotWalk, Cond.initialized RX7, Cond.code yX7_whyNotWalk cX7_whyNotWalk 4 (some .int), Cond.methodLink RX7 89 yX7_isSlot, Cond.static yX7_isSlot, Cond.code yX7_isSlot cX7_isSlot 1 (some .boolean), Cond.constantLong RX7 83 (3), Cond.methodLink RX7 85 yX7_in, Cond.static yX7_in, Cond.code yX7_in cX7_in 6 (some .boolean), Cond.methodLink RX7 276 yX7_isCell, Cond.instanceMethod yX7_isCell, Cond.selects RX7 yX7_isCell yX7_isCell, Cond.code yX7_isCell cX7_isCell 2 (some .boolean), Cond.methodLink RX7 260 yX7_cellMany, Cond.instanceMethod yX7_cellMany, Cond.selects RX7 yX7_cellMany yX7_cellMany, Cond.code yX7_cellMany cX7_cellMany 1 (some .int), Cond.fieldLink RX7 34 "HedgeMazeModel" "has" "[I"] ++ wsX70), w ∈ wz_law from List.forall_mem_append.mpr ⟨List.forall_mem_cons.mpr ⟨wzw_461, List.forall_mem_cons.mpr ⟨wzw_462, List.forall_mem_cons.mpr ⟨wzw_463, List.forall_mem_cons.mpr ⟨wzw_8, List.forall_mem_cons.mpr ⟨wzw_464, List.forall_mem_cons.mpr ⟨wzw_25, List.forall_mem_cons.mpr ⟨wzw_465, List.forall_mem_cons.mpr ⟨wzw_466, List.forall_mem_cons.mpr ⟨wzw_467, List.forall_mem_cons.mpr ⟨wzw_8, List.forall_mem_cons.mpr ⟨wzw_468, List.forall_mem_cons.mpr ⟨wzw_360, List.forall_mem_cons.mpr ⟨wzw_361, List.forall_mem_cons.mpr ⟨wzw_362, List.forall_mem_cons.mpr ⟨wzw_363, List.forall_mem_cons.mpr ⟨wzw_40, List.forall_mem_cons.mpr ⟨wzw_41, List.forall_mem_cons.mpr ⟨wzw_42, List.forall_mem_cons.mpr ⟨wzw_215, List.forall_mem_cons.mpr ⟨wzw_216, List.forall_mem_cons.mpr ⟨wzw_217, List.forall_mem_cons.mpr ⟨wzw_218, List.forall_mem_cons.mpr ⟨wzw_219, List.forall_mem_cons.mpr ⟨wzw_220, List.forall_mem_cons.mpr ⟨wzw_221, List.forall_mem_cons.mpr ⟨wzw_222, List.forall_mem_cons.mpr ⟨wzw_132, (fun _ h => absurd h List.not_mem_nil)⟩⟩⟩⟩⟩⟩⟩⟩⟩⟩⟩⟩⟩⟩⟩⟩⟩⟩⟩⟩⟩⟩⟩⟩⟩⟩⟩, in_law_X7⟩) (by decide +kernel)
set_option maxRecDepth 20000 in
theorem g_law_X6_ends : GoodIn wz_law (wsV RL 146 RX6 yX6_ends wz_X6_ends) := goodIn_sub (show ∀ w ∈ ((([Cond.methodLink RL 146 yX6_ends, Cond.instanceMethod yX6_ends, Cond.selects RX6 yX6_ends yX6_ends, Cond.initialized RX6, Cond.code yX6_ends cX6_ends 4 (some .int), Cond.methodLink RX6 293 yX6_refusalOfWalk, Cond.instanceMethod yX6_refusalOfWalk, Cond.selects RX6 yX6_refusalOfWalk yX6_refusalOfWalk, Cond.initialized RX6, Cond.code yX6_refusalOfWalk cX6_refusalOfWalk 5 (some .int), Cond.methodLink RX6 211 yX6_isSlot, Cond.static yX6_isSlot, Cond.code yX6_isSlot cX6_isSlot 1 (some .boolean), Cond.methodLink RX6 99 yX6_isCell, Cond.instanceMethod yX6_isCell, Cond.selects RX6 yX6_isCell yX6_isCell, Cond.code yX6_isCell cX6_isCell 2 (some .boolean), Cond.fieldLink RX6 33 "HedgeMaze" "garden" "LHedgeMaze$Garden;", Cond.fieldLink RX6 90 "HedgeMaze$Garden" "plan" "LHedgeMaze$Plan;", Cond.fieldLink RX6 169 "HedgeMaze$Plan" "cellCount" "I"] ++ wsX60) ++ wsX00) ++ wsX30), w ∈ wz_law from List.forall_mem_append.mpr ⟨List.forall_mem_append.mpr ⟨List.forall_mem_append.mpr ⟨List.forall_mem_cons.mpr ⟨wzw_469, List.forall_mem_cons.mpr ⟨wzw_470, List.forall_mem_cons.mpr ⟨wzw_471, List.forall_mem_cons.mpr ⟨wzw_3, List.forall_mem_cons.mpr ⟨wzw_472, List.forall_mem_cons.mpr ⟨wzw_457, List.forall_mem_cons.mpr ⟨wzw_458, List.forall_mem_cons.mpr ⟨wzw_459, List.forall_mem_cons.mpr ⟨wzw_3, List.forall_mem_cons.mpr ⟨wzw_460, List.forall_mem_cons.mpr ⟨wzw_349, List.forall_mem_cons.mpr ⟨wzw_350, List.forall_mem_cons.mpr ⟨wzw_351, List.forall_mem_cons.mpr ⟨wzw_205, List.forall_mem_cons.mpr ⟨wzw_206, List.forall_mem_cons.mpr ⟨wzw_207, List.forall_mem_cons.mpr ⟨wzw_208, List.forall_mem_cons.mpr ⟨wzw_52, List.forall_mem_cons.mpr ⟨wzw_209, List.forall_mem_cons.mpr ⟨wzw_210, (fun _ h => absurd h List.not_mem_nil)⟩⟩⟩⟩⟩⟩⟩⟩⟩⟩⟩⟩⟩⟩⟩⟩⟩⟩⟩⟩, in_law_X6⟩, in_law_X0⟩, in_law_X3⟩) (by decide +kernel)
set_option maxRecDepth 20000 in
theorem g_law_X7_ends_ : GoodIn wz_law (wsV RL 149 RX7 yX7_ends_ wz_X7_ends_) := goodIn_sub (show ∀ w ∈ ([Cond.methodLink RL 149 yX7_ends_, Cond.instanceMethod yX7_ends_, Cond.selects RX7 yX7_ends_ yX7_ends_, Cond.initialized RX7, Cond.code yX7_ends_ cX7_ends_ 4 (some .int), Cond.fieldLink RX7 80 "HedgeMazeModel" "thrown" "I", Cond.methodLink RX7 383 yX7_whyNotWalk, Cond.instanceMethod yX7_whyNotWalk, Cond.selects RX7 yX7_whyNotWalk yX7_whyNotWalk, Cond.initialized RX7, Cond.code yX7_whyNotWalk cX7_whyNotWalk 4 (some .int), Cond.methodLink RX7 89 yX7_isSlot, Cond.static yX7_isSlot, Cond.code yX7_isSlot cX7_isSlot 1 (some .boolean), Cond.constantLong RX7 83 (3), Cond.methodLink RX7 85 yX7_in, Cond.static yX7_in, Cond.code yX7_in cX7_in 6 (some .boolean), Cond.methodLink RX7 276 yX7_isCell, Cond.instanceMethod yX7_isCell, Cond.selects RX7 yX7_isCell yX7_isCell, Cond.code yX7_isCell cX7_isCell 2 (some .boolean), Cond.methodLink RX7 260 yX7_cellMany, Cond.instanceMethod yX7_cellMany, Cond.selects RX7 yX7_cellMany yX7_cellMany, Cond.code yX7_cellMany cX7_cellMany 1 (some .int), Cond.fieldLink RX7 34 "HedgeMazeModel" "has" "[I"] ++ wsX70), w ∈ wz_law from List.forall_mem_append.mpr ⟨List.forall_mem_cons.mpr ⟨wzw_473, List.forall_mem_cons.mpr ⟨wzw_474, List.forall_mem_cons.mpr ⟨wzw_475, List.forall_mem_cons.mpr ⟨wzw_8, List.forall_mem_cons.mpr ⟨wzw_476, List.forall_mem_cons.mpr ⟨wzw_25, List.forall_mem_cons.mpr ⟨wzw_465, List.forall_mem_cons.mpr ⟨wzw_466, List.forall_mem_cons.mpr ⟨wzw_467, List.forall_mem_cons.mpr ⟨wzw_8, List.forall_mem_cons.mpr ⟨wzw_468, List.forall_mem_cons.mpr ⟨wzw_360, List.forall_mem_cons.mpr ⟨wzw_361, List.forall_mem_cons.mpr ⟨wzw_362, List.forall_mem_cons.mpr ⟨wzw_363, List.forall_mem_cons.mpr ⟨wzw_40, List.forall_mem_cons.mpr ⟨wzw_41, List.forall_mem_cons.mpr ⟨wzw_42, List.forall_mem_cons.mpr ⟨wzw_215, List.forall_mem_cons.mpr ⟨wzw_216, List.forall_mem_cons.mpr ⟨wzw_217, List.forall_mem_cons.mpr ⟨wzw_218, List.forall_mem_cons.mpr ⟨wzw_219, List.forall_mem_cons.mpr ⟨wzw_220, List.forall_mem_cons.mpr ⟨wzw_221, List.forall_mem_cons.mpr ⟨wzw_222, List.forall_mem_cons.mpr ⟨wzw_132, (fun _ h => absurd h List.not_mem_nil)⟩⟩⟩⟩⟩⟩⟩⟩⟩⟩⟩⟩⟩⟩⟩⟩⟩⟩⟩⟩⟩⟩⟩⟩⟩⟩⟩, in_law_X7⟩) (by decide +kernel)
set_option maxRecDepth 20000 in
theorem g_law_X6_odd : GoodIn wz_law (wsV RL 150 RX6 yX6_odd wz_X6_odd) := goodIn_sub (show ∀ w ∈ ((([Cond.methodLink RL 150 yX6_odd, Cond.instanceMethod yX6_odd, Cond.selects RX6 yX6_odd yX6_odd, Cond.initialized RX6, Cond.code yX6_odd cX6_odd 11 (some .int), Cond.methodLink RX6 293 yX6_refusalOfWalk, Cond.instanceMethod yX6_refusalOfWalk, Cond.selects RX6 yX6_refusalOfWalk yX6_refusalOfWalk, Cond.initialized RX6, Cond.code yX6_refusalOfWalk cX6_refusalOfWalk 5 (some .int), Cond.methodLink RX6 211 yX6_isSlot, Cond.static yX6_isSlot, Cond.code yX6_isSlot cX6_isSlot 1 (some .boolean), Cond.methodLink RX6 99 yX6_isCell, Cond.instanceMethod yX6_isCell, Cond.selects RX6 yX6_isCell yX6_isCell, Cond.code yX6_isCell cX6_isCell 2 (some .boolean), Cond.fieldLink RX6 33 "HedgeMaze" "garden" "LHedgeMaze$Garden;", Cond.fieldLink RX6 90 "HedgeMaze$Garden" "plan" "LHedgeMaze$Plan;", Cond.fieldLink RX6 169 "HedgeMaze$Plan" "cellCount" "I"] ++ wsX60) ++ wsX00) ++ wsX30), w ∈ wz_law from List.forall_mem_append.mpr ⟨List.forall_mem_append.mpr ⟨List.forall_mem_append.mpr ⟨List.forall_mem_cons.mpr ⟨wzw_477, List.forall_mem_cons.mpr ⟨wzw_478, List.forall_mem_cons.mpr ⟨wzw_479, List.forall_mem_cons.mpr ⟨wzw_3, List.forall_mem_cons.mpr ⟨wzw_480, List.forall_mem_cons.mpr ⟨wzw_457, List.forall_mem_cons.mpr ⟨wzw_458, List.forall_mem_cons.mpr ⟨wzw_459, List.forall_mem_cons.mpr ⟨wzw_3, List.forall_mem_cons.mpr ⟨wzw_460, List.forall_mem_cons.mpr ⟨wzw_349, List.forall_mem_cons.mpr ⟨wzw_350, List.forall_mem_cons.mpr ⟨wzw_351, List.forall_mem_cons.mpr ⟨wzw_205, List.forall_mem_cons.mpr ⟨wzw_206, List.forall_mem_cons.mpr ⟨wzw_207, List.forall_mem_cons.mpr ⟨wzw_208, List.forall_mem_cons.mpr ⟨wzw_52, List.forall_mem_cons.mpr ⟨wzw_209, List.forall_mem_cons.mpr ⟨wzw_210, (fun _ h => absurd h List.not_mem_nil)⟩⟩⟩⟩⟩⟩⟩⟩⟩⟩⟩⟩⟩⟩⟩⟩⟩⟩⟩⟩, in_law_X6⟩, in_law_X0⟩, in_law_X3⟩) (by decide +kernel)
set_option maxRecDepth 20000 in
theorem g_law_X7_odd : GoodIn wz_law (wsV RL 153 RX7 yX7_odd wz_X7_odd) := goodIn_sub (show ∀ w ∈ ([Cond.methodLink RL 153 yX7_odd, Cond.instanceMethod yX7_odd, Cond.selects RX7 yX7_odd yX7_odd, Cond.initialized RX7, Cond.code yX7_odd cX7_odd 15 (some .int), Cond.fieldLink RX7 80 "HedgeMazeModel" "thrown" "I", Cond.methodLink RX7 85 yX7_in, Cond.static yX7_in, Cond.initialized RX7, Cond.code yX7_in cX7_in 6 (some .boolean), Cond.methodLink RX7 383 yX7_whyNotWalk, Cond.instanceMethod yX7_whyNotWalk, Cond.selects RX7 yX7_whyNotWalk yX7_whyNotWalk, Cond.code yX7_whyNotWalk cX7_whyNotWalk 4 (some .int), Cond.methodLink RX7 89 yX7_isSlot, Cond.static yX7_isSlot, Cond.code yX7_isSlot cX7_isSlot 1 (some .boolean), Cond.constantLong RX7 83 (3), Cond.methodLink RX7 276 yX7_isCell, Cond.instanceMethod yX7_isCell, Cond.selects RX7 yX7_isCell yX7_isCell, Cond.code yX7_isCell cX7_isCell 2 (some .boolean), Cond.methodLink RX7 260 yX7_cellMany, Cond.instanceMethod yX7_cellMany, Cond.selects RX7 yX7_cellMany yX7_cellMany, Cond.code yX7_cellMany cX7_cellMany 1 (some .int), Cond.fieldLink RX7 34 "HedgeMazeModel" "has" "[I"] ++ wsX70), w ∈ wz_law from List.forall_mem_append.mpr ⟨List.forall_mem_cons.mpr ⟨wzw_481, List.forall_mem_cons.mpr ⟨wzw_482, List.forall_mem_cons.mpr ⟨wzw_483, List.forall_mem_cons.mpr ⟨wzw_8, List.forall_mem_cons.mpr ⟨wzw_484, List.forall_mem_cons.mpr ⟨wzw_25, List.forall_mem_cons.mpr ⟨wzw_40, List.forall_mem_cons.mpr ⟨wzw_41, List.forall_mem_cons.mpr ⟨wzw_8, List.forall_mem_cons.mpr ⟨wzw_42, List.forall_mem_cons.mpr ⟨wzw_465, List.forall_mem_cons.mpr ⟨wzw_466, List.forall_mem_cons.mpr ⟨wzw_467, List.forall_mem_cons.mpr ⟨wzw_468, List.forall_mem_cons.mpr ⟨wzw_360, List.forall_mem_cons.mpr ⟨wzw_361, List.forall_mem_cons.mpr ⟨wzw_362, List.forall_mem_cons.mpr ⟨wzw_363, List.forall_mem_cons.mpr ⟨wzw_215, List.forall_mem_cons.mpr ⟨wzw_216, List.forall_mem_cons.mpr ⟨wzw_217, List.forall_mem_cons.mpr ⟨wzw_218, List.forall_mem_cons.mpr ⟨wzw_219, List.forall_mem_cons.mpr ⟨wzw_220, List.forall_mem_cons.mpr ⟨wzw_221, List.forall_mem_cons.mpr ⟨wzw_222, List.forall_mem_cons.mpr ⟨wzw_132, (fun _ h => absurd h List.not_mem_nil)⟩⟩⟩⟩⟩⟩⟩⟩⟩⟩⟩⟩⟩⟩⟩⟩⟩⟩⟩⟩⟩⟩⟩⟩⟩⟩⟩, in_law_X7⟩) (by decide +kernel)
set_option maxRecDepth 20000 in
theorem g_law_X6_openings : GoodIn wz_law (wsV RL 154 RX6 yX6_openings wz_X6_openings) := goodIn_sub (show ∀ w ∈ (([Cond.methodLink RL 154 yX6_openings, Cond.instanceMethod yX6_openings, Cond.selects RX6 yX6_openings yX6_openings, Cond.initialized RX6, Cond.code yX6_openings cX6_openings 3 (some .int), Cond.methodLink RX6 86 yX6_hasMaze, Cond.instanceMethod yX6_hasMaze, Cond.selects RX6 yX6_hasMaze yX6_hasMaze, Cond.initialized RX6, Cond.code yX6_hasMaze cX6_hasMaze 1 (some .boolean), Cond.fieldLink RX6 33 "HedgeMaze" "garden" "LHedgeMaze$Garden;", Cond.fieldLink RX6 83 "HedgeMaze$Garden" "lines" "I"] ++ wsX60) ++ wsX00), w ∈ wz_law from List.forall_mem_append.mpr ⟨List.forall_mem_append.mpr ⟨List.forall_mem_cons.mpr ⟨wzw_485, List.forall_mem_cons.mpr ⟨wzw_486, List.forall_mem_cons.mpr ⟨wzw_487, List.forall_mem_cons.mpr ⟨wzw_3, List.forall_mem_cons.mpr ⟨wzw_488, List.forall_mem_cons.mpr ⟨wzw_189, List.forall_mem_cons.mpr ⟨wzw_190, List.forall_mem_cons.mpr ⟨wzw_191, List.forall_mem_cons.mpr ⟨wzw_3, List.forall_mem_cons.mpr ⟨wzw_192, List.forall_mem_cons.mpr ⟨wzw_52, List.forall_mem_cons.mpr ⟨wzw_54, (fun _ h => absurd h List.not_mem_nil)⟩⟩⟩⟩⟩⟩⟩⟩⟩⟩⟩⟩, in_law_X6⟩, in_law_X0⟩) (by decide +kernel)
set_option maxRecDepth 20000 in
theorem g_law_X7_openings : GoodIn wz_law (wsV RL 157 RX7 yX7_openings wz_X7_openings) := goodIn_sub (show ∀ w ∈ ([Cond.methodLink RL 157 yX7_openings, Cond.instanceMethod yX7_openings, Cond.selects RX7 yX7_openings yX7_openings, Cond.initialized RX7, Cond.code yX7_openings cX7_openings 3 (some .int), Cond.fieldLink RX7 80 "HedgeMazeModel" "thrown" "I", Cond.methodLink RX7 263 yX7_isMaze, Cond.instanceMethod yX7_isMaze, Cond.selects RX7 yX7_isMaze yX7_isMaze, Cond.initialized RX7, Cond.code yX7_isMaze cX7_isMaze 1 (some .boolean), Cond.fieldLink RX7 31 "HedgeMazeModel" "lines" "[I"] ++ wsX70), w ∈ wz_law from List.forall_mem_append.mpr ⟨List.forall_mem_cons.mpr ⟨wzw_489, List.forall_mem_cons.mpr ⟨wzw_490, List.forall_mem_cons.mpr ⟨wzw_491, List.forall_mem_cons.mpr ⟨wzw_8, List.forall_mem_cons.mpr ⟨wzw_492, List.forall_mem_cons.mpr ⟨wzw_25, List.forall_mem_cons.mpr ⟨wzw_197, List.forall_mem_cons.mpr ⟨wzw_198, List.forall_mem_cons.mpr ⟨wzw_199, List.forall_mem_cons.mpr ⟨wzw_8, List.forall_mem_cons.mpr ⟨wzw_200, List.forall_mem_cons.mpr ⟨wzw_126, (fun _ h => absurd h List.not_mem_nil)⟩⟩⟩⟩⟩⟩⟩⟩⟩⟩⟩⟩, in_law_X7⟩) (by decide +kernel)
set_option maxRecDepth 20000 in
theorem g_law_X6_drawn : GoodIn wz_law (wsV RL 158 RX6 yX6_drawn wz_X6_drawn) := goodIn_sub (show ∀ w ∈ ((([Cond.methodLink RL 158 yX6_drawn, Cond.instanceMethod yX6_drawn, Cond.selects RX6 yX6_drawn yX6_drawn, Cond.initialized RX6, Cond.code yX6_drawn cX6_drawn 4 (some .int), Cond.methodLink RX6 99 yX6_isCell, Cond.instanceMethod yX6_isCell, Cond.selects RX6 yX6_isCell yX6_isCell, Cond.initialized RX6, Cond.code yX6_isCell cX6_isCell 2 (some .boolean), Cond.fieldLink RX6 33 "HedgeMaze" "garden" "LHedgeMaze$Garden;", Cond.fieldLink RX6 90 "HedgeMaze$Garden" "plan" "LHedgeMaze$Plan;", Cond.fieldLink RX6 169 "HedgeMaze$Plan" "cellCount" "I"] ++ wsX60) ++ wsX00) ++ wsX30), w ∈ wz_law from List.forall_mem_append.mpr ⟨List.forall_mem_append.mpr ⟨List.forall_mem_append.mpr ⟨List.forall_mem_cons.mpr ⟨wzw_493, List.forall_mem_cons.mpr ⟨wzw_494, List.forall_mem_cons.mpr ⟨wzw_495, List.forall_mem_cons.mpr ⟨wzw_3, List.forall_mem_cons.mpr ⟨wzw_496, List.forall_mem_cons.mpr ⟨wzw_205, List.forall_mem_cons.mpr ⟨wzw_206, List.forall_mem_cons.mpr ⟨wzw_207, List.forall_mem_cons.mpr ⟨wzw_3, List.forall_mem_cons.mpr ⟨wzw_208, List.forall_mem_cons.mpr ⟨wzw_52, List.forall_mem_cons.mpr ⟨wzw_209, List.forall_mem_cons.mpr ⟨wzw_210, (fun _ h => absurd h List.not_mem_nil)⟩⟩⟩⟩⟩⟩⟩⟩⟩⟩⟩⟩⟩, in_law_X6⟩, in_law_X0⟩, in_law_X3⟩) (by decide +kernel)
set_option maxRecDepth 20000 in
theorem g_law_X7_drawn : GoodIn wz_law (wsV RL 161 RX7 yX7_drawn wz_X7_drawn) := goodIn_sub (show ∀ w ∈ ([Cond.methodLink RL 161 yX7_drawn, Cond.instanceMethod yX7_drawn, Cond.selects RX7 yX7_drawn yX7_drawn, Cond.initialized RX7, Cond.code yX7_drawn cX7_drawn 5 (some .int), Cond.fieldLink RX7 80 "HedgeMazeModel" "thrown" "I", Cond.methodLink RX7 419 yX7_isDrawn, Cond.instanceMethod yX7_isDrawn, Cond.selects RX7 yX7_isDrawn yX7_isDrawn, Cond.initialized RX7, Cond.code yX7_isDrawn cX7_isDrawn 3 (some .boolean), Cond.methodLink RX7 263 yX7_isMaze, Cond.instanceMethod yX7_isMaze, Cond.selects RX7 yX7_isMaze yX7_isMaze, Cond.code yX7_isMaze cX7_isMaze 1 (some .boolean), Cond.fieldLink RX7 31 "HedgeMazeModel" "lines" "[I"] ++ wsX70), w ∈ wz_law from List.forall_mem_append.mpr ⟨List.forall_mem_cons.mpr ⟨wzw_497, List.forall_mem_cons.mpr ⟨wzw_498, List.forall_mem_cons.mpr ⟨wzw_499, List.forall_mem_cons.mpr ⟨wzw_8, List.forall_mem_cons.mpr ⟨wzw_500, List.forall_mem_cons.mpr ⟨wzw_25, List.forall_mem_cons.mpr ⟨wzw_501, List.forall_mem_cons.mpr ⟨wzw_502, List.forall_mem_cons.mpr ⟨wzw_503, List.forall_mem_cons.mpr ⟨wzw_8, List.forall_mem_cons.mpr ⟨wzw_504, List.forall_mem_cons.mpr ⟨wzw_197, List.forall_mem_cons.mpr ⟨wzw_198, List.forall_mem_cons.mpr ⟨wzw_199, List.forall_mem_cons.mpr ⟨wzw_200, List.forall_mem_cons.mpr ⟨wzw_126, (fun _ h => absurd h List.not_mem_nil)⟩⟩⟩⟩⟩⟩⟩⟩⟩⟩⟩⟩⟩⟩⟩⟩, in_law_X7⟩) (by decide +kernel)
set_option maxRecDepth 20000 in
theorem g_law_X6_lastly : GoodIn wz_law (wsV RL 162 RX6 yX6_lastly wz_X6_lastly) := goodIn_sub (show ∀ w ∈ (([Cond.methodLink RL 162 yX6_lastly, Cond.instanceMethod yX6_lastly, Cond.selects RX6 yX6_lastly yX6_lastly, Cond.initialized RX6, Cond.code yX6_lastly cX6_lastly 3 (some .int), Cond.methodLink RX6 86 yX6_hasMaze, Cond.instanceMethod yX6_hasMaze, Cond.selects RX6 yX6_hasMaze yX6_hasMaze, Cond.initialized RX6, Cond.code yX6_hasMaze cX6_hasMaze 1 (some .boolean), Cond.fieldLink RX6 33 "HedgeMaze" "garden" "LHedgeMaze$Garden;", Cond.fieldLink RX6 83 "HedgeMaze$Garden" "lines" "I"] ++ wsX60) ++ wsX00), w ∈ wz_law from List.forall_mem_append.mpr ⟨List.forall_mem_append.mpr ⟨List.forall_mem_cons.mpr ⟨wzw_505, List.forall_mem_cons.mpr ⟨wzw_506, List.forall_mem_cons.mpr ⟨wzw_507, List.forall_mem_cons.mpr ⟨wzw_3, List.forall_mem_cons.mpr ⟨wzw_508, List.forall_mem_cons.mpr ⟨wzw_189, List.forall_mem_cons.mpr ⟨wzw_190, List.forall_mem_cons.mpr ⟨wzw_191, List.forall_mem_cons.mpr ⟨wzw_3, List.forall_mem_cons.mpr ⟨wzw_192, List.forall_mem_cons.mpr ⟨wzw_52, List.forall_mem_cons.mpr ⟨wzw_54, (fun _ h => absurd h List.not_mem_nil)⟩⟩⟩⟩⟩⟩⟩⟩⟩⟩⟩⟩, in_law_X6⟩, in_law_X0⟩) (by decide +kernel)
set_option maxRecDepth 20000 in
theorem g_law_X7_lastly : GoodIn wz_law (wsV RL 165 RX7 yX7_lastly wz_X7_lastly) := goodIn_sub (show ∀ w ∈ ([Cond.methodLink RL 165 yX7_lastly, Cond.instanceMethod yX7_lastly, Cond.selects RX7 yX7_lastly yX7_lastly, Cond.initialized RX7, Cond.code yX7_lastly cX7_lastly 3 (some .int), Cond.fieldLink RX7 80 "HedgeMazeModel" "thrown" "I", Cond.methodLink RX7 419 yX7_isDrawn, Cond.instanceMethod yX7_isDrawn, Cond.selects RX7 yX7_isDrawn yX7_isDrawn, Cond.initialized RX7, Cond.code yX7_isDrawn cX7_isDrawn 3 (some .boolean), Cond.methodLink RX7 263 yX7_isMaze, Cond.instanceMethod yX7_isMaze, Cond.selects RX7 yX7_isMaze yX7_isMaze, Cond.code yX7_isMaze cX7_isMaze 1 (some .boolean), Cond.fieldLink RX7 31 "HedgeMazeModel" "lines" "[I"] ++ wsX70), w ∈ wz_law from List.forall_mem_append.mpr ⟨List.forall_mem_cons.mpr ⟨wzw_509, List.forall_mem_cons.mpr ⟨wzw_510, List.forall_mem_cons.mpr ⟨wzw_511, List.forall_mem_cons.mpr ⟨wzw_8, List.forall_mem_cons.mpr ⟨wzw_512, List.forall_mem_cons.mpr ⟨wzw_25, List.forall_mem_cons.mpr ⟨wzw_501, List.forall_mem_cons.mpr ⟨wzw_502, List.forall_mem_cons.mpr ⟨wzw_503, List.forall_mem_cons.mpr ⟨wzw_8, List.forall_mem_cons.mpr ⟨wzw_504, List.forall_mem_cons.mpr ⟨wzw_197, List.forall_mem_cons.mpr ⟨wzw_198, List.forall_mem_cons.mpr ⟨wzw_199, List.forall_mem_cons.mpr ⟨wzw_200, List.forall_mem_cons.mpr ⟨wzw_126, (fun _ h => absurd h List.not_mem_nil)⟩⟩⟩⟩⟩⟩⟩⟩⟩⟩⟩⟩⟩⟩⟩⟩, in_law_X7⟩) (by decide +kernel)
set_option maxRecDepth 20000 in
theorem g_law_X6_count : GoodIn wz_law (wsV RL 166 RX6 yX6_count wz_X6_count) := goodIn_sub (show ∀ w ∈ (((([Cond.methodLink RL 166 yX6_count, Cond.instanceMethod yX6_count, Cond.selects RX6 yX6_count yX6_count, Cond.initialized RX6, Cond.code yX6_count cX6_count 2 (some .int), Cond.fieldLink RX6 33 "HedgeMaze" "garden" "LHedgeMaze$Garden;", Cond.fieldLink RX6 90 "HedgeMaze$Garden" "plan" "LHedgeMaze$Plan;", Cond.fieldLink RX6 326 "HedgeMaze$Plan" "wide" "I", Cond.fieldLink RX6 329 "HedgeMaze$Plan" "deep" "I", Cond.fieldLink RX6 117 "HedgeMaze$Garden" "hedges" "J", Cond.fieldLink RX6 125 "HedgeMaze$Garden" "walls" "J", Cond.fieldLink RX6 284 "HedgeMaze$Garden" "gateCount" "I", Cond.fieldLink RX6 258 "HedgeMaze$Garden" "guestCount" "I", Cond.fieldLink RX6 83 "HedgeMaze$Garden" "lines" "I", Cond.fieldLink RX6 13 "HedgeMaze" "tapeSize" "I", Cond.fieldLink RX6 332 "HedgeMaze$Garden" "isNear" "Z", Cond.fieldLink RX6 281 "HedgeMaze$Garden" "letterCell" "I", Cond.methodLink RX6 165 yJ13_bitCount_95d88, Cond.static yJ13_bitCount_95d88, Cond.initialized RJ13, Cond.code yJ13_bitCount_95d88 cJ13_bitCount_95d88 2 (some .int), Cond.constantLong RJ13 314 (6148914691236517205), Cond.constantLong RJ13 316 (3689348814741910323), Cond.constantLong RJ13 318 (1085102592571150095), Cond.methodLink RX6 335 yX6_countRows, Cond.instanceMethod yX6_countRows, Cond.selects RX6 yX6_countRows yX6_countRows, Cond.initialized RX6, Cond.code yX6_countRows cX6_countRows 3 (some .int), Cond.fieldLink RX6 43 "HedgeMaze" "rows" "[LHedgeMaze$Row;", Cond.fieldLink RX6 214 "HedgeMaze$Row" "there" "Z"] ++ wsX60) ++ wsX00) ++ wsX30) ++ wsX50), w ∈ wz_law from List.forall_mem_append.mpr ⟨List.forall_mem_append.mpr ⟨List.forall_mem_append.mpr ⟨List.forall_mem_append.mpr ⟨List.forall_mem_cons.mpr ⟨wzw_513, List.forall_mem_cons.mpr ⟨wzw_514, List.forall_mem_cons.mpr ⟨wzw_515, List.forall_mem_cons.mpr ⟨wzw_3, List.forall_mem_cons.mpr ⟨wzw_516, List.forall_mem_cons.mpr ⟨wzw_52, List.forall_mem_cons.mpr ⟨wzw_209, List.forall_mem_cons.mpr ⟨wzw_517, List.forall_mem_cons.mpr ⟨wzw_518, List.forall_mem_cons.mpr ⟨wzw_519, List.forall_mem_cons.mpr ⟨wzw_520, List.forall_mem_cons.mpr ⟨wzw_521, List.forall_mem_cons.mpr ⟨wzw_408, List.forall_mem_cons.mpr ⟨wzw_54, List.forall_mem_cons.mpr ⟨wzw_15, List.forall_mem_cons.mpr ⟨wzw_522, List.forall_mem_cons.mpr ⟨wzw_523, List.forall_mem_cons.mpr ⟨wzw_524, List.forall_mem_cons.mpr ⟨wzw_525, List.forall_mem_cons.mpr ⟨wzw_526, List.forall_mem_cons.mpr ⟨wzw_527, List.forall_mem_cons.mpr ⟨wzw_528, List.forall_mem_cons.mpr ⟨wzw_529, List.forall_mem_cons.mpr ⟨wzw_530, List.forall_mem_cons.mpr ⟨wzw_531, List.forall_mem_cons.mpr ⟨wzw_532, List.forall_mem_cons.mpr ⟨wzw_533, List.forall_mem_cons.mpr ⟨wzw_3, List.forall_mem_cons.mpr ⟨wzw_534, List.forall_mem_cons.mpr ⟨wzw_535, List.forall_mem_cons.mpr ⟨wzw_536, (fun _ h => absurd h List.not_mem_nil)⟩⟩⟩⟩⟩⟩⟩⟩⟩⟩⟩⟩⟩⟩⟩⟩⟩⟩⟩⟩⟩⟩⟩⟩⟩⟩⟩⟩⟩⟩⟩, in_law_X6⟩, in_law_X0⟩, in_law_X3⟩, in_law_X5⟩) (by decide +kernel)
set_option maxRecDepth 20000 in
theorem g_law_X7_count : GoodIn wz_law (wsV RL 169 RX7 yX7_count wz_X7_count) := goodIn_sub (show ∀ w ∈ ([Cond.methodLink RL 169 yX7_count, Cond.instanceMethod yX7_count, Cond.selects RX7 yX7_count yX7_count, Cond.initialized RX7, Cond.code yX7_count cX7_count 4 (some .int), Cond.fieldLink RX7 80 "HedgeMazeModel" "thrown" "I", Cond.fieldLink RX7 34 "HedgeMazeModel" "has" "[I", Cond.fieldLink RX7 31 "HedgeMazeModel" "lines" "[I", Cond.fieldLink RX7 97 "HedgeMazeModel" "taped" "I", Cond.fieldLink RX7 7 "HedgeMazeModel" "width" "[I", Cond.methodLink RX7 263 yX7_isMaze, Cond.instanceMethod yX7_isMaze, Cond.selects RX7 yX7_isMaze yX7_isMaze, Cond.initialized RX7, Cond.code yX7_isMaze cX7_isMaze 1 (some .boolean)] ++ wsX70), w ∈ wz_law from List.forall_mem_append.mpr ⟨List.forall_mem_cons.mpr ⟨wzw_537, List.forall_mem_cons.mpr ⟨wzw_538, List.forall_mem_cons.mpr ⟨wzw_539, List.forall_mem_cons.mpr ⟨wzw_8, List.forall_mem_cons.mpr ⟨wzw_540, List.forall_mem_cons.mpr ⟨wzw_25, List.forall_mem_cons.mpr ⟨wzw_132, List.forall_mem_cons.mpr ⟨wzw_126, List.forall_mem_cons.mpr ⟨wzw_26, List.forall_mem_cons.mpr ⟨wzw_541, List.forall_mem_cons.mpr ⟨wzw_197, List.forall_mem_cons.mpr ⟨wzw_198, List.forall_mem_cons.mpr ⟨wzw_199, List.forall_mem_cons.mpr ⟨wzw_8, List.forall_mem_cons.mpr ⟨wzw_200, (fun _ h => absurd h List.not_mem_nil)⟩⟩⟩⟩⟩⟩⟩⟩⟩⟩⟩⟩⟩⟩⟩, in_law_X7⟩) (by decide +kernel)
set_option maxRecDepth 20000 in
theorem g_law_X6_keep : GoodIn wz_law (wsV RL 170 RX6 yX6_keep wz_X6_keep) := goodIn_sub (show ∀ w ∈ ((([Cond.methodLink RL 170 yX6_keep, Cond.instanceMethod yX6_keep, Cond.selects RX6 yX6_keep yX6_keep, Cond.initialized RX6, Cond.code yX6_keep cX6_keep 3 (some .int), Cond.fieldLink RX6 37 "HedgeMaze" "images" "[LHedgeMaze$Garden;", Cond.classLink RX6 30 RX0, Cond.instantiable RX0 12, Cond.initialized RX0, Cond.instanceMethod yX0_init, Cond.fieldLink RX6 33 "HedgeMaze" "garden" "LHedgeMaze$Garden;", Cond.code yX0_init cX0_init 1 none, Cond.methodLink RX0 3 objectInit, Cond.instanceMethod objectInit, Cond.code objectInit ⟨#[0xb1]⟩ 1 none, Cond.classLink RX0 9 RX3, Cond.instantiable RX3 9, Cond.initialized RX3, Cond.instanceMethod yX3_init, Cond.fieldLink RX0 12 "HedgeMaze$Garden" "plan" "LHedgeMaze$Plan;", Cond.fieldLink RX0 18 "HedgeMaze$Garden" "lines" "I", Cond.fieldLink RX0 22 "HedgeMaze$Garden" "hedges" "J", Cond.fieldLink RX0 26 "HedgeMaze$Garden" "walls" "J", Cond.fieldLink RX0 29 "HedgeMaze$Garden" "isNear" "Z", Cond.fieldLink RX0 33 "HedgeMaze$Garden" "letterCell" "I", Cond.fieldLink RX0 36 "HedgeMaze$Garden" "gateCount" "I", Cond.arrayClass .int, Cond.fieldLink RX0 39 "HedgeMaze$Garden" "gates" "[I", Cond.fieldLink RX0 43 "HedgeMaze$Garden" "guestCount" "I", Cond.fieldLink RX0 46 "HedgeMaze$Garden" "guests" "[I", Cond.fieldLink RX0 49 "HedgeMaze$Garden" "goneCount" "I", Cond.fieldLink RX0 52 "HedgeMaze$Garden" "goneNights" "[I", Cond.code yX3_init cX3_init 1 none, Cond.methodLink RX3 3 objectInit, Cond.fieldLink RX3 9 "HedgeMaze$Plan" "wide" "I", Cond.fieldLink RX3 15 "HedgeMaze$Plan" "deep" "I", Cond.fieldLink RX3 18 "HedgeMaze$Plan" "cellCount" "I", Cond.fieldLink RX3 21 "HedgeMaze$Plan" "sideCount" "I", Cond.fieldLink RX3 24 "HedgeMaze$Plan" "allSides" "J", Cond.fieldLink RX3 28 "HedgeMaze$Plan" "first" "[I", Cond.fieldLink RX3 32 "HedgeMaze$Plan" "other" "[I", Cond.arrayClass .long, Cond.fieldLink RX3 35 "HedgeMaze$Plan" "bits" "[J", Cond.fieldLink RX3 39 "HedgeMaze$Plan" "around" "[I", Cond.methodLink RX6 79 yX0_becomeLike, Cond.instanceMethod yX0_becomeLike, Cond.selects RX0 yX0_becomeLike yX0_becomeLike, Cond.code yX0_becomeLike cX0_becomeLike 2 none, Cond.fieldLink RX0 59 "HedgeMaze$Plan" "wide" "I", Cond.fieldLink RX0 62 "HedgeMaze$Plan" "deep" "I", Cond.methodLink RX0 65 arraycopyName, Cond.native arraycopyName, Cond.static arraycopyName, Cond.initialized "java/lang/System", Cond.methodLink RX0 55 yX3_lay, Cond.instanceMethod yX3_lay, Cond.selects RX3 yX3_lay yX3_lay, Cond.code yX3_lay cX3_lay 6 none, Cond.methodLink RX3 42 Lib.Math.min.name, Cond.static Lib.Math.min.name, Cond.initialized "java/lang/Math", Cond.code Lib.Math.min.name Lib.Math.min.code 2 (some .int), Cond.methodLink RX3 48 yJ7_fill_53178, Cond.static yJ7_fill_53178, Cond.initialized RJ7, Cond.code yJ7_fill_53178 cJ7_fill_53178 4 none] ++ wsX60) ++ wsX00) ++ wsX30), w ∈ wz_law from List.forall_mem_append.mpr ⟨List.forall_mem_append.mpr ⟨List.forall_mem_append.mpr ⟨List.forall_mem_cons.mpr ⟨wzw_542, List.forall_mem_cons.mpr ⟨wzw_543, List.forall_mem_cons.mpr ⟨wzw_544, List.forall_mem_cons.mpr ⟨wzw_3, List.forall_mem_cons.mpr ⟨wzw_545, List.forall_mem_cons.mpr ⟨wzw_546, List.forall_mem_cons.mpr ⟨wzw_547, List.forall_mem_cons.mpr ⟨wzw_548, List.forall_mem_cons.mpr ⟨wzw_76, List.forall_mem_cons.mpr ⟨wzw_549, List.forall_mem_cons.mpr ⟨wzw_52, List.forall_mem_cons.mpr ⟨wzw_550, List.forall_mem_cons.mpr ⟨wzw_551, List.forall_mem_cons.mpr ⟨wzw_552, List.forall_mem_cons.mpr ⟨wzw_553, List.forall_mem_cons.mpr ⟨wzw_554, List.forall_mem_cons.mpr ⟨wzw_555, List.forall_mem_cons.mpr ⟨wzw_90, List.forall_mem_cons.mpr ⟨wzw_556, List.forall_mem_cons.mpr ⟨wzw_78, List.forall_mem_cons.mpr ⟨wzw_79, List.forall_mem_cons.mpr ⟨wzw_80, List.forall_mem_cons.mpr ⟨wzw_81, List.forall_mem_cons.mpr ⟨wzw_82, List.forall_mem_cons.mpr ⟨wzw_83, List.forall_mem_cons.mpr ⟨wzw_84, List.forall_mem_cons.mpr ⟨wzw_557, List.forall_mem_cons.mpr ⟨wzw_114, List.forall_mem_cons.mpr ⟨wzw_85, List.forall_mem_cons.mpr ⟨wzw_119, List.forall_mem_cons.mpr ⟨wzw_86, List.forall_mem_cons.mpr ⟨wzw_120, List.forall_mem_cons.mpr ⟨wzw_558, List.forall_mem_cons.mpr ⟨wzw_559, List.forall_mem_cons.mpr ⟨wzw_93, List.forall_mem_cons.mpr ⟨wzw_94, List.forall_mem_cons.mpr ⟨wzw_95, List.forall_mem_cons.mpr ⟨wzw_96, List.forall_mem_cons.mpr ⟨wzw_97, List.forall_mem_cons.mpr ⟨wzw_560, List.forall_mem_cons.mpr ⟨wzw_561, List.forall_mem_cons.mpr ⟨wzw_562, List.forall_mem_cons.mpr ⟨wzw_563, List.forall_mem_cons.mpr ⟨wzw_98, List.forall_mem_cons.mpr ⟨wzw_108, List.forall_mem_cons.mpr ⟨wzw_109, List.forall_mem_cons.mpr ⟨wzw_110, List.forall_mem_cons.mpr ⟨wzw_111, List.forall_mem_cons.mpr ⟨wzw_112, List.forall_mem_cons.mpr ⟨wzw_113, List.forall_mem_cons.mpr ⟨wzw_115, List.forall_mem_cons.mpr ⟨wzw_116, List.forall_mem_cons.mpr ⟨wzw_117, List.forall_mem_cons.mpr ⟨wzw_118, List.forall_mem_cons.mpr ⟨wzw_87, List.forall_mem_cons.mpr ⟨wzw_88, List.forall_mem_cons.mpr ⟨wzw_89, List.forall_mem_cons.mpr ⟨wzw_91, List.forall_mem_cons.mpr ⟨wzw_92, List.forall_mem_cons.mpr ⟨wzw_62, List.forall_mem_cons.mpr ⟨wzw_63, List.forall_mem_cons.mpr ⟨wzw_64, List.forall_mem_cons.mpr ⟨wzw_99, List.forall_mem_cons.mpr ⟨wzw_100, List.forall_mem_cons.mpr ⟨wzw_101, List.forall_mem_cons.mpr ⟨wzw_102, (fun _ h => absurd h List.not_mem_nil)⟩⟩⟩⟩⟩⟩⟩⟩⟩⟩⟩⟩⟩⟩⟩⟩⟩⟩⟩⟩⟩⟩⟩⟩⟩⟩⟩⟩⟩⟩⟩⟩⟩⟩⟩⟩⟩⟩⟩⟩⟩⟩⟩⟩⟩⟩⟩⟩⟩⟩⟩⟩⟩⟩⟩⟩⟩⟩⟩⟩⟩⟩⟩⟩⟩⟩, in_law_X6⟩, in_law_X0⟩, in_law_X3⟩) (by decide +kernel)
set_option maxRecDepth 20000 in
theorem g_law_X7_keep : GoodIn wz_law (wsV RL 173 RX7 yX7_keep wz_X7_keep) := goodIn_sub (show ∀ w ∈ ([Cond.methodLink RL 173 yX7_keep, Cond.instanceMethod yX7_keep, Cond.selects RX7 yX7_keep yX7_keep, Cond.initialized RX7, Cond.code yX7_keep cX7_keep 2 (some .int), Cond.fieldLink RX7 80 "HedgeMazeModel" "thrown" "I", Cond.constantLong RX7 285 (2), Cond.fieldLink RX7 49 "HedgeMazeModel" "isKept" "[Z", Cond.methodLink RX7 85 yX7_in, Cond.static yX7_in, Cond.initialized RX7, Cond.code yX7_in cX7_in 6 (some .boolean), Cond.methodLink RX7 253 yX7_copyMaze, Cond.instanceMethod yX7_copyMaze, Cond.selects RX7 yX7_copyMaze yX7_copyMaze, Cond.code yX7_copyMaze cX7_copyMaze 3 none, Cond.fieldLink RX7 31 "HedgeMazeModel" "lines" "[I", Cond.fieldLink RX7 34 "HedgeMazeModel" "has" "[I", Cond.fieldLink RX7 37 "HedgeMazeModel" "state" "[I", Cond.fieldLink RX7 40 "HedgeMazeModel" "gate" "[I", Cond.fieldLink RX7 43 "HedgeMazeModel" "guest" "[I", Cond.fieldLink RX7 46 "HedgeMazeModel" "gone" "[I", Cond.methodLink RX7 256 yX7_copyRow, Cond.static yX7_copyRow, Cond.code yX7_copyRow cX7_copyRow 5 none] ++ wsX70), w ∈ wz_law from List.forall_mem_append.mpr ⟨List.forall_mem_cons.mpr ⟨wzw_564, List.forall_mem_cons.mpr ⟨wzw_565, List.forall_mem_cons.mpr ⟨wzw_566, List.forall_mem_cons.mpr ⟨wzw_8, List.forall_mem_cons.mpr ⟨wzw_567, List.forall_mem_cons.mpr ⟨wzw_25, List.forall_mem_cons.mpr ⟨wzw_568, List.forall_mem_cons.mpr ⟨wzw_569, List.forall_mem_cons.mpr ⟨wzw_40, List.forall_mem_cons.mpr ⟨wzw_41, List.forall_mem_cons.mpr ⟨wzw_8, List.forall_mem_cons.mpr ⟨wzw_42, List.forall_mem_cons.mpr ⟨wzw_167, List.forall_mem_cons.mpr ⟨wzw_168, List.forall_mem_cons.mpr ⟨wzw_169, List.forall_mem_cons.mpr ⟨wzw_170, List.forall_mem_cons.mpr ⟨wzw_126, List.forall_mem_cons.mpr ⟨wzw_132, List.forall_mem_cons.mpr ⟨wzw_134, List.forall_mem_cons.mpr ⟨wzw_171, List.forall_mem_cons.mpr ⟨wzw_172, List.forall_mem_cons.mpr ⟨wzw_173, List.forall_mem_cons.mpr ⟨wzw_174, List.forall_mem_cons.mpr ⟨wzw_175, List.forall_mem_cons.mpr ⟨wzw_176, (fun _ h => absurd h List.not_mem_nil)⟩⟩⟩⟩⟩⟩⟩⟩⟩⟩⟩⟩⟩⟩⟩⟩⟩⟩⟩⟩⟩⟩⟩⟩⟩, in_law_X7⟩) (by decide +kernel)
set_option maxRecDepth 20000 in
theorem g_law_X6_back : GoodIn wz_law (wsV RL 174 RX6 yX6_back wz_X6_back) := goodIn_sub (show ∀ w ∈ ([Cond.methodLink RL 174 yX6_back, Cond.instanceMethod yX6_back, Cond.selects RX6 yX6_back yX6_back, Cond.initialized RX6, Cond.code yX6_back cX6_back 3 (some .int), Cond.fieldLink RX6 37 "HedgeMaze" "images" "[LHedgeMaze$Garden;"] ++ wsX60), w ∈ wz_law from List.forall_mem_append.mpr ⟨List.forall_mem_cons.mpr ⟨wzw_570, List.forall_mem_cons.mpr ⟨wzw_571, List.forall_mem_cons.mpr ⟨wzw_572, List.forall_mem_cons.mpr ⟨wzw_3, List.forall_mem_cons.mpr ⟨wzw_573, List.forall_mem_cons.mpr ⟨wzw_546, (fun _ h => absurd h List.not_mem_nil)⟩⟩⟩⟩⟩⟩, in_law_X6⟩) (by decide +kernel)
set_option maxRecDepth 20000 in
theorem g_law_X7_back : GoodIn wz_law (wsV RL 177 RX7 yX7_back wz_X7_back) := goodIn_sub (show ∀ w ∈ ([Cond.methodLink RL 177 yX7_back, Cond.instanceMethod yX7_back, Cond.selects RX7 yX7_back yX7_back, Cond.initialized RX7, Cond.code yX7_back cX7_back 2 (some .int), Cond.fieldLink RX7 80 "HedgeMazeModel" "thrown" "I", Cond.constantLong RX7 285 (2), Cond.fieldLink RX7 49 "HedgeMazeModel" "isKept" "[Z", Cond.methodLink RX7 85 yX7_in, Cond.static yX7_in, Cond.initialized RX7, Cond.code yX7_in cX7_in 6 (some .boolean)] ++ wsX70), w ∈ wz_law from List.forall_mem_append.mpr ⟨List.forall_mem_cons.mpr ⟨wzw_574, List.forall_mem_cons.mpr ⟨wzw_575, List.forall_mem_cons.mpr ⟨wzw_576, List.forall_mem_cons.mpr ⟨wzw_8, List.forall_mem_cons.mpr ⟨wzw_577, List.forall_mem_cons.mpr ⟨wzw_25, List.forall_mem_cons.mpr ⟨wzw_568, List.forall_mem_cons.mpr ⟨wzw_569, List.forall_mem_cons.mpr ⟨wzw_40, List.forall_mem_cons.mpr ⟨wzw_41, List.forall_mem_cons.mpr ⟨wzw_8, List.forall_mem_cons.mpr ⟨wzw_42, (fun _ h => absurd h List.not_mem_nil)⟩⟩⟩⟩⟩⟩⟩⟩⟩⟩⟩⟩, in_law_X7⟩) (by decide +kernel)
set_option maxRecDepth 20000 in
theorem g_law_X6_row : GoodIn wz_law (wsV RL 178 RX6 yX6_row wz_X6_row) := goodIn_sub (show ∀ w ∈ (([Cond.methodLink RL 178 yX6_row, Cond.instanceMethod yX6_row, Cond.selects RX6 yX6_row yX6_row, Cond.initialized RX6, Cond.code yX6_row cX6_row 4 (some .int), Cond.fieldLink RX6 43 "HedgeMaze" "rows" "[LHedgeMaze$Row;", Cond.methodLink RX6 211 yX6_isSlot, Cond.static yX6_isSlot, Cond.initialized RX6, Cond.code yX6_isSlot cX6_isSlot 1 (some .boolean), Cond.methodLink RX6 338 yX5_begin, Cond.instanceMethod yX5_begin, Cond.selects RX5 yX5_begin yX5_begin, Cond.initialized RX5, Cond.code yX5_begin cX5_begin 3 none, Cond.fieldLink RX5 9 "HedgeMaze$Row" "there" "Z", Cond.fieldLink RX5 15 "HedgeMaze$Row" "width" "I", Cond.fieldLink RX5 19 "HedgeMaze$Row" "size" "I", Cond.fieldLink RX5 22 "HedgeMaze$Row" "numbers" "[J", Cond.methodLink RX5 26 yJ7_fill_d0a16, Cond.static yJ7_fill_d0a16, Cond.initialized RJ7, Cond.code yJ7_fill_d0a16 cJ7_fill_d0a16 5 none] ++ wsX60) ++ wsX50), w ∈ wz_law from List.forall_mem_append.mpr ⟨List.forall_mem_append.mpr ⟨List.forall_mem_cons.mpr ⟨wzw_578, List.forall_mem_cons.mpr ⟨wzw_579, List.forall_mem_cons.mpr ⟨wzw_580, List.forall_mem_cons.mpr ⟨wzw_3, List.forall_mem_cons.mpr ⟨wzw_581, List.forall_mem_cons.mpr ⟨wzw_535, List.forall_mem_cons.mpr ⟨wzw_349, List.forall_mem_cons.mpr ⟨wzw_350, List.forall_mem_cons.mpr ⟨wzw_3, List.forall_mem_cons.mpr ⟨wzw_351, List.forall_mem_cons.mpr ⟨wzw_582, List.forall_mem_cons.mpr ⟨wzw_583, List.forall_mem_cons.mpr ⟨wzw_584, List.forall_mem_cons.mpr ⟨wzw_585, List.forall_mem_cons.mpr ⟨wzw_586, List.forall_mem_cons.mpr ⟨wzw_587, List.forall_mem_cons.mpr ⟨wzw_588, List.forall_mem_cons.mpr ⟨wzw_589, List.forall_mem_cons.mpr ⟨wzw_590, List.forall_mem_cons.mpr ⟨wzw_591, List.forall_mem_cons.mpr ⟨wzw_592, List.forall_mem_cons.mpr ⟨wzw_101, List.forall_mem_cons.mpr ⟨wzw_593, (fun _ h => absurd h List.not_mem_nil)⟩⟩⟩⟩⟩⟩⟩⟩⟩⟩⟩⟩⟩⟩⟩⟩⟩⟩⟩⟩⟩⟩⟩, in_law_X6⟩, in_law_X5⟩) (by decide +kernel)
set_option maxRecDepth 20000 in
theorem g_law_X7_row : GoodIn wz_law (wsV RL 181 RX7 yX7_row wz_X7_row) := goodIn_sub (show ∀ w ∈ ([Cond.methodLink RL 181 yX7_row, Cond.instanceMethod yX7_row, Cond.selects RX7 yX7_row yX7_row, Cond.initialized RX7, Cond.code yX7_row cX7_row 5 (some .int), Cond.fieldLink RX7 80 "HedgeMazeModel" "thrown" "I", Cond.constantLong RX7 83 (3), Cond.fieldLink RX7 7 "HedgeMazeModel" "width" "[I", Cond.fieldLink RX7 13 "HedgeMazeModel" "many" "[I", Cond.fieldLink RX7 16 "HedgeMazeModel" "cells" "[J", Cond.methodLink RX7 89 yX7_isSlot, Cond.static yX7_isSlot, Cond.initialized RX7, Cond.code yX7_isSlot cX7_isSlot 1 (some .boolean), Cond.methodLink RX7 85 yX7_in, Cond.static yX7_in, Cond.code yX7_in cX7_in 6 (some .boolean)] ++ wsX70), w ∈ wz_law from List.forall_mem_append.mpr ⟨List.forall_mem_cons.mpr ⟨wzw_594, List.forall_mem_cons.mpr ⟨wzw_595, List.forall_mem_cons.mpr ⟨wzw_596, List.forall_mem_cons.mpr ⟨wzw_8, List.forall_mem_cons.mpr ⟨wzw_597, List.forall_mem_cons.mpr ⟨wzw_25, List.forall_mem_cons.mpr ⟨wzw_363, List.forall_mem_cons.mpr ⟨wzw_541, List.forall_mem_cons.mpr ⟨wzw_598, List.forall_mem_cons.mpr ⟨wzw_599, List.forall_mem_cons.mpr ⟨wzw_360, List.forall_mem_cons.mpr ⟨wzw_361, List.forall_mem_cons.mpr ⟨wzw_8, List.forall_mem_cons.mpr ⟨wzw_362, List.forall_mem_cons.mpr ⟨wzw_40, List.forall_mem_cons.mpr ⟨wzw_41, List.forall_mem_cons.mpr ⟨wzw_42, (fun _ h => absurd h List.not_mem_nil)⟩⟩⟩⟩⟩⟩⟩⟩⟩⟩⟩⟩⟩⟩⟩⟩⟩, in_law_X7⟩) (by decide +kernel)
set_option maxRecDepth 20000 in
theorem g_law_X6_write : GoodIn wz_law (wsV RL 184 RX6 yX6_write wz_X6_write) := goodIn_sub (show ∀ w ∈ (([Cond.methodLink RL 184 yX6_write, Cond.instanceMethod yX6_write, Cond.selects RX6 yX6_write yX6_write, Cond.initialized RX6, Cond.code yX6_write cX6_write 6 (some .int), Cond.fieldLink RX6 43 "HedgeMaze" "rows" "[LHedgeMaze$Row;", Cond.fieldLink RX6 214 "HedgeMaze$Row" "there" "Z", Cond.methodLink RX6 211 yX6_isSlot, Cond.static yX6_isSlot, Cond.initialized RX6, Cond.code yX6_isSlot cX6_isSlot 1 (some .boolean)] ++ wsX60) ++ wsX50), w ∈ wz_law from List.forall_mem_append.mpr ⟨List.forall_mem_append.mpr ⟨List.forall_mem_cons.mpr ⟨wzw_600, List.forall_mem_cons.mpr ⟨wzw_601, List.forall_mem_cons.mpr ⟨wzw_602, List.forall_mem_cons.mpr ⟨wzw_3, List.forall_mem_cons.mpr ⟨wzw_603, List.forall_mem_cons.mpr ⟨wzw_535, List.forall_mem_cons.mpr ⟨wzw_536, List.forall_mem_cons.mpr ⟨wzw_349, List.forall_mem_cons.mpr ⟨wzw_350, List.forall_mem_cons.mpr ⟨wzw_3, List.forall_mem_cons.mpr ⟨wzw_351, (fun _ h => absurd h List.not_mem_nil)⟩⟩⟩⟩⟩⟩⟩⟩⟩⟩⟩, in_law_X6⟩, in_law_X5⟩) (by decide +kernel)
set_option maxRecDepth 20000 in
theorem g_law_X7_write : GoodIn wz_law (wsV RL 188 RX7 yX7_write wz_X7_write) := goodIn_sub (show ∀ w ∈ ([Cond.methodLink RL 188 yX7_write, Cond.instanceMethod yX7_write, Cond.selects RX7 yX7_write yX7_write, Cond.initialized RX7, Cond.code yX7_write cX7_write 5 (some .int), Cond.fieldLink RX7 80 "HedgeMazeModel" "thrown" "I", Cond.fieldLink RX7 7 "HedgeMazeModel" "width" "[I", Cond.methodLink RX7 89 yX7_isSlot, Cond.static yX7_isSlot, Cond.initialized RX7, Cond.code yX7_isSlot cX7_isSlot 1 (some .boolean), Cond.constantLong RX7 83 (3), Cond.methodLink RX7 85 yX7_in, Cond.static yX7_in, Cond.code yX7_in cX7_in 6 (some .boolean)] ++ wsX70), w ∈ wz_law from List.forall_mem_append.mpr ⟨List.forall_mem_cons.mpr ⟨wzw_604, List.forall_mem_cons.mpr ⟨wzw_605, List.forall_mem_cons.mpr ⟨wzw_606, List.forall_mem_cons.mpr ⟨wzw_8, List.forall_mem_cons.mpr ⟨wzw_607, List.forall_mem_cons.mpr ⟨wzw_25, List.forall_mem_cons.mpr ⟨wzw_541, List.forall_mem_cons.mpr ⟨wzw_360, List.forall_mem_cons.mpr ⟨wzw_361, List.forall_mem_cons.mpr ⟨wzw_8, List.forall_mem_cons.mpr ⟨wzw_362, List.forall_mem_cons.mpr ⟨wzw_363, List.forall_mem_cons.mpr ⟨wzw_40, List.forall_mem_cons.mpr ⟨wzw_41, List.forall_mem_cons.mpr ⟨wzw_42, (fun _ h => absurd h List.not_mem_nil)⟩⟩⟩⟩⟩⟩⟩⟩⟩⟩⟩⟩⟩⟩⟩, in_law_X7⟩) (by decide +kernel)
set_option maxRecDepth 20000 in
theorem g_law_X6_paste : GoodIn wz_law (wsV RL 189 RX6 yX6_paste wz_X6_paste) := goodIn_sub (show ∀ w ∈ (([Cond.methodLink RL 189 yX6_paste, Cond.instanceMethod yX6_paste, Cond.selects RX6 yX6_paste yX6_paste, Cond.initialized RX6, Cond.code yX6_paste cX6_paste 8 (some .int), Cond.fieldLink RX6 43 "HedgeMaze" "rows" "[LHedgeMaze$Row;", Cond.fieldLink RX6 214 "HedgeMaze$Row" "there" "Z", Cond.methodLink RX6 211 yX6_isSlot, Cond.static yX6_isSlot, Cond.initialized RX6, Cond.code yX6_isSlot cX6_isSlot 1 (some .boolean)] ++ wsX60) ++ wsX50), w ∈ wz_law from List.forall_mem_append.mpr ⟨List.forall_mem_append.mpr ⟨List.forall_mem_cons.mpr ⟨wzw_608, List.forall_mem_cons.mpr ⟨wzw_609, List.forall_mem_cons.mpr ⟨wzw_610, List.forall_mem_cons.mpr ⟨wzw_3, List.forall_mem_cons.mpr ⟨wzw_611, List.forall_mem_cons.mpr ⟨wzw_535, List.forall_mem_cons.mpr ⟨wzw_536, List.forall_mem_cons.mpr ⟨wzw_349, List.forall_mem_cons.mpr ⟨wzw_350, List.forall_mem_cons.mpr ⟨wzw_3, List.forall_mem_cons.mpr ⟨wzw_351, (fun _ h => absurd h List.not_mem_nil)⟩⟩⟩⟩⟩⟩⟩⟩⟩⟩⟩, in_law_X6⟩, in_law_X5⟩) (by decide +kernel)
set_option maxRecDepth 20000 in
theorem g_law_X7_paste : GoodIn wz_law (wsV RL 192 RX7 yX7_paste wz_X7_paste) := goodIn_sub (show ∀ w ∈ ([Cond.methodLink RL 192 yX7_paste, Cond.instanceMethod yX7_paste, Cond.selects RX7 yX7_paste yX7_paste, Cond.initialized RX7, Cond.code yX7_paste cX7_paste 7 (some .int), Cond.fieldLink RX7 80 "HedgeMazeModel" "thrown" "I", Cond.fieldLink RX7 7 "HedgeMazeModel" "width" "[I", Cond.methodLink RX7 89 yX7_isSlot, Cond.static yX7_isSlot, Cond.initialized RX7, Cond.code yX7_isSlot cX7_isSlot 1 (some .boolean), Cond.constantLong RX7 83 (3), Cond.methodLink RX7 85 yX7_in, Cond.static yX7_in, Cond.code yX7_in cX7_in 6 (some .boolean)] ++ wsX70), w ∈ wz_law from List.forall_mem_append.mpr ⟨List.forall_mem_cons.mpr ⟨wzw_612, List.forall_mem_cons.mpr ⟨wzw_613, List.forall_mem_cons.mpr ⟨wzw_614, List.forall_mem_cons.mpr ⟨wzw_8, List.forall_mem_cons.mpr ⟨wzw_615, List.forall_mem_cons.mpr ⟨wzw_25, List.forall_mem_cons.mpr ⟨wzw_541, List.forall_mem_cons.mpr ⟨wzw_360, List.forall_mem_cons.mpr ⟨wzw_361, List.forall_mem_cons.mpr ⟨wzw_8, List.forall_mem_cons.mpr ⟨wzw_362, List.forall_mem_cons.mpr ⟨wzw_363, List.forall_mem_cons.mpr ⟨wzw_40, List.forall_mem_cons.mpr ⟨wzw_41, List.forall_mem_cons.mpr ⟨wzw_42, (fun _ h => absurd h List.not_mem_nil)⟩⟩⟩⟩⟩⟩⟩⟩⟩⟩⟩⟩⟩⟩⟩, in_law_X7⟩) (by decide +kernel)
set_option maxRecDepth 20000 in
theorem g_law_X6_init : GoodIn wz_law wz_X6_init := goodIn_sub (show ∀ w ∈ ((((((([Cond.code yX6_init cX6_init 2 none, Cond.methodLink RX6 3 objectInit, Cond.instanceMethod objectInit, Cond.code objectInit ⟨#[0xb1]⟩ 1 none, Cond.arrayClass .byte, Cond.fieldLink RX6 9 "HedgeMaze" "tape" "[B", Cond.fieldLink RX6 13 "HedgeMaze" "tapeSize" "I", Cond.fieldLink RX6 17 "HedgeMaze" "faultNumber" "I", Cond.fieldLink RX6 20 "HedgeMaze" "faultPlace" "I", Cond.classLink RX6 23 RX4, Cond.instantiable RX4 10, Cond.initialized RX4, Cond.instanceMethod yX4_init, Cond.fieldLink RX6 26 "HedgeMaze" "reader" "LHedgeMaze$Reader;", Cond.classLink RX6 30 RX0, Cond.instantiable RX0 12, Cond.initialized RX0, Cond.instanceMethod yX0_init, Cond.fieldLink RX6 33 "HedgeMaze" "garden" "LHedgeMaze$Garden;", Cond.fieldLink RX6 37 "HedgeMaze" "images" "[LHedgeMaze$Garden;", Cond.classLink RX6 41 RX5, Cond.fieldLink RX6 43 "HedgeMaze" "rows" "[LHedgeMaze$Row;", Cond.classLink RX6 47 RX1, Cond.instantiable RX1 4, Cond.initialized RX1, Cond.instanceMethod yX1_init, Cond.fieldLink RX6 50 "HedgeMaze" "gardeners" "LHedgeMaze$Gardeners;", Cond.classLink RX6 54 RX2, Cond.instantiable RX2 3, Cond.initialized RX2, Cond.instanceMethod yX2_init, Cond.fieldLink RX6 57 "HedgeMaze" "host" "LHedgeMaze$Host;", Cond.arrayClass .int, Cond.fieldLink RX6 61 "HedgeMaze" "stepsThere" "[I", Cond.instantiable RX5 4, Cond.initialized RX5, Cond.instanceMethod yX5_init, Cond.code yX4_init cX4_init 1 none, Cond.methodLink RX4 3 objectInit, Cond.classLink RX4 9 RX0, Cond.fieldLink RX4 12 "HedgeMaze$Reader" "draft" "LHedgeMaze$Garden;", Cond.fieldLink RX4 18 "HedgeMaze$Reader" "faultNumber" "I", Cond.fieldLink RX4 22 "HedgeMaze$Reader" "faultPlace" "I", Cond.fieldLink RX4 25 "HedgeMaze$Reader" "tape" "[B", Cond.fieldLink RX4 29 "HedgeMaze$Reader" "tapeSize" "I", Cond.fieldLink RX4 32 "HedgeMaze$Reader" "kind" "I", Cond.fieldLink RX4 35 "HedgeMaze$Reader" "tokenStart" "I", Cond.fieldLink RX4 38 "HedgeMaze$Reader" "tokenEnd" "I", Cond.fieldLink RX4 41 "HedgeMaze$Reader" "numberPlace" "I", Cond.fieldLink RX4 44 "HedgeMaze$Reader" "hasLaw" "Z", Cond.code yX0_init cX0_init 1 none, Cond.methodLink RX0 3 objectInit, Cond.classLink RX0 9 RX3, Cond.instantiable RX3 9, Cond.initialized RX3, Cond.instanceMethod yX3_init, Cond.fieldLink RX0 12 "HedgeMaze$Garden" "plan" "LHedgeMaze$Plan;", Cond.fieldLink RX0 18 "HedgeMaze$Garden" "lines" "I", Cond.fieldLink RX0 22 "HedgeMaze$Garden" "hedges" "J", Cond.fieldLink RX0 26 "HedgeMaze$Garden" "walls" "J", Cond.fieldLink RX0 29 "HedgeMaze$Garden" "isNear" "Z", Cond.fieldLink RX0 33 "HedgeMaze$Garden" "letterCell" "I", Cond.fieldLink RX0 36 "HedgeMaze$Garden" "gateCount" "I", Cond.fieldLink RX0 39 "HedgeMaze$Garden" "gates" "[I", Cond.fieldLink RX0 43 "HedgeMaze$Garden" "guestCount" "I", Cond.fieldLink RX0 46 "HedgeMaze$Garden" "guests" "[I", Cond.fieldLink RX0 49 "HedgeMaze$Garden" "goneCount" "I", Cond.fieldLink RX0 52 "HedgeMaze$Garden" "goneNights" "[I", Cond.code yX3_init cX3_init 1 none, Cond.methodLink RX3 3 objectInit, Cond.fieldLink RX3 9 "HedgeMaze$Plan" "wide" "I", Cond.fieldLink RX3 15 "HedgeMaze$Plan" "deep" "I", Cond.fieldLink RX3 18 "HedgeMaze$Plan" "cellCount" "I", Cond.fieldLink RX3 21 "HedgeMaze$Plan" "sideCount" "I", Cond.fieldLink RX3 24 "HedgeMaze$Plan" "allSides" "J", Cond.fieldLink RX3 28 "HedgeMaze$Plan" "first" "[I", Cond.fieldLink RX3 32 "HedgeMaze$Plan" "other" "[I", Cond.arrayClass .long, Cond.fieldLink RX3 35 "HedgeMaze$Plan" "bits" "[J", Cond.fieldLink RX3 39 "HedgeMaze$Plan" "around" "[I", Cond.code yX1_init cX1_init 1 none, Cond.methodLink RX1 3 objectInit, Cond.fieldLink RX1 9 "HedgeMaze$Gardeners" "opened" "[I", Cond.fieldLink RX1 15 "HedgeMaze$Gardeners" "lastDrawn" "I", Cond.classLink RX1 19 "[[I", Cond.fieldLink RX1 21 "HedgeMaze$Gardeners" "lists" "[[I", Cond.fieldLink RX1 24 "HedgeMaze$Gardeners" "parts" "[I", Cond.code yX2_init cX2_init 1 none, Cond.methodLink RX2 3 objectInit, Cond.fieldLink RX2 9 "HedgeMaze$Host" "best" "[I", Cond.fieldLink RX2 15 "HedgeMaze$Host" "order" "[I", Cond.classLink RX2 18 "[[I", Cond.fieldLink RX2 20 "HedgeMaze$Host" "stepsFrom" "[[I", Cond.code yX5_init cX5_init 1 none, Cond.methodLink RX5 3 objectInit, Cond.fieldLink RX5 9 "HedgeMaze$Row" "there" "Z", Cond.fieldLink RX5 15 "HedgeMaze$Row" "width" "I", Cond.fieldLink RX5 19 "HedgeMaze$Row" "size" "I", Cond.fieldLink RX5 22 "HedgeMaze$Row" "numbers" "[J"] ++ wsX60) ++ wsX40) ++ wsX00) ++ wsX10) ++ wsX20) ++ wsX50) ++ wsX30), w ∈ wz_law from List.forall_mem_append.mpr ⟨List.forall_mem_append.mpr ⟨List.forall_mem_append.mpr ⟨List.forall_mem_append.mpr ⟨List.forall_mem_append.mpr ⟨List.forall_mem_append.mpr ⟨List.forall_mem_append.mpr ⟨List.forall_mem_cons.mpr ⟨wzw_616, List.forall_mem_cons.mpr ⟨wzw_617, List.forall_mem_cons.mpr ⟨wzw_552, List.forall_mem_cons.mpr ⟨wzw_553, List.forall_mem_cons.mpr ⟨wzw_618, List.forall_mem_cons.mpr ⟨wzw_20, List.forall_mem_cons.mpr ⟨wzw_15, List.forall_mem_cons.mpr ⟨wzw_49, List.forall_mem_cons.mpr ⟨wzw_51, List.forall_mem_cons.mpr ⟨wzw_619, List.forall_mem_cons.mpr ⟨wzw_620, List.forall_mem_cons.mpr ⟨wzw_58, List.forall_mem_cons.mpr ⟨wzw_621, List.forall_mem_cons.mpr ⟨wzw_47, List.forall_mem_cons.mpr ⟨wzw_547, List.forall_mem_cons.mpr ⟨wzw_548, List.forall_mem_cons.mpr ⟨wzw_76, List.forall_mem_cons.mpr ⟨wzw_549, List.forall_mem_cons.mpr ⟨wzw_52, List.forall_mem_cons.mpr ⟨wzw_546, List.forall_mem_cons.mpr ⟨wzw_622, List.forall_mem_cons.mpr ⟨wzw_535, List.forall_mem_cons.mpr ⟨wzw_623, List.forall_mem_cons.mpr ⟨wzw_624, List.forall_mem_cons.mpr ⟨wzw_625, List.forall_mem_cons.mpr ⟨wzw_626, List.forall_mem_cons.mpr ⟨wzw_627, List.forall_mem_cons.mpr ⟨wzw_628, List.forall_mem_cons.mpr ⟨wzw_629, List.forall_mem_cons.mpr ⟨wzw_630, List.forall_mem_cons.mpr ⟨wzw_631, List.forall_mem_cons.mpr ⟨wzw_632, List.forall_mem_cons.mpr ⟨wzw_557, List.forall_mem_cons.mpr ⟨wzw_633, List.forall_mem_cons.mpr ⟨wzw_634, List.forall_mem_cons.mpr ⟨wzw_585, List.forall_mem_cons.mpr ⟨wzw_635, List.forall_mem_cons.mpr ⟨wzw_636, List.forall_mem_cons.mpr ⟨wzw_637, List.forall_mem_cons.mpr ⟨wzw_638, List.forall_mem_cons.mpr ⟨wzw_70, List.forall_mem_cons.mpr ⟨wzw_66, List.forall_mem_cons.mpr ⟨wzw_67, List.forall_mem_cons.mpr ⟨wzw_60, List.forall_mem_cons.mpr ⟨wzw_65, List.forall_mem_cons.mpr ⟨wzw_71, List.forall_mem_cons.mpr ⟨wzw_107, List.forall_mem_cons.mpr ⟨wzw_68, List.forall_mem_cons.mpr ⟨wzw_639, List.forall_mem_cons.mpr ⟨wzw_69, List.forall_mem_cons.mpr ⟨wzw_550, List.forall_mem_cons.mpr ⟨wzw_551, List.forall_mem_cons.mpr ⟨wzw_554, List.forall_mem_cons.mpr ⟨wzw_555, List.forall_mem_cons.mpr ⟨wzw_90, List.forall_mem_cons.mpr ⟨wzw_556, List.forall_mem_cons.mpr ⟨wzw_78, List.forall_mem_cons.mpr ⟨wzw_79, List.forall_mem_cons.mpr ⟨wzw_80, List.forall_mem_cons.mpr ⟨wzw_81, List.forall_mem_cons.mpr ⟨wzw_82, List.forall_mem_cons.mpr ⟨wzw_83, List.forall_mem_cons.mpr ⟨wzw_84, List.forall_mem_cons.mpr ⟨wzw_114, List.forall_mem_cons.mpr ⟨wzw_85, List.forall_mem_cons.mpr ⟨wzw_119, List.forall_mem_cons.mpr ⟨wzw_86, List.forall_mem_cons.mpr ⟨wzw_120, List.forall_mem_cons.mpr ⟨wzw_558, List.forall_mem_cons.mpr ⟨wzw_559, List.forall_mem_cons.mpr ⟨wzw_93, List.forall_mem_cons.mpr ⟨wzw_94, List.forall_mem_cons.mpr ⟨wzw_95, List.forall_mem_cons.mpr ⟨wzw_96, List.forall_mem_cons.mpr ⟨wzw_97, List.forall_mem_cons.mpr ⟨wzw_560, List.forall_mem_cons.mpr ⟨wzw_561, List.forall_mem_cons.mpr ⟨wzw_562, List.forall_mem_cons.mpr ⟨wzw_563, List.forall_mem_cons.mpr ⟨wzw_98, List.forall_mem_cons.mpr ⟨wzw_640, List.forall_mem_cons.mpr ⟨wzw_641, List.forall_mem_cons.mpr ⟨wzw_642, List.forall_mem_cons.mpr ⟨wzw_643, List.forall_mem_cons.mpr ⟨wzw_644, List.forall_mem_cons.mpr ⟨wzw_645, List.forall_mem_cons.mpr ⟨wzw_646, List.forall_mem_cons.mpr ⟨wzw_647, List.forall_mem_cons.mpr ⟨wzw_648, List.forall_mem_cons.mpr ⟨wzw_649, List.forall_mem_cons.mpr ⟨wzw_650, List.forall_mem_cons.mpr ⟨wzw_651, List.forall_mem_cons.mpr ⟨wzw_652, List.forall_mem_cons.mpr ⟨wzw_653, List.forall_mem_cons.mpr ⟨wzw_654, List.forall_mem_cons.mpr ⟨wzw_587, List.forall_mem_cons.mpr ⟨wzw_588, List.forall_mem_cons.mpr ⟨wzw_589, List.forall_mem_cons.mpr ⟨wzw_590, (fun _ h => absurd h List.not_mem_nil)⟩⟩⟩⟩⟩⟩⟩⟩⟩⟩⟩⟩⟩⟩⟩⟩⟩⟩⟩⟩⟩⟩⟩⟩⟩⟩⟩⟩⟩⟩⟩⟩⟩⟩⟩⟩⟩⟩⟩⟩⟩⟩⟩⟩⟩⟩⟩⟩⟩⟩⟩⟩⟩⟩⟩⟩⟩⟩⟩⟩⟩⟩⟩⟩⟩⟩⟩⟩⟩⟩⟩⟩⟩⟩⟩⟩⟩⟩⟩⟩⟩⟩⟩⟩⟩⟩⟩⟩⟩⟩⟩⟩⟩⟩⟩⟩⟩⟩⟩, in_law_X6⟩, in_law_X4⟩, in_law_X0⟩, in_law_X1⟩, in_law_X2⟩, in_law_X5⟩, in_law_X3⟩) (by decide +kernel)
set_option maxRecDepth 20000 in
theorem g_law_X7_init : GoodIn wz_law wz_X7_init := goodIn_sub (show ∀ w ∈ ([Cond.code yX7_init cX7_init 2 none, Cond.methodLink RX7 1 objectInit, Cond.instanceMethod objectInit, Cond.code objectInit ⟨#[0xb1]⟩ 1 none, Cond.arrayClass .int, Cond.fieldLink RX7 7 "HedgeMazeModel" "width" "[I", Cond.fieldLink RX7 13 "HedgeMazeModel" "many" "[I", Cond.arrayClass .long, Cond.fieldLink RX7 16 "HedgeMazeModel" "cells" "[J", Cond.fieldLink RX7 20 "HedgeMazeModel" "moved" "[J", Cond.arrayClass .byte, Cond.fieldLink RX7 23 "HedgeMazeModel" "tape" "[B", Cond.fieldLink RX7 27 "HedgeMazeModel" "faultPlace" "I", Cond.fieldLink RX7 31 "HedgeMazeModel" "lines" "[I", Cond.fieldLink RX7 34 "HedgeMazeModel" "has" "[I", Cond.fieldLink RX7 37 "HedgeMazeModel" "state" "[I", Cond.fieldLink RX7 40 "HedgeMazeModel" "gate" "[I", Cond.fieldLink RX7 43 "HedgeMazeModel" "guest" "[I", Cond.fieldLink RX7 46 "HedgeMazeModel" "gone" "[I", Cond.arrayClass .boolean, Cond.fieldLink RX7 49 "HedgeMazeModel" "isKept" "[Z", Cond.fieldLink RX7 53 "HedgeMazeModel" "first" "[I", Cond.fieldLink RX7 56 "HedgeMazeModel" "second" "[I", Cond.fieldLink RX7 59 "HedgeMazeModel" "far" "[I", Cond.fieldLink RX7 62 "HedgeMazeModel" "wished" "[Z", Cond.fieldLink RX7 65 "HedgeMazeModel" "wasState" "[I", Cond.fieldLink RX7 68 "HedgeMazeModel" "isHere" "[Z", Cond.fieldLink RX7 71 "HedgeMazeModel" "round" "[I", Cond.fieldLink RX7 74 "HedgeMazeModel" "bestRound" "[I", Cond.fieldLink RX7 77 "HedgeMazeModel" "taken" "[I"] ++ wsX70), w ∈ wz_law from List.forall_mem_append.mpr ⟨List.forall_mem_cons.mpr ⟨wzw_655, List.forall_mem_cons.mpr ⟨wzw_656, List.forall_mem_cons.mpr ⟨wzw_552, List.forall_mem_cons.mpr ⟨wzw_553, List.forall_mem_cons.mpr ⟨wzw_557, List.forall_mem_cons.mpr ⟨wzw_541, List.forall_mem_cons.mpr ⟨wzw_598, List.forall_mem_cons.mpr ⟨wzw_562, List.forall_mem_cons.mpr ⟨wzw_599, List.forall_mem_cons.mpr ⟨wzw_657, List.forall_mem_cons.mpr ⟨wzw_618, List.forall_mem_cons.mpr ⟨wzw_31, List.forall_mem_cons.mpr ⟨wzw_166, List.forall_mem_cons.mpr ⟨wzw_126, List.forall_mem_cons.mpr ⟨wzw_132, List.forall_mem_cons.mpr ⟨wzw_134, List.forall_mem_cons.mpr ⟨wzw_171, List.forall_mem_cons.mpr ⟨wzw_172, List.forall_mem_cons.mpr ⟨wzw_173, List.forall_mem_cons.mpr ⟨wzw_658, List.forall_mem_cons.mpr ⟨wzw_569, List.forall_mem_cons.mpr ⟨wzw_659, List.forall_mem_cons.mpr ⟨wzw_660, List.forall_mem_cons.mpr ⟨wzw_661, List.forall_mem_cons.mpr ⟨wzw_662, List.forall_mem_cons.mpr ⟨wzw_663, List.forall_mem_cons.mpr ⟨wzw_664, List.forall_mem_cons.mpr ⟨wzw_665, List.forall_mem_cons.mpr ⟨wzw_666, List.forall_mem_cons.mpr ⟨wzw_667, (fun _ h => absurd h List.not_mem_nil)⟩⟩⟩⟩⟩⟩⟩⟩⟩⟩⟩⟩⟩⟩⟩⟩⟩⟩⟩⟩⟩⟩⟩⟩⟩⟩⟩⟩⟩⟩, in_law_X7⟩) (by decide +kernel)
theorem dL_law_0 : decode cL_law 0 = .ok (.new 7, 3) := by decide +kernel
theorem dL_law_3 : decode cL_law 3 = .ok (.dup, 1) := by decide +kernel
theorem dL_law_4 : decode cL_law 4 = .ok (.invokespecial 9, 3) := by decide +kernel
theorem dL_law_7 : decode cL_law 7 = .ok (.astore_n 1, 1) := by decide +kernel
theorem dL_law_8 : decode cL_law 8 = .ok (.new 10, 3) := by decide +kernel
theorem dL_law_11 : decode cL_law 11 = .ok (.dup, 1) := by decide +kernel
theorem dL_law_12 : decode cL_law 12 = .ok (.invokespecial 12, 3) := by decide +kernel
theorem dL_law_15 : decode cL_law 15 = .ok (.astore_n 2, 1) := by decide +kernel
theorem dL_law_16 : decode cL_law 16 = .ok (.iconst 0, 1) := by decide +kernel
theorem dL_law_17 : decode cL_law 17 = .ok (.istore_n 3, 1) := by decide +kernel
theorem dL_law_18 : decode cL_law 18 = .ok (.iload_n 3, 1) := by decide +kernel
theorem dL_law_19 : decode cL_law 19 = .ok (.aload_n 0, 1) := by decide +kernel
theorem dL_law_20 : decode cL_law 20 = .ok (.arraylength, 1) := by decide +kernel
theorem dL_law_21 : decode cL_law 21 = .ok (.bipush 6, 2) := by decide +kernel
theorem dL_law_23 : decode cL_law 23 = .ok (.isub, 1) := by decide +kernel
theorem dL_law_24 : decode cL_law 24 = .ok (.if_icmp .gt 1551, 3) := by decide +kernel
theorem dL_law_27 : decode cL_law 27 = .ok (.aload_n 0, 1) := by decide +kernel
theorem dL_law_28 : decode cL_law 28 = .ok (.iload_n 3, 1) := by decide +kernel
theorem dL_law_29 : decode cL_law 29 = .ok (.iaload, 1) := by decide +kernel
theorem dL_law_30 : decode cL_law 30 = .ok (.bipush 63, 2) := by decide +kernel
theorem dL_law_32 : decode cL_law 32 = .ok (.iand, 1) := by decide +kernel
theorem dL_law_33 : decode cL_law 33 = .ok (.tableswitch 1536 0 42 #[187, 250, 273, 286, 309, 322, 355, 388, 421, 464, 487, 520, 543, 566, 599, 612, 635, 668, 681, 704, 737, 760, 803, 846, 879, 902, 925, 948, 971, 1004, 1027, 1060, 1093, 1126, 1189, 1212, 1255, 1288, 1311, 1334, 1357, 1400, 1473], 187) := by decide +kernel
theorem dL_law_220 : decode cL_law 220 = .ok (.aload_n 1, 1) := by decide +kernel
theorem dL_law_221 : decode cL_law 221 = .ok (.aload_n 0, 1) := by decide +kernel
theorem dL_law_222 : decode cL_law 222 = .ok (.iload_n 3, 1) := by decide +kernel
theorem dL_law_223 : decode cL_law 223 = .ok (.iconst 1, 1) := by decide +kernel
theorem dL_law_224 : decode cL_law 224 = .ok (.iadd, 1) := by decide +kernel
theorem dL_law_225 : decode cL_law 225 = .ok (.iaload, 1) := by decide +kernel
theorem dL_law_226 : decode cL_law 226 = .ok (.aload_n 0, 1) := by decide +kernel
theorem dL_law_227 : decode cL_law 227 = .ok (.iload_n 3, 1) := by decide +kernel
theorem dL_law_228 : decode cL_law 228 = .ok (.iconst 2, 1) := by decide +kernel
theorem dL_law_229 : decode cL_law 229 = .ok (.iadd, 1) := by decide +kernel
theorem dL_law_230 : decode cL_law 230 = .ok (.iaload, 1) := by decide +kernel
theorem dL_law_231 : decode cL_law 231 = .ok (.aload_n 0, 1) := by decide +kernel
theorem dL_law_232 : decode cL_law 232 = .ok (.iload_n 3, 1) := by decide +kernel
theorem dL_law_233 : decode cL_law 233 = .ok (.iconst 3, 1) := by decide +kernel
theorem dL_law_234 : decode cL_law 234 = .ok (.iadd, 1) := by decide +kernel
theorem dL_law_235 : decode cL_law 235 = .ok (.iaload, 1) := by decide +kernel
theorem dL_law_236 : decode cL_law 236 = .ok (.aload_n 0, 1) := by decide +kernel
theorem dL_law_237 : decode cL_law 237 = .ok (.iload_n 3, 1) := by decide +kernel
theorem dL_law_238 : decode cL_law 238 = .ok (.iconst 4, 1) := by decide +kernel
theorem dL_law_239 : decode cL_law 239 = .ok (.iadd, 1) := by decide +kernel
theorem dL_law_240 : decode cL_law 240 = .ok (.iaload, 1) := by decide +kernel
theorem dL_law_241 : decode cL_law 241 = .ok (.aload_n 0, 1) := by decide +kernel
theorem dL_law_242 : decode cL_law 242 = .ok (.iload_n 3, 1) := by decide +kernel
theorem dL_law_243 : decode cL_law 243 = .ok (.iconst 5, 1) := by decide +kernel
theorem dL_law_244 : decode cL_law 244 = .ok (.iadd, 1) := by decide +kernel
theorem dL_law_245 : decode cL_law 245 = .ok (.iaload, 1) := by decide +kernel
theorem dL_law_246 : decode cL_law 246 = .ok (.invokevirtual 13, 3) := by decide +kernel
theorem dL_law_249 : decode cL_law 249 = .ok (.aload_n 2, 1) := by decide +kernel
theorem dL_law_250 : decode cL_law 250 = .ok (.aload_n 0, 1) := by decide +kernel
theorem dL_law_251 : decode cL_law 251 = .ok (.iload_n 3, 1) := by decide +kernel
theorem dL_law_252 : decode cL_law 252 = .ok (.iconst 1, 1) := by decide +kernel
theorem dL_law_253 : decode cL_law 253 = .ok (.iadd, 1) := by decide +kernel
theorem dL_law_254 : decode cL_law 254 = .ok (.iaload, 1) := by decide +kernel
theorem dL_law_255 : decode cL_law 255 = .ok (.aload_n 0, 1) := by decide +kernel
theorem dL_law_256 : decode cL_law 256 = .ok (.iload_n 3, 1) := by decide +kernel
theorem dL_law_257 : decode cL_law 257 = .ok (.iconst 2, 1) := by decide +kernel
theorem dL_law_258 : decode cL_law 258 = .ok (.iadd, 1) := by decide +kernel
theorem dL_law_259 : decode cL_law 259 = .ok (.iaload, 1) := by decide +kernel
theorem dL_law_260 : decode cL_law 260 = .ok (.aload_n 0, 1) := by decide +kernel
theorem dL_law_261 : decode cL_law 261 = .ok (.iload_n 3, 1) := by decide +kernel
theorem dL_law_262 : decode cL_law 262 = .ok (.iconst 3, 1) := by decide +kernel
theorem dL_law_263 : decode cL_law 263 = .ok (.iadd, 1) := by decide +kernel
theorem dL_law_264 : decode cL_law 264 = .ok (.iaload, 1) := by decide +kernel
theorem dL_law_265 : decode cL_law 265 = .ok (.aload_n 0, 1) := by decide +kernel
theorem dL_law_266 : decode cL_law 266 = .ok (.iload_n 3, 1) := by decide +kernel
theorem dL_law_267 : decode cL_law 267 = .ok (.iconst 4, 1) := by decide +kernel
theorem dL_law_268 : decode cL_law 268 = .ok (.iadd, 1) := by decide +kernel
theorem dL_law_269 : decode cL_law 269 = .ok (.iaload, 1) := by decide +kernel
theorem dL_law_270 : decode cL_law 270 = .ok (.aload_n 0, 1) := by decide +kernel
theorem dL_law_271 : decode cL_law 271 = .ok (.iload_n 3, 1) := by decide +kernel
theorem dL_law_272 : decode cL_law 272 = .ok (.iconst 5, 1) := by decide +kernel
theorem dL_law_273 : decode cL_law 273 = .ok (.iadd, 1) := by decide +kernel
theorem dL_law_274 : decode cL_law 274 = .ok (.iaload, 1) := by decide +kernel
theorem dL_law_275 : decode cL_law 275 = .ok (.invokevirtual 17, 3) := by decide +kernel
theorem dL_law_278 : decode cL_law 278 = .ok (.if_icmp .eq 1291, 3) := by decide +kernel
theorem dL_law_283 : decode cL_law 283 = .ok (.aload_n 1, 1) := by decide +kernel
theorem dL_law_284 : decode cL_law 284 = .ok (.aload_n 0, 1) := by decide +kernel
theorem dL_law_285 : decode cL_law 285 = .ok (.iload_n 3, 1) := by decide +kernel
theorem dL_law_286 : decode cL_law 286 = .ok (.iconst 1, 1) := by decide +kernel
theorem dL_law_287 : decode cL_law 287 = .ok (.iadd, 1) := by decide +kernel
theorem dL_law_288 : decode cL_law 288 = .ok (.iaload, 1) := by decide +kernel
theorem dL_law_289 : decode cL_law 289 = .ok (.invokevirtual 18, 3) := by decide +kernel
theorem dL_law_292 : decode cL_law 292 = .ok (.aload_n 2, 1) := by decide +kernel
theorem dL_law_293 : decode cL_law 293 = .ok (.aload_n 0, 1) := by decide +kernel
theorem dL_law_294 : decode cL_law 294 = .ok (.iload_n 3, 1) := by decide +kernel
theorem dL_law_295 : decode cL_law 295 = .ok (.iconst 1, 1) := by decide +kernel
theorem dL_law_296 : decode cL_law 296 = .ok (.iadd, 1) := by decide +kernel
theorem dL_law_297 : decode cL_law 297 = .ok (.iaload, 1) := by decide +kernel
theorem dL_law_298 : decode cL_law 298 = .ok (.invokevirtual 22, 3) := by decide +kernel
theorem dL_law_301 : decode cL_law 301 = .ok (.if_icmp .eq 1268, 3) := by decide +kernel
theorem dL_law_306 : decode cL_law 306 = .ok (.aload_n 1, 1) := by decide +kernel
theorem dL_law_307 : decode cL_law 307 = .ok (.invokevirtual 23, 3) := by decide +kernel
theorem dL_law_310 : decode cL_law 310 = .ok (.aload_n 2, 1) := by decide +kernel
theorem dL_law_311 : decode cL_law 311 = .ok (.invokevirtual 27, 3) := by decide +kernel
theorem dL_law_314 : decode cL_law 314 = .ok (.if_icmp .eq 1255, 3) := by decide +kernel
theorem dL_law_319 : decode cL_law 319 = .ok (.aload_n 1, 1) := by decide +kernel
theorem dL_law_320 : decode cL_law 320 = .ok (.aload_n 0, 1) := by decide +kernel
theorem dL_law_321 : decode cL_law 321 = .ok (.iload_n 3, 1) := by decide +kernel
theorem dL_law_322 : decode cL_law 322 = .ok (.iconst 1, 1) := by decide +kernel
theorem dL_law_323 : decode cL_law 323 = .ok (.iadd, 1) := by decide +kernel
theorem dL_law_324 : decode cL_law 324 = .ok (.iaload, 1) := by decide +kernel
theorem dL_law_325 : decode cL_law 325 = .ok (.invokevirtual 28, 3) := by decide +kernel
theorem dL_law_328 : decode cL_law 328 = .ok (.aload_n 2, 1) := by decide +kernel
theorem dL_law_329 : decode cL_law 329 = .ok (.aload_n 0, 1) := by decide +kernel
theorem dL_law_330 : decode cL_law 330 = .ok (.iload_n 3, 1) := by decide +kernel
theorem dL_law_331 : decode cL_law 331 = .ok (.iconst 1, 1) := by decide +kernel
theorem dL_law_332 : decode cL_law 332 = .ok (.iadd, 1) := by decide +kernel
theorem dL_law_333 : decode cL_law 333 = .ok (.iaload, 1) := by decide +kernel
theorem dL_law_334 : decode cL_law 334 = .ok (.invokevirtual 31, 3) := by decide +kernel
theorem dL_law_337 : decode cL_law 337 = .ok (.if_icmp .eq 1232, 3) := by decide +kernel
theorem dL_law_342 : decode cL_law 342 = .ok (.aload_n 1, 1) := by decide +kernel
theorem dL_law_343 : decode cL_law 343 = .ok (.invokevirtual 32, 3) := by decide +kernel
theorem dL_law_346 : decode cL_law 346 = .ok (.aload_n 2, 1) := by decide +kernel
theorem dL_law_347 : decode cL_law 347 = .ok (.invokevirtual 35, 3) := by decide +kernel
theorem dL_law_350 : decode cL_law 350 = .ok (.if_icmp .eq 1219, 3) := by decide +kernel
theorem dL_law_355 : decode cL_law 355 = .ok (.aload_n 1, 1) := by decide +kernel
theorem dL_law_356 : decode cL_law 356 = .ok (.aload_n 0, 1) := by decide +kernel
theorem dL_law_357 : decode cL_law 357 = .ok (.iload_n 3, 1) := by decide +kernel
theorem dL_law_358 : decode cL_law 358 = .ok (.iconst 1, 1) := by decide +kernel
theorem dL_law_359 : decode cL_law 359 = .ok (.iadd, 1) := by decide +kernel
theorem dL_law_360 : decode cL_law 360 = .ok (.iaload, 1) := by decide +kernel
theorem dL_law_361 : decode cL_law 361 = .ok (.aload_n 0, 1) := by decide +kernel
theorem dL_law_362 : decode cL_law 362 = .ok (.iload_n 3, 1) := by decide +kernel
theorem dL_law_363 : decode cL_law 363 = .ok (.iconst 2, 1) := by decide +kernel
theorem dL_law_364 : decode cL_law 364 = .ok (.iadd, 1) := by decide +kernel
theorem dL_law_365 : decode cL_law 365 = .ok (.iaload, 1) := by decide +kernel
theorem dL_law_366 : decode cL_law 366 = .ok (.invokevirtual 36, 3) := by decide +kernel
theorem dL_law_369 : decode cL_law 369 = .ok (.aload_n 2, 1) := by decide +kernel
theorem dL_law_370 : decode cL_law 370 = .ok (.aload_n 0, 1) := by decide +kernel
theorem dL_law_371 : decode cL_law 371 = .ok (.iload_n 3, 1) := by decide +kernel
theorem dL_law_372 : decode cL_law 372 = .ok (.iconst 1, 1) := by decide +kernel
theorem dL_law_373 : decode cL_law 373 = .ok (.iadd, 1) := by decide +kernel
theorem dL_law_374 : decode cL_law 374 = .ok (.iaload, 1) := by decide +kernel
theorem dL_law_375 : decode cL_law 375 = .ok (.aload_n 0, 1) := by decide +kernel
theorem dL_law_376 : decode cL_law 376 = .ok (.iload_n 3, 1) := by decide +kernel
theorem dL_law_377 : decode cL_law 377 = .ok (.iconst 2, 1) := by decide +kernel
theorem dL_law_378 : decode cL_law 378 = .ok (.iadd, 1) := by decide +kernel
theorem dL_law_379 : decode cL_law 379 = .ok (.iaload, 1) := by decide +kernel
theorem dL_law_380 : decode cL_law 380 = .ok (.invokevirtual 40, 3) := by decide +kernel
theorem dL_law_383 : decode cL_law 383 = .ok (.if_icmp .eq 1186, 3) := by decide +kernel
theorem dL_law_388 : decode cL_law 388 = .ok (.aload_n 1, 1) := by decide +kernel
theorem dL_law_389 : decode cL_law 389 = .ok (.aload_n 0, 1) := by decide +kernel
theorem dL_law_390 : decode cL_law 390 = .ok (.iload_n 3, 1) := by decide +kernel
theorem dL_law_391 : decode cL_law 391 = .ok (.iconst 1, 1) := by decide +kernel
theorem dL_law_392 : decode cL_law 392 = .ok (.iadd, 1) := by decide +kernel
theorem dL_law_393 : decode cL_law 393 = .ok (.iaload, 1) := by decide +kernel
theorem dL_law_394 : decode cL_law 394 = .ok (.aload_n 0, 1) := by decide +kernel
theorem dL_law_395 : decode cL_law 395 = .ok (.iload_n 3, 1) := by decide +kernel
theorem dL_law_396 : decode cL_law 396 = .ok (.iconst 2, 1) := by decide +kernel
theorem dL_law_397 : decode cL_law 397 = .ok (.iadd, 1) := by decide +kernel
theorem dL_law_398 : decode cL_law 398 = .ok (.iaload, 1) := by decide +kernel
theorem dL_law_399 : decode cL_law 399 = .ok (.invokevirtual 41, 3) := by decide +kernel
theorem dL_law_402 : decode cL_law 402 = .ok (.aload_n 2, 1) := by decide +kernel
theorem dL_law_403 : decode cL_law 403 = .ok (.aload_n 0, 1) := by decide +kernel
theorem dL_law_404 : decode cL_law 404 = .ok (.iload_n 3, 1) := by decide +kernel
theorem dL_law_405 : decode cL_law 405 = .ok (.iconst 1, 1) := by decide +kernel
theorem dL_law_406 : decode cL_law 406 = .ok (.iadd, 1) := by decide +kernel
theorem dL_law_407 : decode cL_law 407 = .ok (.iaload, 1) := by decide +kernel
theorem dL_law_408 : decode cL_law 408 = .ok (.aload_n 0, 1) := by decide +kernel
theorem dL_law_409 : decode cL_law 409 = .ok (.iload_n 3, 1) := by decide +kernel
theorem dL_law_410 : decode cL_law 410 = .ok (.iconst 2, 1) := by decide +kernel
theorem dL_law_411 : decode cL_law 411 = .ok (.iadd, 1) := by decide +kernel
theorem dL_law_412 : decode cL_law 412 = .ok (.iaload, 1) := by decide +kernel
theorem dL_law_413 : decode cL_law 413 = .ok (.invokevirtual 44, 3) := by decide +kernel
theorem dL_law_416 : decode cL_law 416 = .ok (.if_icmp .eq 1153, 3) := by decide +kernel
theorem dL_law_421 : decode cL_law 421 = .ok (.aload_n 1, 1) := by decide +kernel
theorem dL_law_422 : decode cL_law 422 = .ok (.aload_n 0, 1) := by decide +kernel
theorem dL_law_423 : decode cL_law 423 = .ok (.iload_n 3, 1) := by decide +kernel
theorem dL_law_424 : decode cL_law 424 = .ok (.iconst 1, 1) := by decide +kernel
theorem dL_law_425 : decode cL_law 425 = .ok (.iadd, 1) := by decide +kernel
theorem dL_law_426 : decode cL_law 426 = .ok (.iaload, 1) := by decide +kernel
theorem dL_law_427 : decode cL_law 427 = .ok (.aload_n 0, 1) := by decide +kernel
theorem dL_law_428 : decode cL_law 428 = .ok (.iload_n 3, 1) := by decide +kernel
theorem dL_law_429 : decode cL_law 429 = .ok (.iconst 2, 1) := by decide +kernel
theorem dL_law_430 : decode cL_law 430 = .ok (.iadd, 1) := by decide +kernel
theorem dL_law_431 : decode cL_law 431 = .ok (.iaload, 1) := by decide +kernel
theorem dL_law_432 : decode cL_law 432 = .ok (.invokevirtual 45, 3) := by decide +kernel
theorem dL_law_435 : decode cL_law 435 = .ok (.aload_n 2, 1) := by decide +kernel
theorem dL_law_436 : decode cL_law 436 = .ok (.aload_n 0, 1) := by decide +kernel
theorem dL_law_437 : decode cL_law 437 = .ok (.iload_n 3, 1) := by decide +kernel
theorem dL_law_438 : decode cL_law 438 = .ok (.iconst 1, 1) := by decide +kernel
theorem dL_law_439 : decode cL_law 439 = .ok (.iadd, 1) := by decide +kernel
theorem dL_law_440 : decode cL_law 440 = .ok (.iaload, 1) := by decide +kernel
theorem dL_law_441 : decode cL_law 441 = .ok (.aload_n 0, 1) := by decide +kernel
theorem dL_law_442 : decode cL_law 442 = .ok (.iload_n 3, 1) := by decide +kernel
theorem dL_law_443 : decode cL_law 443 = .ok (.iconst 2, 1) := by decide +kernel
theorem dL_law_444 : decode cL_law 444 = .ok (.iadd, 1) := by decide +kernel
theorem dL_law_445 : decode cL_law 445 = .ok (.iaload, 1) := by decide +kernel
theorem dL_law_446 : decode cL_law 446 = .ok (.invokevirtual 48, 3) := by decide +kernel
theorem dL_law_449 : decode cL_law 449 = .ok (.if_icmp .eq 1120, 3) := by decide +kernel
theorem dL_law_454 : decode cL_law 454 = .ok (.aload_n 1, 1) := by decide +kernel
theorem dL_law_455 : decode cL_law 455 = .ok (.aload_n 0, 1) := by decide +kernel
theorem dL_law_456 : decode cL_law 456 = .ok (.iload_n 3, 1) := by decide +kernel
theorem dL_law_457 : decode cL_law 457 = .ok (.iconst 1, 1) := by decide +kernel
theorem dL_law_458 : decode cL_law 458 = .ok (.iadd, 1) := by decide +kernel
theorem dL_law_459 : decode cL_law 459 = .ok (.iaload, 1) := by decide +kernel
theorem dL_law_460 : decode cL_law 460 = .ok (.aload_n 0, 1) := by decide +kernel
theorem dL_law_461 : decode cL_law 461 = .ok (.iload_n 3, 1) := by decide +kernel
theorem dL_law_462 : decode cL_law 462 = .ok (.iconst 2, 1) := by decide +kernel
theorem dL_law_463 : decode cL_law 463 = .ok (.iadd, 1) := by decide +kernel
theorem dL_law_464 : decode cL_law 464 = .ok (.iaload, 1) := by decide +kernel
theorem dL_law_465 : decode cL_law 465 = .ok (.aload_n 0, 1) := by decide +kernel
theorem dL_law_466 : decode cL_law 466 = .ok (.iload_n 3, 1) := by decide +kernel
theorem dL_law_467 : decode cL_law 467 = .ok (.iconst 3, 1) := by decide +kernel
theorem dL_law_468 : decode cL_law 468 = .ok (.iadd, 1) := by decide +kernel
theorem dL_law_469 : decode cL_law 469 = .ok (.iaload, 1) := by decide +kernel
theorem dL_law_470 : decode cL_law 470 = .ok (.invokevirtual 49, 3) := by decide +kernel
theorem dL_law_473 : decode cL_law 473 = .ok (.aload_n 2, 1) := by decide +kernel
theorem dL_law_474 : decode cL_law 474 = .ok (.aload_n 0, 1) := by decide +kernel
theorem dL_law_475 : decode cL_law 475 = .ok (.iload_n 3, 1) := by decide +kernel
theorem dL_law_476 : decode cL_law 476 = .ok (.iconst 1, 1) := by decide +kernel
theorem dL_law_477 : decode cL_law 477 = .ok (.iadd, 1) := by decide +kernel
theorem dL_law_478 : decode cL_law 478 = .ok (.iaload, 1) := by decide +kernel
theorem dL_law_479 : decode cL_law 479 = .ok (.aload_n 0, 1) := by decide +kernel
theorem dL_law_480 : decode cL_law 480 = .ok (.iload_n 3, 1) := by decide +kernel
theorem dL_law_481 : decode cL_law 481 = .ok (.iconst 2, 1) := by decide +kernel
theorem dL_law_482 : decode cL_law 482 = .ok (.iadd, 1) := by decide +kernel
theorem dL_law_483 : decode cL_law 483 = .ok (.iaload, 1) := by decide +kernel
theorem dL_law_484 : decode cL_law 484 = .ok (.aload_n 0, 1) := by decide +kernel
theorem dL_law_485 : decode cL_law 485 = .ok (.iload_n 3, 1) := by decide +kernel
theorem dL_law_486 : decode cL_law 486 = .ok (.iconst 3, 1) := by decide +kernel
theorem dL_law_487 : decode cL_law 487 = .ok (.iadd, 1) := by decide +kernel
theorem dL_law_488 : decode cL_law 488 = .ok (.iaload, 1) := by decide +kernel
theorem dL_law_489 : decode cL_law 489 = .ok (.invokevirtual 53, 3) := by decide +kernel
theorem dL_law_492 : decode cL_law 492 = .ok (.if_icmp .eq 1077, 3) := by decide +kernel
theorem dL_law_497 : decode cL_law 497 = .ok (.aload_n 1, 1) := by decide +kernel
theorem dL_law_498 : decode cL_law 498 = .ok (.aload_n 0, 1) := by decide +kernel
theorem dL_law_499 : decode cL_law 499 = .ok (.iload_n 3, 1) := by decide +kernel
theorem dL_law_500 : decode cL_law 500 = .ok (.iconst 1, 1) := by decide +kernel
theorem dL_law_501 : decode cL_law 501 = .ok (.iadd, 1) := by decide +kernel
theorem dL_law_502 : decode cL_law 502 = .ok (.iaload, 1) := by decide +kernel
theorem dL_law_503 : decode cL_law 503 = .ok (.invokevirtual 54, 3) := by decide +kernel
theorem dL_law_506 : decode cL_law 506 = .ok (.aload_n 2, 1) := by decide +kernel
theorem dL_law_507 : decode cL_law 507 = .ok (.aload_n 0, 1) := by decide +kernel
theorem dL_law_508 : decode cL_law 508 = .ok (.iload_n 3, 1) := by decide +kernel
theorem dL_law_509 : decode cL_law 509 = .ok (.iconst 1, 1) := by decide +kernel
theorem dL_law_510 : decode cL_law 510 = .ok (.iadd, 1) := by decide +kernel
theorem dL_law_511 : decode cL_law 511 = .ok (.iaload, 1) := by decide +kernel
theorem dL_law_512 : decode cL_law 512 = .ok (.invokevirtual 57, 3) := by decide +kernel
theorem dL_law_515 : decode cL_law 515 = .ok (.if_icmp .eq 1054, 3) := by decide +kernel
theorem dL_law_520 : decode cL_law 520 = .ok (.aload_n 1, 1) := by decide +kernel
theorem dL_law_521 : decode cL_law 521 = .ok (.aload_n 0, 1) := by decide +kernel
theorem dL_law_522 : decode cL_law 522 = .ok (.iload_n 3, 1) := by decide +kernel
theorem dL_law_523 : decode cL_law 523 = .ok (.iconst 1, 1) := by decide +kernel
theorem dL_law_524 : decode cL_law 524 = .ok (.iadd, 1) := by decide +kernel
theorem dL_law_525 : decode cL_law 525 = .ok (.iaload, 1) := by decide +kernel
theorem dL_law_526 : decode cL_law 526 = .ok (.aload_n 0, 1) := by decide +kernel
theorem dL_law_527 : decode cL_law 527 = .ok (.iload_n 3, 1) := by decide +kernel
theorem dL_law_528 : decode cL_law 528 = .ok (.iconst 2, 1) := by decide +kernel
theorem dL_law_529 : decode cL_law 529 = .ok (.iadd, 1) := by decide +kernel
theorem dL_law_530 : decode cL_law 530 = .ok (.iaload, 1) := by decide +kernel
theorem dL_law_531 : decode cL_law 531 = .ok (.invokevirtual 58, 3) := by decide +kernel
theorem dL_law_534 : decode cL_law 534 = .ok (.aload_n 2, 1) := by decide +kernel
theorem dL_law_535 : decode cL_law 535 = .ok (.aload_n 0, 1) := by decide +kernel
theorem dL_law_536 : decode cL_law 536 = .ok (.iload_n 3, 1) := by decide +kernel
theorem dL_law_537 : decode cL_law 537 = .ok (.iconst 1, 1) := by decide +kernel
theorem dL_law_538 : decode cL_law 538 = .ok (.iadd, 1) := by decide +kernel
theorem dL_law_539 : decode cL_law 539 = .ok (.iaload, 1) := by decide +kernel
theorem dL_law_540 : decode cL_law 540 = .ok (.aload_n 0, 1) := by decide +kernel
theorem dL_law_541 : decode cL_law 541 = .ok (.iload_n 3, 1) := by decide +kernel
theorem dL_law_542 : decode cL_law 542 = .ok (.iconst 2, 1) := by decide +kernel
theorem dL_law_543 : decode cL_law 543 = .ok (.iadd, 1) := by decide +kernel
theorem dL_law_544 : decode cL_law 544 = .ok (.iaload, 1) := by decide +kernel
theorem dL_law_545 : decode cL_law 545 = .ok (.invokevirtual 61, 3) := by decide +kernel
theorem dL_law_548 : decode cL_law 548 = .ok (.if_icmp .eq 1021, 3) := by decide +kernel
theorem dL_law_553 : decode cL_law 553 = .ok (.aload_n 1, 1) := by decide +kernel
theorem dL_law_554 : decode cL_law 554 = .ok (.aload_n 0, 1) := by decide +kernel
theorem dL_law_555 : decode cL_law 555 = .ok (.iload_n 3, 1) := by decide +kernel
theorem dL_law_556 : decode cL_law 556 = .ok (.iconst 1, 1) := by decide +kernel
theorem dL_law_557 : decode cL_law 557 = .ok (.iadd, 1) := by decide +kernel
theorem dL_law_558 : decode cL_law 558 = .ok (.iaload, 1) := by decide +kernel
theorem dL_law_559 : decode cL_law 559 = .ok (.invokevirtual 62, 3) := by decide +kernel
theorem dL_law_562 : decode cL_law 562 = .ok (.aload_n 2, 1) := by decide +kernel
theorem dL_law_563 : decode cL_law 563 = .ok (.aload_n 0, 1) := by decide +kernel
theorem dL_law_564 : decode cL_law 564 = .ok (.iload_n 3, 1) := by decide +kernel
theorem dL_law_565 : decode cL_law 565 = .ok (.iconst 1, 1) := by decide +kernel
theorem dL_law_566 : decode cL_law 566 = .ok (.iadd, 1) := by decide +kernel
theorem dL_law_567 : decode cL_law 567 = .ok (.iaload, 1) := by decide +kernel
theorem dL_law_568 : decode cL_law 568 = .ok (.invokevirtual 65, 3) := by decide +kernel
theorem dL_law_571 : decode cL_law 571 = .ok (.if_icmp .eq 998, 3) := by decide +kernel
theorem dL_law_576 : decode cL_law 576 = .ok (.aload_n 1, 1) := by decide +kernel
theorem dL_law_577 : decode cL_law 577 = .ok (.aload_n 0, 1) := by decide +kernel
theorem dL_law_578 : decode cL_law 578 = .ok (.iload_n 3, 1) := by decide +kernel
theorem dL_law_579 : decode cL_law 579 = .ok (.iconst 1, 1) := by decide +kernel
theorem dL_law_580 : decode cL_law 580 = .ok (.iadd, 1) := by decide +kernel
theorem dL_law_581 : decode cL_law 581 = .ok (.iaload, 1) := by decide +kernel
theorem dL_law_582 : decode cL_law 582 = .ok (.invokevirtual 66, 3) := by decide +kernel
theorem dL_law_585 : decode cL_law 585 = .ok (.aload_n 2, 1) := by decide +kernel
theorem dL_law_586 : decode cL_law 586 = .ok (.aload_n 0, 1) := by decide +kernel
theorem dL_law_587 : decode cL_law 587 = .ok (.iload_n 3, 1) := by decide +kernel
theorem dL_law_588 : decode cL_law 588 = .ok (.iconst 1, 1) := by decide +kernel
theorem dL_law_589 : decode cL_law 589 = .ok (.iadd, 1) := by decide +kernel
theorem dL_law_590 : decode cL_law 590 = .ok (.iaload, 1) := by decide +kernel
theorem dL_law_591 : decode cL_law 591 = .ok (.invokevirtual 69, 3) := by decide +kernel
theorem dL_law_594 : decode cL_law 594 = .ok (.if_icmp .eq 975, 3) := by decide +kernel
theorem dL_law_599 : decode cL_law 599 = .ok (.aload_n 1, 1) := by decide +kernel
theorem dL_law_600 : decode cL_law 600 = .ok (.aload_n 0, 1) := by decide +kernel
theorem dL_law_601 : decode cL_law 601 = .ok (.iload_n 3, 1) := by decide +kernel
theorem dL_law_602 : decode cL_law 602 = .ok (.iconst 1, 1) := by decide +kernel
theorem dL_law_603 : decode cL_law 603 = .ok (.iadd, 1) := by decide +kernel
theorem dL_law_604 : decode cL_law 604 = .ok (.iaload, 1) := by decide +kernel
theorem dL_law_605 : decode cL_law 605 = .ok (.aload_n 0, 1) := by decide +kernel
theorem dL_law_606 : decode cL_law 606 = .ok (.iload_n 3, 1) := by decide +kernel
theorem dL_law_607 : decode cL_law 607 = .ok (.iconst 2, 1) := by decide +kernel
theorem dL_law_608 : decode cL_law 608 = .ok (.iadd, 1) := by decide +kernel
theorem dL_law_609 : decode cL_law 609 = .ok (.iaload, 1) := by decide +kernel
theorem dL_law_610 : decode cL_law 610 = .ok (.invokevirtual 70, 3) := by decide +kernel
theorem dL_law_613 : decode cL_law 613 = .ok (.aload_n 2, 1) := by decide +kernel
theorem dL_law_614 : decode cL_law 614 = .ok (.aload_n 0, 1) := by decide +kernel
theorem dL_law_615 : decode cL_law 615 = .ok (.iload_n 3, 1) := by decide +kernel
theorem dL_law_616 : decode cL_law 616 = .ok (.iconst 1, 1) := by decide +kernel
theorem dL_law_617 : decode cL_law 617 = .ok (.iadd, 1) := by decide +kernel
theorem dL_law_618 : decode cL_law 618 = .ok (.iaload, 1) := by decide +kernel
theorem dL_law_619 : decode cL_law 619 = .ok (.aload_n 0, 1) := by decide +kernel
theorem dL_law_620 : decode cL_law 620 = .ok (.iload_n 3, 1) := by decide +kernel
theorem dL_law_621 : decode cL_law 621 = .ok (.iconst 2, 1) := by decide +kernel
theorem dL_law_622 : decode cL_law 622 = .ok (.iadd, 1) := by decide +kernel
theorem dL_law_623 : decode cL_law 623 = .ok (.iaload, 1) := by decide +kernel
theorem dL_law_624 : decode cL_law 624 = .ok (.invokevirtual 73, 3) := by decide +kernel
theorem dL_law_627 : decode cL_law 627 = .ok (.if_icmp .eq 942, 3) := by decide +kernel
theorem dL_law_632 : decode cL_law 632 = .ok (.aload_n 1, 1) := by decide +kernel
theorem dL_law_633 : decode cL_law 633 = .ok (.invokevirtual 74, 3) := by decide +kernel
theorem dL_law_636 : decode cL_law 636 = .ok (.aload_n 2, 1) := by decide +kernel
theorem dL_law_637 : decode cL_law 637 = .ok (.invokevirtual 77, 3) := by decide +kernel
theorem dL_law_640 : decode cL_law 640 = .ok (.if_icmp .eq 929, 3) := by decide +kernel
theorem dL_law_645 : decode cL_law 645 = .ok (.aload_n 1, 1) := by decide +kernel
theorem dL_law_646 : decode cL_law 646 = .ok (.aload_n 0, 1) := by decide +kernel
theorem dL_law_647 : decode cL_law 647 = .ok (.iload_n 3, 1) := by decide +kernel
theorem dL_law_648 : decode cL_law 648 = .ok (.iconst 1, 1) := by decide +kernel
theorem dL_law_649 : decode cL_law 649 = .ok (.iadd, 1) := by decide +kernel
theorem dL_law_650 : decode cL_law 650 = .ok (.iaload, 1) := by decide +kernel
theorem dL_law_651 : decode cL_law 651 = .ok (.invokevirtual 78, 3) := by decide +kernel
theorem dL_law_654 : decode cL_law 654 = .ok (.aload_n 2, 1) := by decide +kernel
theorem dL_law_655 : decode cL_law 655 = .ok (.aload_n 0, 1) := by decide +kernel
theorem dL_law_656 : decode cL_law 656 = .ok (.iload_n 3, 1) := by decide +kernel
theorem dL_law_657 : decode cL_law 657 = .ok (.iconst 1, 1) := by decide +kernel
theorem dL_law_658 : decode cL_law 658 = .ok (.iadd, 1) := by decide +kernel
theorem dL_law_659 : decode cL_law 659 = .ok (.iaload, 1) := by decide +kernel
theorem dL_law_660 : decode cL_law 660 = .ok (.invokevirtual 81, 3) := by decide +kernel
theorem dL_law_663 : decode cL_law 663 = .ok (.if_icmp .eq 906, 3) := by decide +kernel
theorem dL_law_668 : decode cL_law 668 = .ok (.aload_n 1, 1) := by decide +kernel
theorem dL_law_669 : decode cL_law 669 = .ok (.aload_n 0, 1) := by decide +kernel
theorem dL_law_670 : decode cL_law 670 = .ok (.iload_n 3, 1) := by decide +kernel
theorem dL_law_671 : decode cL_law 671 = .ok (.iconst 1, 1) := by decide +kernel
theorem dL_law_672 : decode cL_law 672 = .ok (.iadd, 1) := by decide +kernel
theorem dL_law_673 : decode cL_law 673 = .ok (.iaload, 1) := by decide +kernel
theorem dL_law_674 : decode cL_law 674 = .ok (.aload_n 0, 1) := by decide +kernel
theorem dL_law_675 : decode cL_law 675 = .ok (.iload_n 3, 1) := by decide +kernel
theorem dL_law_676 : decode cL_law 676 = .ok (.iconst 2, 1) := by decide +kernel
theorem dL_law_677 : decode cL_law 677 = .ok (.iadd, 1) := by decide +kernel
theorem dL_law_678 : decode cL_law 678 = .ok (.iaload, 1) := by decide +kernel
theorem dL_law_679 : decode cL_law 679 = .ok (.invokevirtual 82, 3) := by decide +kernel
theorem dL_law_682 : decode cL_law 682 = .ok (.aload_n 2, 1) := by decide +kernel
theorem dL_law_683 : decode cL_law 683 = .ok (.aload_n 0, 1) := by decide +kernel
theorem dL_law_684 : decode cL_law 684 = .ok (.iload_n 3, 1) := by decide +kernel
theorem dL_law_685 : decode cL_law 685 = .ok (.iconst 1, 1) := by decide +kernel
theorem dL_law_686 : decode cL_law 686 = .ok (.iadd, 1) := by decide +kernel
theorem dL_law_687 : decode cL_law 687 = .ok (.iaload, 1) := by decide +kernel
theorem dL_law_688 : decode cL_law 688 = .ok (.aload_n 0, 1) := by decide +kernel
theorem dL_law_689 : decode cL_law 689 = .ok (.iload_n 3, 1) := by decide +kernel
theorem dL_law_690 : decode cL_law 690 = .ok (.iconst 2, 1) := by decide +kernel
theorem dL_law_691 : decode cL_law 691 = .ok (.iadd, 1) := by decide +kernel
theorem dL_law_692 : decode cL_law 692 = .ok (.iaload, 1) := by decide +kernel
theorem dL_law_693 : decode cL_law 693 = .ok (.invokevirtual 85, 3) := by decide +kernel
theorem dL_law_696 : decode cL_law 696 = .ok (.if_icmp .eq 873, 3) := by decide +kernel
theorem dL_law_701 : decode cL_law 701 = .ok (.aload_n 1, 1) := by decide +kernel
theorem dL_law_702 : decode cL_law 702 = .ok (.invokevirtual 86, 3) := by decide +kernel
theorem dL_law_705 : decode cL_law 705 = .ok (.aload_n 2, 1) := by decide +kernel
theorem dL_law_706 : decode cL_law 706 = .ok (.invokevirtual 89, 3) := by decide +kernel
theorem dL_law_709 : decode cL_law 709 = .ok (.if_icmp .eq 860, 3) := by decide +kernel
theorem dL_law_714 : decode cL_law 714 = .ok (.aload_n 1, 1) := by decide +kernel
theorem dL_law_715 : decode cL_law 715 = .ok (.aload_n 0, 1) := by decide +kernel
theorem dL_law_716 : decode cL_law 716 = .ok (.iload_n 3, 1) := by decide +kernel
theorem dL_law_717 : decode cL_law 717 = .ok (.iconst 1, 1) := by decide +kernel
theorem dL_law_718 : decode cL_law 718 = .ok (.iadd, 1) := by decide +kernel
theorem dL_law_719 : decode cL_law 719 = .ok (.iaload, 1) := by decide +kernel
theorem dL_law_720 : decode cL_law 720 = .ok (.invokevirtual 90, 3) := by decide +kernel
theorem dL_law_723 : decode cL_law 723 = .ok (.aload_n 2, 1) := by decide +kernel
theorem dL_law_724 : decode cL_law 724 = .ok (.aload_n 0, 1) := by decide +kernel
theorem dL_law_725 : decode cL_law 725 = .ok (.iload_n 3, 1) := by decide +kernel
theorem dL_law_726 : decode cL_law 726 = .ok (.iconst 1, 1) := by decide +kernel
theorem dL_law_727 : decode cL_law 727 = .ok (.iadd, 1) := by decide +kernel
theorem dL_law_728 : decode cL_law 728 = .ok (.iaload, 1) := by decide +kernel
theorem dL_law_729 : decode cL_law 729 = .ok (.invokevirtual 93, 3) := by decide +kernel
theorem dL_law_732 : decode cL_law 732 = .ok (.if_icmp .eq 837, 3) := by decide +kernel
theorem dL_law_737 : decode cL_law 737 = .ok (.aload_n 1, 1) := by decide +kernel
theorem dL_law_738 : decode cL_law 738 = .ok (.aload_n 0, 1) := by decide +kernel
theorem dL_law_739 : decode cL_law 739 = .ok (.iload_n 3, 1) := by decide +kernel
theorem dL_law_740 : decode cL_law 740 = .ok (.iconst 1, 1) := by decide +kernel
theorem dL_law_741 : decode cL_law 741 = .ok (.iadd, 1) := by decide +kernel
theorem dL_law_742 : decode cL_law 742 = .ok (.iaload, 1) := by decide +kernel
theorem dL_law_743 : decode cL_law 743 = .ok (.aload_n 0, 1) := by decide +kernel
theorem dL_law_744 : decode cL_law 744 = .ok (.iload_n 3, 1) := by decide +kernel
theorem dL_law_745 : decode cL_law 745 = .ok (.iconst 2, 1) := by decide +kernel
theorem dL_law_746 : decode cL_law 746 = .ok (.iadd, 1) := by decide +kernel
theorem dL_law_747 : decode cL_law 747 = .ok (.iaload, 1) := by decide +kernel
theorem dL_law_748 : decode cL_law 748 = .ok (.invokevirtual 94, 3) := by decide +kernel
theorem dL_law_751 : decode cL_law 751 = .ok (.aload_n 2, 1) := by decide +kernel
theorem dL_law_752 : decode cL_law 752 = .ok (.aload_n 0, 1) := by decide +kernel
theorem dL_law_753 : decode cL_law 753 = .ok (.iload_n 3, 1) := by decide +kernel
theorem dL_law_754 : decode cL_law 754 = .ok (.iconst 1, 1) := by decide +kernel
theorem dL_law_755 : decode cL_law 755 = .ok (.iadd, 1) := by decide +kernel
theorem dL_law_756 : decode cL_law 756 = .ok (.iaload, 1) := by decide +kernel
theorem dL_law_757 : decode cL_law 757 = .ok (.aload_n 0, 1) := by decide +kernel
theorem dL_law_758 : decode cL_law 758 = .ok (.iload_n 3, 1) := by decide +kernel
theorem dL_law_759 : decode cL_law 759 = .ok (.iconst 2, 1) := by decide +kernel
theorem dL_law_760 : decode cL_law 760 = .ok (.iadd, 1) := by decide +kernel
theorem dL_law_761 : decode cL_law 761 = .ok (.iaload, 1) := by decide +kernel
theorem dL_law_762 : decode cL_law 762 = .ok (.invokevirtual 97, 3) := by decide +kernel
theorem dL_law_765 : decode cL_law 765 = .ok (.if_icmp .eq 804, 3) := by decide +kernel
theorem dL_law_770 : decode cL_law 770 = .ok (.aload_n 1, 1) := by decide +kernel
theorem dL_law_771 : decode cL_law 771 = .ok (.aload_n 0, 1) := by decide +kernel
theorem dL_law_772 : decode cL_law 772 = .ok (.iload_n 3, 1) := by decide +kernel
theorem dL_law_773 : decode cL_law 773 = .ok (.iconst 1, 1) := by decide +kernel
theorem dL_law_774 : decode cL_law 774 = .ok (.iadd, 1) := by decide +kernel
theorem dL_law_775 : decode cL_law 775 = .ok (.iaload, 1) := by decide +kernel
theorem dL_law_776 : decode cL_law 776 = .ok (.invokevirtual 98, 3) := by decide +kernel
theorem dL_law_779 : decode cL_law 779 = .ok (.aload_n 2, 1) := by decide +kernel
theorem dL_law_780 : decode cL_law 780 = .ok (.aload_n 0, 1) := by decide +kernel
theorem dL_law_781 : decode cL_law 781 = .ok (.iload_n 3, 1) := by decide +kernel
theorem dL_law_782 : decode cL_law 782 = .ok (.iconst 1, 1) := by decide +kernel
theorem dL_law_783 : decode cL_law 783 = .ok (.iadd, 1) := by decide +kernel
theorem dL_law_784 : decode cL_law 784 = .ok (.iaload, 1) := by decide +kernel
theorem dL_law_785 : decode cL_law 785 = .ok (.invokevirtual 101, 3) := by decide +kernel
theorem dL_law_788 : decode cL_law 788 = .ok (.if_icmp .eq 781, 3) := by decide +kernel
theorem dL_law_793 : decode cL_law 793 = .ok (.aload_n 1, 1) := by decide +kernel
theorem dL_law_794 : decode cL_law 794 = .ok (.aload_n 0, 1) := by decide +kernel
theorem dL_law_795 : decode cL_law 795 = .ok (.iload_n 3, 1) := by decide +kernel
theorem dL_law_796 : decode cL_law 796 = .ok (.iconst 1, 1) := by decide +kernel
theorem dL_law_797 : decode cL_law 797 = .ok (.iadd, 1) := by decide +kernel
theorem dL_law_798 : decode cL_law 798 = .ok (.iaload, 1) := by decide +kernel
theorem dL_law_799 : decode cL_law 799 = .ok (.aload_n 0, 1) := by decide +kernel
theorem dL_law_800 : decode cL_law 800 = .ok (.iload_n 3, 1) := by decide +kernel
theorem dL_law_801 : decode cL_law 801 = .ok (.iconst 2, 1) := by decide +kernel
theorem dL_law_802 : decode cL_law 802 = .ok (.iadd, 1) := by decide +kernel
theorem dL_law_803 : decode cL_law 803 = .ok (.iaload, 1) := by decide +kernel
theorem dL_law_804 : decode cL_law 804 = .ok (.aload_n 0, 1) := by decide +kernel
theorem dL_law_805 : decode cL_law 805 = .ok (.iload_n 3, 1) := by decide +kernel
theorem dL_law_806 : decode cL_law 806 = .ok (.iconst 3, 1) := by decide +kernel
theorem dL_law_807 : decode cL_law 807 = .ok (.iadd, 1) := by decide +kernel
theorem dL_law_808 : decode cL_law 808 = .ok (.iaload, 1) := by decide +kernel
theorem dL_law_809 : decode cL_law 809 = .ok (.invokevirtual 102, 3) := by decide +kernel
theorem dL_law_812 : decode cL_law 812 = .ok (.aload_n 2, 1) := by decide +kernel
theorem dL_law_813 : decode cL_law 813 = .ok (.aload_n 0, 1) := by decide +kernel
theorem dL_law_814 : decode cL_law 814 = .ok (.iload_n 3, 1) := by decide +kernel
theorem dL_law_815 : decode cL_law 815 = .ok (.iconst 1, 1) := by decide +kernel
theorem dL_law_816 : decode cL_law 816 = .ok (.iadd, 1) := by decide +kernel
theorem dL_law_817 : decode cL_law 817 = .ok (.iaload, 1) := by decide +kernel
theorem dL_law_818 : decode cL_law 818 = .ok (.aload_n 0, 1) := by decide +kernel
theorem dL_law_819 : decode cL_law 819 = .ok (.iload_n 3, 1) := by decide +kernel
theorem dL_law_820 : decode cL_law 820 = .ok (.iconst 2, 1) := by decide +kernel
theorem dL_law_821 : decode cL_law 821 = .ok (.iadd, 1) := by decide +kernel
theorem dL_law_822 : decode cL_law 822 = .ok (.iaload, 1) := by decide +kernel
theorem dL_law_823 : decode cL_law 823 = .ok (.aload_n 0, 1) := by decide +kernel
theorem dL_law_824 : decode cL_law 824 = .ok (.iload_n 3, 1) := by decide +kernel
theorem dL_law_825 : decode cL_law 825 = .ok (.iconst 3, 1) := by decide +kernel
theorem dL_law_826 : decode cL_law 826 = .ok (.iadd, 1) := by decide +kernel
theorem dL_law_827 : decode cL_law 827 = .ok (.iaload, 1) := by decide +kernel
theorem dL_law_828 : decode cL_law 828 = .ok (.invokevirtual 105, 3) := by decide +kernel
theorem dL_law_831 : decode cL_law 831 = .ok (.if_icmp .eq 738, 3) := by decide +kernel
theorem dL_law_836 : decode cL_law 836 = .ok (.aload_n 1, 1) := by decide +kernel
theorem dL_law_837 : decode cL_law 837 = .ok (.aload_n 0, 1) := by decide +kernel
theorem dL_law_838 : decode cL_law 838 = .ok (.iload_n 3, 1) := by decide +kernel
theorem dL_law_839 : decode cL_law 839 = .ok (.iconst 1, 1) := by decide +kernel
theorem dL_law_840 : decode cL_law 840 = .ok (.iadd, 1) := by decide +kernel
theorem dL_law_841 : decode cL_law 841 = .ok (.iaload, 1) := by decide +kernel
theorem dL_law_842 : decode cL_law 842 = .ok (.aload_n 0, 1) := by decide +kernel
theorem dL_law_843 : decode cL_law 843 = .ok (.iload_n 3, 1) := by decide +kernel
theorem dL_law_844 : decode cL_law 844 = .ok (.iconst 2, 1) := by decide +kernel
theorem dL_law_845 : decode cL_law 845 = .ok (.iadd, 1) := by decide +kernel
theorem dL_law_846 : decode cL_law 846 = .ok (.iaload, 1) := by decide +kernel
theorem dL_law_847 : decode cL_law 847 = .ok (.aload_n 0, 1) := by decide +kernel
theorem dL_law_848 : decode cL_law 848 = .ok (.iload_n 3, 1) := by decide +kernel
theorem dL_law_849 : decode cL_law 849 = .ok (.iconst 3, 1) := by decide +kernel
theorem dL_law_850 : decode cL_law 850 = .ok (.iadd, 1) := by decide +kernel
theorem dL_law_851 : decode cL_law 851 = .ok (.iaload, 1) := by decide +kernel
theorem dL_law_852 : decode cL_law 852 = .ok (.invokevirtual 106, 3) := by decide +kernel
theorem dL_law_855 : decode cL_law 855 = .ok (.aload_n 2, 1) := by decide +kernel
theorem dL_law_856 : decode cL_law 856 = .ok (.aload_n 0, 1) := by decide +kernel
theorem dL_law_857 : decode cL_law 857 = .ok (.iload_n 3, 1) := by decide +kernel
theorem dL_law_858 : decode cL_law 858 = .ok (.iconst 1, 1) := by decide +kernel
theorem dL_law_859 : decode cL_law 859 = .ok (.iadd, 1) := by decide +kernel
theorem dL_law_860 : decode cL_law 860 = .ok (.iaload, 1) := by decide +kernel
theorem dL_law_861 : decode cL_law 861 = .ok (.aload_n 0, 1) := by decide +kernel
theorem dL_law_862 : decode cL_law 862 = .ok (.iload_n 3, 1) := by decide +kernel
theorem dL_law_863 : decode cL_law 863 = .ok (.iconst 2, 1) := by decide +kernel
theorem dL_law_864 : decode cL_law 864 = .ok (.iadd, 1) := by decide +kernel
theorem dL_law_865 : decode cL_law 865 = .ok (.iaload, 1) := by decide +kernel
theorem dL_law_866 : decode cL_law 866 = .ok (.aload_n 0, 1) := by decide +kernel
theorem dL_law_867 : decode cL_law 867 = .ok (.iload_n 3, 1) := by decide +kernel
theorem dL_law_868 : decode cL_law 868 = .ok (.iconst 3, 1) := by decide +kernel
theorem dL_law_869 : decode cL_law 869 = .ok (.iadd, 1) := by decide +kernel
theorem dL_law_870 : decode cL_law 870 = .ok (.iaload, 1) := by decide +kernel
theorem dL_law_871 : decode cL_law 871 = .ok (.invokevirtual 109, 3) := by decide +kernel
theorem dL_law_874 : decode cL_law 874 = .ok (.if_icmp .eq 695, 3) := by decide +kernel
theorem dL_law_879 : decode cL_law 879 = .ok (.aload_n 1, 1) := by decide +kernel
theorem dL_law_880 : decode cL_law 880 = .ok (.aload_n 0, 1) := by decide +kernel
theorem dL_law_881 : decode cL_law 881 = .ok (.iload_n 3, 1) := by decide +kernel
theorem dL_law_882 : decode cL_law 882 = .ok (.iconst 1, 1) := by decide +kernel
theorem dL_law_883 : decode cL_law 883 = .ok (.iadd, 1) := by decide +kernel
theorem dL_law_884 : decode cL_law 884 = .ok (.iaload, 1) := by decide +kernel
theorem dL_law_885 : decode cL_law 885 = .ok (.aload_n 0, 1) := by decide +kernel
theorem dL_law_886 : decode cL_law 886 = .ok (.iload_n 3, 1) := by decide +kernel
theorem dL_law_887 : decode cL_law 887 = .ok (.iconst 2, 1) := by decide +kernel
theorem dL_law_888 : decode cL_law 888 = .ok (.iadd, 1) := by decide +kernel
theorem dL_law_889 : decode cL_law 889 = .ok (.iaload, 1) := by decide +kernel
theorem dL_law_890 : decode cL_law 890 = .ok (.invokevirtual 110, 3) := by decide +kernel
theorem dL_law_893 : decode cL_law 893 = .ok (.aload_n 2, 1) := by decide +kernel
theorem dL_law_894 : decode cL_law 894 = .ok (.aload_n 0, 1) := by decide +kernel
theorem dL_law_895 : decode cL_law 895 = .ok (.iload_n 3, 1) := by decide +kernel
theorem dL_law_896 : decode cL_law 896 = .ok (.iconst 1, 1) := by decide +kernel
theorem dL_law_897 : decode cL_law 897 = .ok (.iadd, 1) := by decide +kernel
theorem dL_law_898 : decode cL_law 898 = .ok (.iaload, 1) := by decide +kernel
theorem dL_law_899 : decode cL_law 899 = .ok (.aload_n 0, 1) := by decide +kernel
theorem dL_law_900 : decode cL_law 900 = .ok (.iload_n 3, 1) := by decide +kernel
theorem dL_law_901 : decode cL_law 901 = .ok (.iconst 2, 1) := by decide +kernel
theorem dL_law_902 : decode cL_law 902 = .ok (.iadd, 1) := by decide +kernel
theorem dL_law_903 : decode cL_law 903 = .ok (.iaload, 1) := by decide +kernel
theorem dL_law_904 : decode cL_law 904 = .ok (.invokevirtual 113, 3) := by decide +kernel
theorem dL_law_907 : decode cL_law 907 = .ok (.if_icmp .eq 662, 3) := by decide +kernel
theorem dL_law_912 : decode cL_law 912 = .ok (.aload_n 1, 1) := by decide +kernel
theorem dL_law_913 : decode cL_law 913 = .ok (.aload_n 0, 1) := by decide +kernel
theorem dL_law_914 : decode cL_law 914 = .ok (.iload_n 3, 1) := by decide +kernel
theorem dL_law_915 : decode cL_law 915 = .ok (.iconst 1, 1) := by decide +kernel
theorem dL_law_916 : decode cL_law 916 = .ok (.iadd, 1) := by decide +kernel
theorem dL_law_917 : decode cL_law 917 = .ok (.iaload, 1) := by decide +kernel
theorem dL_law_918 : decode cL_law 918 = .ok (.invokevirtual 114, 3) := by decide +kernel
theorem dL_law_921 : decode cL_law 921 = .ok (.aload_n 2, 1) := by decide +kernel
theorem dL_law_922 : decode cL_law 922 = .ok (.aload_n 0, 1) := by decide +kernel
theorem dL_law_923 : decode cL_law 923 = .ok (.iload_n 3, 1) := by decide +kernel
theorem dL_law_924 : decode cL_law 924 = .ok (.iconst 1, 1) := by decide +kernel
theorem dL_law_925 : decode cL_law 925 = .ok (.iadd, 1) := by decide +kernel
theorem dL_law_926 : decode cL_law 926 = .ok (.iaload, 1) := by decide +kernel
theorem dL_law_927 : decode cL_law 927 = .ok (.invokevirtual 117, 3) := by decide +kernel
theorem dL_law_930 : decode cL_law 930 = .ok (.if_icmp .eq 639, 3) := by decide +kernel
theorem dL_law_935 : decode cL_law 935 = .ok (.aload_n 1, 1) := by decide +kernel
theorem dL_law_936 : decode cL_law 936 = .ok (.aload_n 0, 1) := by decide +kernel
theorem dL_law_937 : decode cL_law 937 = .ok (.iload_n 3, 1) := by decide +kernel
theorem dL_law_938 : decode cL_law 938 = .ok (.iconst 1, 1) := by decide +kernel
theorem dL_law_939 : decode cL_law 939 = .ok (.iadd, 1) := by decide +kernel
theorem dL_law_940 : decode cL_law 940 = .ok (.iaload, 1) := by decide +kernel
theorem dL_law_941 : decode cL_law 941 = .ok (.invokevirtual 118, 3) := by decide +kernel
theorem dL_law_944 : decode cL_law 944 = .ok (.aload_n 2, 1) := by decide +kernel
theorem dL_law_945 : decode cL_law 945 = .ok (.aload_n 0, 1) := by decide +kernel
theorem dL_law_946 : decode cL_law 946 = .ok (.iload_n 3, 1) := by decide +kernel
theorem dL_law_947 : decode cL_law 947 = .ok (.iconst 1, 1) := by decide +kernel
theorem dL_law_948 : decode cL_law 948 = .ok (.iadd, 1) := by decide +kernel
theorem dL_law_949 : decode cL_law 949 = .ok (.iaload, 1) := by decide +kernel
theorem dL_law_950 : decode cL_law 950 = .ok (.invokevirtual 121, 3) := by decide +kernel
theorem dL_law_953 : decode cL_law 953 = .ok (.if_icmp .eq 616, 3) := by decide +kernel
theorem dL_law_958 : decode cL_law 958 = .ok (.aload_n 1, 1) := by decide +kernel
theorem dL_law_959 : decode cL_law 959 = .ok (.aload_n 0, 1) := by decide +kernel
theorem dL_law_960 : decode cL_law 960 = .ok (.iload_n 3, 1) := by decide +kernel
theorem dL_law_961 : decode cL_law 961 = .ok (.iconst 1, 1) := by decide +kernel
theorem dL_law_962 : decode cL_law 962 = .ok (.iadd, 1) := by decide +kernel
theorem dL_law_963 : decode cL_law 963 = .ok (.iaload, 1) := by decide +kernel
theorem dL_law_964 : decode cL_law 964 = .ok (.invokevirtual 122, 3) := by decide +kernel
theorem dL_law_967 : decode cL_law 967 = .ok (.aload_n 2, 1) := by decide +kernel
theorem dL_law_968 : decode cL_law 968 = .ok (.aload_n 0, 1) := by decide +kernel
theorem dL_law_969 : decode cL_law 969 = .ok (.iload_n 3, 1) := by decide +kernel
theorem dL_law_970 : decode cL_law 970 = .ok (.iconst 1, 1) := by decide +kernel
theorem dL_law_971 : decode cL_law 971 = .ok (.iadd, 1) := by decide +kernel
theorem dL_law_972 : decode cL_law 972 = .ok (.iaload, 1) := by decide +kernel
theorem dL_law_973 : decode cL_law 973 = .ok (.invokevirtual 125, 3) := by decide +kernel
theorem dL_law_976 : decode cL_law 976 = .ok (.if_icmp .eq 593, 3) := by decide +kernel
theorem dL_law_981 : decode cL_law 981 = .ok (.aload_n 1, 1) := by decide +kernel
theorem dL_law_982 : decode cL_law 982 = .ok (.aload_n 0, 1) := by decide +kernel
theorem dL_law_983 : decode cL_law 983 = .ok (.iload_n 3, 1) := by decide +kernel
theorem dL_law_984 : decode cL_law 984 = .ok (.iconst 1, 1) := by decide +kernel
theorem dL_law_985 : decode cL_law 985 = .ok (.iadd, 1) := by decide +kernel
theorem dL_law_986 : decode cL_law 986 = .ok (.iaload, 1) := by decide +kernel
theorem dL_law_987 : decode cL_law 987 = .ok (.invokevirtual 126, 3) := by decide +kernel
theorem dL_law_990 : decode cL_law 990 = .ok (.aload_n 2, 1) := by decide +kernel
theorem dL_law_991 : decode cL_law 991 = .ok (.aload_n 0, 1) := by decide +kernel
theorem dL_law_992 : decode cL_law 992 = .ok (.iload_n 3, 1) := by decide +kernel
theorem dL_law_993 : decode cL_law 993 = .ok (.iconst 1, 1) := by decide +kernel
theorem dL_law_994 : decode cL_law 994 = .ok (.iadd, 1) := by decide +kernel
theorem dL_law_995 : decode cL_law 995 = .ok (.iaload, 1) := by decide +kernel
theorem dL_law_996 : decode cL_law 996 = .ok (.invokevirtual 129, 3) := by decide +kernel
theorem dL_law_999 : decode cL_law 999 = .ok (.if_icmp .eq 570, 3) := by decide +kernel
theorem dL_law_1004 : decode cL_law 1004 = .ok (.aload_n 1, 1) := by decide +kernel
theorem dL_law_1005 : decode cL_law 1005 = .ok (.aload_n 0, 1) := by decide +kernel
theorem dL_law_1006 : decode cL_law 1006 = .ok (.iload_n 3, 1) := by decide +kernel
theorem dL_law_1007 : decode cL_law 1007 = .ok (.iconst 1, 1) := by decide +kernel
theorem dL_law_1008 : decode cL_law 1008 = .ok (.iadd, 1) := by decide +kernel
theorem dL_law_1009 : decode cL_law 1009 = .ok (.iaload, 1) := by decide +kernel
theorem dL_law_1010 : decode cL_law 1010 = .ok (.aload_n 0, 1) := by decide +kernel
theorem dL_law_1011 : decode cL_law 1011 = .ok (.iload_n 3, 1) := by decide +kernel
theorem dL_law_1012 : decode cL_law 1012 = .ok (.iconst 2, 1) := by decide +kernel
theorem dL_law_1013 : decode cL_law 1013 = .ok (.iadd, 1) := by decide +kernel
theorem dL_law_1014 : decode cL_law 1014 = .ok (.iaload, 1) := by decide +kernel
theorem dL_law_1015 : decode cL_law 1015 = .ok (.invokevirtual 130, 3) := by decide +kernel
theorem dL_law_1018 : decode cL_law 1018 = .ok (.aload_n 2, 1) := by decide +kernel
theorem dL_law_1019 : decode cL_law 1019 = .ok (.aload_n 0, 1) := by decide +kernel
theorem dL_law_1020 : decode cL_law 1020 = .ok (.iload_n 3, 1) := by decide +kernel
theorem dL_law_1021 : decode cL_law 1021 = .ok (.iconst 1, 1) := by decide +kernel
theorem dL_law_1022 : decode cL_law 1022 = .ok (.iadd, 1) := by decide +kernel
theorem dL_law_1023 : decode cL_law 1023 = .ok (.iaload, 1) := by decide +kernel
theorem dL_law_1024 : decode cL_law 1024 = .ok (.aload_n 0, 1) := by decide +kernel
theorem dL_law_1025 : decode cL_law 1025 = .ok (.iload_n 3, 1) := by decide +kernel
theorem dL_law_1026 : decode cL_law 1026 = .ok (.iconst 2, 1) := by decide +kernel
theorem dL_law_1027 : decode cL_law 1027 = .ok (.iadd, 1) := by decide +kernel
theorem dL_law_1028 : decode cL_law 1028 = .ok (.iaload, 1) := by decide +kernel
theorem dL_law_1029 : decode cL_law 1029 = .ok (.invokevirtual 133, 3) := by decide +kernel
theorem dL_law_1032 : decode cL_law 1032 = .ok (.if_icmp .eq 537, 3) := by decide +kernel
theorem dL_law_1037 : decode cL_law 1037 = .ok (.aload_n 1, 1) := by decide +kernel
theorem dL_law_1038 : decode cL_law 1038 = .ok (.aload_n 0, 1) := by decide +kernel
theorem dL_law_1039 : decode cL_law 1039 = .ok (.iload_n 3, 1) := by decide +kernel
theorem dL_law_1040 : decode cL_law 1040 = .ok (.iconst 1, 1) := by decide +kernel
theorem dL_law_1041 : decode cL_law 1041 = .ok (.iadd, 1) := by decide +kernel
theorem dL_law_1042 : decode cL_law 1042 = .ok (.iaload, 1) := by decide +kernel
theorem dL_law_1043 : decode cL_law 1043 = .ok (.invokevirtual 134, 3) := by decide +kernel
theorem dL_law_1046 : decode cL_law 1046 = .ok (.aload_n 2, 1) := by decide +kernel
theorem dL_law_1047 : decode cL_law 1047 = .ok (.aload_n 0, 1) := by decide +kernel
theorem dL_law_1048 : decode cL_law 1048 = .ok (.iload_n 3, 1) := by decide +kernel
theorem dL_law_1049 : decode cL_law 1049 = .ok (.iconst 1, 1) := by decide +kernel
theorem dL_law_1050 : decode cL_law 1050 = .ok (.iadd, 1) := by decide +kernel
theorem dL_law_1051 : decode cL_law 1051 = .ok (.iaload, 1) := by decide +kernel
theorem dL_law_1052 : decode cL_law 1052 = .ok (.invokevirtual 137, 3) := by decide +kernel
theorem dL_law_1055 : decode cL_law 1055 = .ok (.if_icmp .eq 514, 3) := by decide +kernel
theorem dL_law_1060 : decode cL_law 1060 = .ok (.aload_n 1, 1) := by decide +kernel
theorem dL_law_1061 : decode cL_law 1061 = .ok (.aload_n 0, 1) := by decide +kernel
theorem dL_law_1062 : decode cL_law 1062 = .ok (.iload_n 3, 1) := by decide +kernel
theorem dL_law_1063 : decode cL_law 1063 = .ok (.iconst 1, 1) := by decide +kernel
theorem dL_law_1064 : decode cL_law 1064 = .ok (.iadd, 1) := by decide +kernel
theorem dL_law_1065 : decode cL_law 1065 = .ok (.iaload, 1) := by decide +kernel
theorem dL_law_1066 : decode cL_law 1066 = .ok (.aload_n 0, 1) := by decide +kernel
theorem dL_law_1067 : decode cL_law 1067 = .ok (.iload_n 3, 1) := by decide +kernel
theorem dL_law_1068 : decode cL_law 1068 = .ok (.iconst 2, 1) := by decide +kernel
theorem dL_law_1069 : decode cL_law 1069 = .ok (.iadd, 1) := by decide +kernel
theorem dL_law_1070 : decode cL_law 1070 = .ok (.iaload, 1) := by decide +kernel
theorem dL_law_1071 : decode cL_law 1071 = .ok (.invokevirtual 138, 3) := by decide +kernel
theorem dL_law_1074 : decode cL_law 1074 = .ok (.aload_n 2, 1) := by decide +kernel
theorem dL_law_1075 : decode cL_law 1075 = .ok (.aload_n 0, 1) := by decide +kernel
theorem dL_law_1076 : decode cL_law 1076 = .ok (.iload_n 3, 1) := by decide +kernel
theorem dL_law_1077 : decode cL_law 1077 = .ok (.iconst 1, 1) := by decide +kernel
theorem dL_law_1078 : decode cL_law 1078 = .ok (.iadd, 1) := by decide +kernel
theorem dL_law_1079 : decode cL_law 1079 = .ok (.iaload, 1) := by decide +kernel
theorem dL_law_1080 : decode cL_law 1080 = .ok (.aload_n 0, 1) := by decide +kernel
theorem dL_law_1081 : decode cL_law 1081 = .ok (.iload_n 3, 1) := by decide +kernel
theorem dL_law_1082 : decode cL_law 1082 = .ok (.iconst 2, 1) := by decide +kernel
theorem dL_law_1083 : decode cL_law 1083 = .ok (.iadd, 1) := by decide +kernel
theorem dL_law_1084 : decode cL_law 1084 = .ok (.iaload, 1) := by decide +kernel
theorem dL_law_1085 : decode cL_law 1085 = .ok (.invokevirtual 141, 3) := by decide +kernel
theorem dL_law_1088 : decode cL_law 1088 = .ok (.if_icmp .eq 481, 3) := by decide +kernel
theorem dL_law_1093 : decode cL_law 1093 = .ok (.aload_n 1, 1) := by decide +kernel
theorem dL_law_1094 : decode cL_law 1094 = .ok (.aload_n 0, 1) := by decide +kernel
theorem dL_law_1095 : decode cL_law 1095 = .ok (.iload_n 3, 1) := by decide +kernel
theorem dL_law_1096 : decode cL_law 1096 = .ok (.iconst 1, 1) := by decide +kernel
theorem dL_law_1097 : decode cL_law 1097 = .ok (.iadd, 1) := by decide +kernel
theorem dL_law_1098 : decode cL_law 1098 = .ok (.iaload, 1) := by decide +kernel
theorem dL_law_1099 : decode cL_law 1099 = .ok (.aload_n 0, 1) := by decide +kernel
theorem dL_law_1100 : decode cL_law 1100 = .ok (.iload_n 3, 1) := by decide +kernel
theorem dL_law_1101 : decode cL_law 1101 = .ok (.iconst 2, 1) := by decide +kernel
theorem dL_law_1102 : decode cL_law 1102 = .ok (.iadd, 1) := by decide +kernel
theorem dL_law_1103 : decode cL_law 1103 = .ok (.iaload, 1) := by decide +kernel
theorem dL_law_1104 : decode cL_law 1104 = .ok (.invokevirtual 142, 3) := by decide +kernel
theorem dL_law_1107 : decode cL_law 1107 = .ok (.aload_n 2, 1) := by decide +kernel
theorem dL_law_1108 : decode cL_law 1108 = .ok (.aload_n 0, 1) := by decide +kernel
theorem dL_law_1109 : decode cL_law 1109 = .ok (.iload_n 3, 1) := by decide +kernel
theorem dL_law_1110 : decode cL_law 1110 = .ok (.iconst 1, 1) := by decide +kernel
theorem dL_law_1111 : decode cL_law 1111 = .ok (.iadd, 1) := by decide +kernel
theorem dL_law_1112 : decode cL_law 1112 = .ok (.iaload, 1) := by decide +kernel
theorem dL_law_1113 : decode cL_law 1113 = .ok (.aload_n 0, 1) := by decide +kernel
theorem dL_law_1114 : decode cL_law 1114 = .ok (.iload_n 3, 1) := by decide +kernel
theorem dL_law_1115 : decode cL_law 1115 = .ok (.iconst 2, 1) := by decide +kernel
theorem dL_law_1116 : decode cL_law 1116 = .ok (.iadd, 1) := by decide +kernel
theorem dL_law_1117 : decode cL_law 1117 = .ok (.iaload, 1) := by decide +kernel
theorem dL_law_1118 : decode cL_law 1118 = .ok (.invokevirtual 145, 3) := by decide +kernel
theorem dL_law_1121 : decode cL_law 1121 = .ok (.if_icmp .eq 448, 3) := by decide +kernel
theorem dL_law_1126 : decode cL_law 1126 = .ok (.aload_n 1, 1) := by decide +kernel
theorem dL_law_1127 : decode cL_law 1127 = .ok (.aload_n 0, 1) := by decide +kernel
theorem dL_law_1128 : decode cL_law 1128 = .ok (.iload_n 3, 1) := by decide +kernel
theorem dL_law_1129 : decode cL_law 1129 = .ok (.iconst 1, 1) := by decide +kernel
theorem dL_law_1130 : decode cL_law 1130 = .ok (.iadd, 1) := by decide +kernel
theorem dL_law_1131 : decode cL_law 1131 = .ok (.iaload, 1) := by decide +kernel
theorem dL_law_1132 : decode cL_law 1132 = .ok (.aload_n 0, 1) := by decide +kernel
theorem dL_law_1133 : decode cL_law 1133 = .ok (.iload_n 3, 1) := by decide +kernel
theorem dL_law_1134 : decode cL_law 1134 = .ok (.iconst 2, 1) := by decide +kernel
theorem dL_law_1135 : decode cL_law 1135 = .ok (.iadd, 1) := by decide +kernel
theorem dL_law_1136 : decode cL_law 1136 = .ok (.iaload, 1) := by decide +kernel
theorem dL_law_1137 : decode cL_law 1137 = .ok (.invokevirtual 146, 3) := by decide +kernel
theorem dL_law_1140 : decode cL_law 1140 = .ok (.aload_n 2, 1) := by decide +kernel
theorem dL_law_1141 : decode cL_law 1141 = .ok (.aload_n 0, 1) := by decide +kernel
theorem dL_law_1142 : decode cL_law 1142 = .ok (.iload_n 3, 1) := by decide +kernel
theorem dL_law_1143 : decode cL_law 1143 = .ok (.iconst 1, 1) := by decide +kernel
theorem dL_law_1144 : decode cL_law 1144 = .ok (.iadd, 1) := by decide +kernel
theorem dL_law_1145 : decode cL_law 1145 = .ok (.iaload, 1) := by decide +kernel
theorem dL_law_1146 : decode cL_law 1146 = .ok (.aload_n 0, 1) := by decide +kernel
theorem dL_law_1147 : decode cL_law 1147 = .ok (.iload_n 3, 1) := by decide +kernel
theorem dL_law_1148 : decode cL_law 1148 = .ok (.iconst 2, 1) := by decide +kernel
theorem dL_law_1149 : decode cL_law 1149 = .ok (.iadd, 1) := by decide +kernel
theorem dL_law_1150 : decode cL_law 1150 = .ok (.iaload, 1) := by decide +kernel
theorem dL_law_1151 : decode cL_law 1151 = .ok (.invokevirtual 149, 3) := by decide +kernel
theorem dL_law_1154 : decode cL_law 1154 = .ok (.if_icmp .eq 415, 3) := by decide +kernel
theorem dL_law_1159 : decode cL_law 1159 = .ok (.aload_n 1, 1) := by decide +kernel
theorem dL_law_1160 : decode cL_law 1160 = .ok (.aload_n 0, 1) := by decide +kernel
theorem dL_law_1161 : decode cL_law 1161 = .ok (.iload_n 3, 1) := by decide +kernel
theorem dL_law_1162 : decode cL_law 1162 = .ok (.iconst 1, 1) := by decide +kernel
theorem dL_law_1163 : decode cL_law 1163 = .ok (.iadd, 1) := by decide +kernel
theorem dL_law_1164 : decode cL_law 1164 = .ok (.iaload, 1) := by decide +kernel
theorem dL_law_1165 : decode cL_law 1165 = .ok (.aload_n 0, 1) := by decide +kernel
theorem dL_law_1166 : decode cL_law 1166 = .ok (.iload_n 3, 1) := by decide +kernel
theorem dL_law_1167 : decode cL_law 1167 = .ok (.iconst 2, 1) := by decide +kernel
theorem dL_law_1168 : decode cL_law 1168 = .ok (.iadd, 1) := by decide +kernel
theorem dL_law_1169 : decode cL_law 1169 = .ok (.iaload, 1) := by decide +kernel
theorem dL_law_1170 : decode cL_law 1170 = .ok (.aload_n 0, 1) := by decide +kernel
theorem dL_law_1171 : decode cL_law 1171 = .ok (.iload_n 3, 1) := by decide +kernel
theorem dL_law_1172 : decode cL_law 1172 = .ok (.iconst 3, 1) := by decide +kernel
theorem dL_law_1173 : decode cL_law 1173 = .ok (.iadd, 1) := by decide +kernel
theorem dL_law_1174 : decode cL_law 1174 = .ok (.iaload, 1) := by decide +kernel
theorem dL_law_1175 : decode cL_law 1175 = .ok (.aload_n 0, 1) := by decide +kernel
theorem dL_law_1176 : decode cL_law 1176 = .ok (.iload_n 3, 1) := by decide +kernel
theorem dL_law_1177 : decode cL_law 1177 = .ok (.iconst 4, 1) := by decide +kernel
theorem dL_law_1178 : decode cL_law 1178 = .ok (.iadd, 1) := by decide +kernel
theorem dL_law_1179 : decode cL_law 1179 = .ok (.iaload, 1) := by decide +kernel
theorem dL_law_1180 : decode cL_law 1180 = .ok (.aload_n 0, 1) := by decide +kernel
theorem dL_law_1181 : decode cL_law 1181 = .ok (.iload_n 3, 1) := by decide +kernel
theorem dL_law_1182 : decode cL_law 1182 = .ok (.iconst 5, 1) := by decide +kernel
theorem dL_law_1183 : decode cL_law 1183 = .ok (.iadd, 1) := by decide +kernel
theorem dL_law_1184 : decode cL_law 1184 = .ok (.iaload, 1) := by decide +kernel
theorem dL_law_1185 : decode cL_law 1185 = .ok (.invokevirtual 150, 3) := by decide +kernel
theorem dL_law_1188 : decode cL_law 1188 = .ok (.aload_n 2, 1) := by decide +kernel
theorem dL_law_1189 : decode cL_law 1189 = .ok (.aload_n 0, 1) := by decide +kernel
theorem dL_law_1190 : decode cL_law 1190 = .ok (.iload_n 3, 1) := by decide +kernel
theorem dL_law_1191 : decode cL_law 1191 = .ok (.iconst 1, 1) := by decide +kernel
theorem dL_law_1192 : decode cL_law 1192 = .ok (.iadd, 1) := by decide +kernel
theorem dL_law_1193 : decode cL_law 1193 = .ok (.iaload, 1) := by decide +kernel
theorem dL_law_1194 : decode cL_law 1194 = .ok (.aload_n 0, 1) := by decide +kernel
theorem dL_law_1195 : decode cL_law 1195 = .ok (.iload_n 3, 1) := by decide +kernel
theorem dL_law_1196 : decode cL_law 1196 = .ok (.iconst 2, 1) := by decide +kernel
theorem dL_law_1197 : decode cL_law 1197 = .ok (.iadd, 1) := by decide +kernel
theorem dL_law_1198 : decode cL_law 1198 = .ok (.iaload, 1) := by decide +kernel
theorem dL_law_1199 : decode cL_law 1199 = .ok (.aload_n 0, 1) := by decide +kernel
theorem dL_law_1200 : decode cL_law 1200 = .ok (.iload_n 3, 1) := by decide +kernel
theorem dL_law_1201 : decode cL_law 1201 = .ok (.iconst 3, 1) := by decide +kernel
theorem dL_law_1202 : decode cL_law 1202 = .ok (.iadd, 1) := by decide +kernel
theorem dL_law_1203 : decode cL_law 1203 = .ok (.iaload, 1) := by decide +kernel
theorem dL_law_1204 : decode cL_law 1204 = .ok (.aload_n 0, 1) := by decide +kernel
theorem dL_law_1205 : decode cL_law 1205 = .ok (.iload_n 3, 1) := by decide +kernel
theorem dL_law_1206 : decode cL_law 1206 = .ok (.iconst 4, 1) := by decide +kernel
theorem dL_law_1207 : decode cL_law 1207 = .ok (.iadd, 1) := by decide +kernel
theorem dL_law_1208 : decode cL_law 1208 = .ok (.iaload, 1) := by decide +kernel
theorem dL_law_1209 : decode cL_law 1209 = .ok (.aload_n 0, 1) := by decide +kernel
theorem dL_law_1210 : decode cL_law 1210 = .ok (.iload_n 3, 1) := by decide +kernel
theorem dL_law_1211 : decode cL_law 1211 = .ok (.iconst 5, 1) := by decide +kernel
theorem dL_law_1212 : decode cL_law 1212 = .ok (.iadd, 1) := by decide +kernel
theorem dL_law_1213 : decode cL_law 1213 = .ok (.iaload, 1) := by decide +kernel
theorem dL_law_1214 : decode cL_law 1214 = .ok (.invokevirtual 153, 3) := by decide +kernel
theorem dL_law_1217 : decode cL_law 1217 = .ok (.if_icmp .eq 352, 3) := by decide +kernel
theorem dL_law_1222 : decode cL_law 1222 = .ok (.aload_n 1, 1) := by decide +kernel
theorem dL_law_1223 : decode cL_law 1223 = .ok (.aload_n 0, 1) := by decide +kernel
theorem dL_law_1224 : decode cL_law 1224 = .ok (.iload_n 3, 1) := by decide +kernel
theorem dL_law_1225 : decode cL_law 1225 = .ok (.iconst 1, 1) := by decide +kernel
theorem dL_law_1226 : decode cL_law 1226 = .ok (.iadd, 1) := by decide +kernel
theorem dL_law_1227 : decode cL_law 1227 = .ok (.iaload, 1) := by decide +kernel
theorem dL_law_1228 : decode cL_law 1228 = .ok (.invokevirtual 154, 3) := by decide +kernel
theorem dL_law_1231 : decode cL_law 1231 = .ok (.aload_n 2, 1) := by decide +kernel
theorem dL_law_1232 : decode cL_law 1232 = .ok (.aload_n 0, 1) := by decide +kernel
theorem dL_law_1233 : decode cL_law 1233 = .ok (.iload_n 3, 1) := by decide +kernel
theorem dL_law_1234 : decode cL_law 1234 = .ok (.iconst 1, 1) := by decide +kernel
theorem dL_law_1235 : decode cL_law 1235 = .ok (.iadd, 1) := by decide +kernel
theorem dL_law_1236 : decode cL_law 1236 = .ok (.iaload, 1) := by decide +kernel
theorem dL_law_1237 : decode cL_law 1237 = .ok (.invokevirtual 157, 3) := by decide +kernel
theorem dL_law_1240 : decode cL_law 1240 = .ok (.if_icmp .eq 329, 3) := by decide +kernel
theorem dL_law_1245 : decode cL_law 1245 = .ok (.aload_n 1, 1) := by decide +kernel
theorem dL_law_1246 : decode cL_law 1246 = .ok (.aload_n 0, 1) := by decide +kernel
theorem dL_law_1247 : decode cL_law 1247 = .ok (.iload_n 3, 1) := by decide +kernel
theorem dL_law_1248 : decode cL_law 1248 = .ok (.iconst 1, 1) := by decide +kernel
theorem dL_law_1249 : decode cL_law 1249 = .ok (.iadd, 1) := by decide +kernel
theorem dL_law_1250 : decode cL_law 1250 = .ok (.iaload, 1) := by decide +kernel
theorem dL_law_1251 : decode cL_law 1251 = .ok (.aload_n 0, 1) := by decide +kernel
theorem dL_law_1252 : decode cL_law 1252 = .ok (.iload_n 3, 1) := by decide +kernel
theorem dL_law_1253 : decode cL_law 1253 = .ok (.iconst 2, 1) := by decide +kernel
theorem dL_law_1254 : decode cL_law 1254 = .ok (.iadd, 1) := by decide +kernel
theorem dL_law_1255 : decode cL_law 1255 = .ok (.iaload, 1) := by decide +kernel
theorem dL_law_1256 : decode cL_law 1256 = .ok (.aload_n 0, 1) := by decide +kernel
theorem dL_law_1257 : decode cL_law 1257 = .ok (.iload_n 3, 1) := by decide +kernel
theorem dL_law_1258 : decode cL_law 1258 = .ok (.iconst 3, 1) := by decide +kernel
theorem dL_law_1259 : decode cL_law 1259 = .ok (.iadd, 1) := by decide +kernel
theorem dL_law_1260 : decode cL_law 1260 = .ok (.iaload, 1) := by decide +kernel
theorem dL_law_1261 : decode cL_law 1261 = .ok (.invokevirtual 158, 3) := by decide +kernel
theorem dL_law_1264 : decode cL_law 1264 = .ok (.aload_n 2, 1) := by decide +kernel
theorem dL_law_1265 : decode cL_law 1265 = .ok (.aload_n 0, 1) := by decide +kernel
theorem dL_law_1266 : decode cL_law 1266 = .ok (.iload_n 3, 1) := by decide +kernel
theorem dL_law_1267 : decode cL_law 1267 = .ok (.iconst 1, 1) := by decide +kernel
theorem dL_law_1268 : decode cL_law 1268 = .ok (.iadd, 1) := by decide +kernel
theorem dL_law_1269 : decode cL_law 1269 = .ok (.iaload, 1) := by decide +kernel
theorem dL_law_1270 : decode cL_law 1270 = .ok (.aload_n 0, 1) := by decide +kernel
theorem dL_law_1271 : decode cL_law 1271 = .ok (.iload_n 3, 1) := by decide +kernel
theorem dL_law_1272 : decode cL_law 1272 = .ok (.iconst 2, 1) := by decide +kernel
theorem dL_law_1273 : decode cL_law 1273 = .ok (.iadd, 1) := by decide +kernel
theorem dL_law_1274 : decode cL_law 1274 = .ok (.iaload, 1) := by decide +kernel
theorem dL_law_1275 : decode cL_law 1275 = .ok (.aload_n 0, 1) := by decide +kernel
theorem dL_law_1276 : decode cL_law 1276 = .ok (.iload_n 3, 1) := by decide +kernel
theorem dL_law_1277 : decode cL_law 1277 = .ok (.iconst 3, 1) := by decide +kernel
theorem dL_law_1278 : decode cL_law 1278 = .ok (.iadd, 1) := by decide +kernel
theorem dL_law_1279 : decode cL_law 1279 = .ok (.iaload, 1) := by decide +kernel
theorem dL_law_1280 : decode cL_law 1280 = .ok (.invokevirtual 161, 3) := by decide +kernel
theorem dL_law_1283 : decode cL_law 1283 = .ok (.if_icmp .eq 286, 3) := by decide +kernel
theorem dL_law_1288 : decode cL_law 1288 = .ok (.aload_n 1, 1) := by decide +kernel
theorem dL_law_1289 : decode cL_law 1289 = .ok (.aload_n 0, 1) := by decide +kernel
theorem dL_law_1290 : decode cL_law 1290 = .ok (.iload_n 3, 1) := by decide +kernel
theorem dL_law_1291 : decode cL_law 1291 = .ok (.iconst 1, 1) := by decide +kernel
theorem dL_law_1292 : decode cL_law 1292 = .ok (.iadd, 1) := by decide +kernel
theorem dL_law_1293 : decode cL_law 1293 = .ok (.iaload, 1) := by decide +kernel
theorem dL_law_1294 : decode cL_law 1294 = .ok (.aload_n 0, 1) := by decide +kernel
theorem dL_law_1295 : decode cL_law 1295 = .ok (.iload_n 3, 1) := by decide +kernel
theorem dL_law_1296 : decode cL_law 1296 = .ok (.iconst 2, 1) := by decide +kernel
theorem dL_law_1297 : decode cL_law 1297 = .ok (.iadd, 1) := by decide +kernel
theorem dL_law_1298 : decode cL_law 1298 = .ok (.iaload, 1) := by decide +kernel
theorem dL_law_1299 : decode cL_law 1299 = .ok (.invokevirtual 162, 3) := by decide +kernel
theorem dL_law_1302 : decode cL_law 1302 = .ok (.aload_n 2, 1) := by decide +kernel
theorem dL_law_1303 : decode cL_law 1303 = .ok (.aload_n 0, 1) := by decide +kernel
theorem dL_law_1304 : decode cL_law 1304 = .ok (.iload_n 3, 1) := by decide +kernel
theorem dL_law_1305 : decode cL_law 1305 = .ok (.iconst 1, 1) := by decide +kernel
theorem dL_law_1306 : decode cL_law 1306 = .ok (.iadd, 1) := by decide +kernel
theorem dL_law_1307 : decode cL_law 1307 = .ok (.iaload, 1) := by decide +kernel
theorem dL_law_1308 : decode cL_law 1308 = .ok (.aload_n 0, 1) := by decide +kernel
theorem dL_law_1309 : decode cL_law 1309 = .ok (.iload_n 3, 1) := by decide +kernel
theorem dL_law_1310 : decode cL_law 1310 = .ok (.iconst 2, 1) := by decide +kernel
theorem dL_law_1311 : decode cL_law 1311 = .ok (.iadd, 1) := by decide +kernel
theorem dL_law_1312 : decode cL_law 1312 = .ok (.iaload, 1) := by decide +kernel
theorem dL_law_1313 : decode cL_law 1313 = .ok (.invokevirtual 165, 3) := by decide +kernel
theorem dL_law_1316 : decode cL_law 1316 = .ok (.if_icmp .eq 253, 3) := by decide +kernel
theorem dL_law_1321 : decode cL_law 1321 = .ok (.aload_n 1, 1) := by decide +kernel
theorem dL_law_1322 : decode cL_law 1322 = .ok (.aload_n 0, 1) := by decide +kernel
theorem dL_law_1323 : decode cL_law 1323 = .ok (.iload_n 3, 1) := by decide +kernel
theorem dL_law_1324 : decode cL_law 1324 = .ok (.iconst 1, 1) := by decide +kernel
theorem dL_law_1325 : decode cL_law 1325 = .ok (.iadd, 1) := by decide +kernel
theorem dL_law_1326 : decode cL_law 1326 = .ok (.iaload, 1) := by decide +kernel
theorem dL_law_1327 : decode cL_law 1327 = .ok (.invokevirtual 166, 3) := by decide +kernel
theorem dL_law_1330 : decode cL_law 1330 = .ok (.aload_n 2, 1) := by decide +kernel
theorem dL_law_1331 : decode cL_law 1331 = .ok (.aload_n 0, 1) := by decide +kernel
theorem dL_law_1332 : decode cL_law 1332 = .ok (.iload_n 3, 1) := by decide +kernel
theorem dL_law_1333 : decode cL_law 1333 = .ok (.iconst 1, 1) := by decide +kernel
theorem dL_law_1334 : decode cL_law 1334 = .ok (.iadd, 1) := by decide +kernel
theorem dL_law_1335 : decode cL_law 1335 = .ok (.iaload, 1) := by decide +kernel
theorem dL_law_1336 : decode cL_law 1336 = .ok (.invokevirtual 169, 3) := by decide +kernel
theorem dL_law_1339 : decode cL_law 1339 = .ok (.if_icmp .eq 230, 3) := by decide +kernel
theorem dL_law_1344 : decode cL_law 1344 = .ok (.aload_n 1, 1) := by decide +kernel
theorem dL_law_1345 : decode cL_law 1345 = .ok (.aload_n 0, 1) := by decide +kernel
theorem dL_law_1346 : decode cL_law 1346 = .ok (.iload_n 3, 1) := by decide +kernel
theorem dL_law_1347 : decode cL_law 1347 = .ok (.iconst 1, 1) := by decide +kernel
theorem dL_law_1348 : decode cL_law 1348 = .ok (.iadd, 1) := by decide +kernel
theorem dL_law_1349 : decode cL_law 1349 = .ok (.iaload, 1) := by decide +kernel
theorem dL_law_1350 : decode cL_law 1350 = .ok (.invokevirtual 170, 3) := by decide +kernel
theorem dL_law_1353 : decode cL_law 1353 = .ok (.aload_n 2, 1) := by decide +kernel
theorem dL_law_1354 : decode cL_law 1354 = .ok (.aload_n 0, 1) := by decide +kernel
theorem dL_law_1355 : decode cL_law 1355 = .ok (.iload_n 3, 1) := by decide +kernel
theorem dL_law_1356 : decode cL_law 1356 = .ok (.iconst 1, 1) := by decide +kernel
theorem dL_law_1357 : decode cL_law 1357 = .ok (.iadd, 1) := by decide +kernel
theorem dL_law_1358 : decode cL_law 1358 = .ok (.iaload, 1) := by decide +kernel
theorem dL_law_1359 : decode cL_law 1359 = .ok (.invokevirtual 173, 3) := by decide +kernel
theorem dL_law_1362 : decode cL_law 1362 = .ok (.if_icmp .eq 207, 3) := by decide +kernel
theorem dL_law_1367 : decode cL_law 1367 = .ok (.aload_n 1, 1) := by decide +kernel
theorem dL_law_1368 : decode cL_law 1368 = .ok (.aload_n 0, 1) := by decide +kernel
theorem dL_law_1369 : decode cL_law 1369 = .ok (.iload_n 3, 1) := by decide +kernel
theorem dL_law_1370 : decode cL_law 1370 = .ok (.iconst 1, 1) := by decide +kernel
theorem dL_law_1371 : decode cL_law 1371 = .ok (.iadd, 1) := by decide +kernel
theorem dL_law_1372 : decode cL_law 1372 = .ok (.iaload, 1) := by decide +kernel
theorem dL_law_1373 : decode cL_law 1373 = .ok (.invokevirtual 174, 3) := by decide +kernel
theorem dL_law_1376 : decode cL_law 1376 = .ok (.aload_n 2, 1) := by decide +kernel
theorem dL_law_1377 : decode cL_law 1377 = .ok (.aload_n 0, 1) := by decide +kernel
theorem dL_law_1378 : decode cL_law 1378 = .ok (.iload_n 3, 1) := by decide +kernel
theorem dL_law_1379 : decode cL_law 1379 = .ok (.iconst 1, 1) := by decide +kernel
theorem dL_law_1380 : decode cL_law 1380 = .ok (.iadd, 1) := by decide +kernel
theorem dL_law_1381 : decode cL_law 1381 = .ok (.iaload, 1) := by decide +kernel
theorem dL_law_1382 : decode cL_law 1382 = .ok (.invokevirtual 177, 3) := by decide +kernel
theorem dL_law_1385 : decode cL_law 1385 = .ok (.if_icmp .eq 184, 3) := by decide +kernel
theorem dL_law_1390 : decode cL_law 1390 = .ok (.aload_n 1, 1) := by decide +kernel
theorem dL_law_1391 : decode cL_law 1391 = .ok (.aload_n 0, 1) := by decide +kernel
theorem dL_law_1392 : decode cL_law 1392 = .ok (.iload_n 3, 1) := by decide +kernel
theorem dL_law_1393 : decode cL_law 1393 = .ok (.iconst 1, 1) := by decide +kernel
theorem dL_law_1394 : decode cL_law 1394 = .ok (.iadd, 1) := by decide +kernel
theorem dL_law_1395 : decode cL_law 1395 = .ok (.iaload, 1) := by decide +kernel
theorem dL_law_1396 : decode cL_law 1396 = .ok (.aload_n 0, 1) := by decide +kernel
theorem dL_law_1397 : decode cL_law 1397 = .ok (.iload_n 3, 1) := by decide +kernel
theorem dL_law_1398 : decode cL_law 1398 = .ok (.iconst 2, 1) := by decide +kernel
theorem dL_law_1399 : decode cL_law 1399 = .ok (.iadd, 1) := by decide +kernel
theorem dL_law_1400 : decode cL_law 1400 = .ok (.iaload, 1) := by decide +kernel
theorem dL_law_1401 : decode cL_law 1401 = .ok (.aload_n 0, 1) := by decide +kernel
theorem dL_law_1402 : decode cL_law 1402 = .ok (.iload_n 3, 1) := by decide +kernel
theorem dL_law_1403 : decode cL_law 1403 = .ok (.iconst 3, 1) := by decide +kernel
theorem dL_law_1404 : decode cL_law 1404 = .ok (.iadd, 1) := by decide +kernel
theorem dL_law_1405 : decode cL_law 1405 = .ok (.iaload, 1) := by decide +kernel
theorem dL_law_1406 : decode cL_law 1406 = .ok (.invokevirtual 178, 3) := by decide +kernel
theorem dL_law_1409 : decode cL_law 1409 = .ok (.aload_n 2, 1) := by decide +kernel
theorem dL_law_1410 : decode cL_law 1410 = .ok (.aload_n 0, 1) := by decide +kernel
theorem dL_law_1411 : decode cL_law 1411 = .ok (.iload_n 3, 1) := by decide +kernel
theorem dL_law_1412 : decode cL_law 1412 = .ok (.iconst 1, 1) := by decide +kernel
theorem dL_law_1413 : decode cL_law 1413 = .ok (.iadd, 1) := by decide +kernel
theorem dL_law_1414 : decode cL_law 1414 = .ok (.iaload, 1) := by decide +kernel
theorem dL_law_1415 : decode cL_law 1415 = .ok (.aload_n 0, 1) := by decide +kernel
theorem dL_law_1416 : decode cL_law 1416 = .ok (.iload_n 3, 1) := by decide +kernel
theorem dL_law_1417 : decode cL_law 1417 = .ok (.iconst 2, 1) := by decide +kernel
theorem dL_law_1418 : decode cL_law 1418 = .ok (.iadd, 1) := by decide +kernel
theorem dL_law_1419 : decode cL_law 1419 = .ok (.iaload, 1) := by decide +kernel
theorem dL_law_1420 : decode cL_law 1420 = .ok (.aload_n 0, 1) := by decide +kernel
theorem dL_law_1421 : decode cL_law 1421 = .ok (.iload_n 3, 1) := by decide +kernel
theorem dL_law_1422 : decode cL_law 1422 = .ok (.iconst 3, 1) := by decide +kernel
theorem dL_law_1423 : decode cL_law 1423 = .ok (.iadd, 1) := by decide +kernel
theorem dL_law_1424 : decode cL_law 1424 = .ok (.iaload, 1) := by decide +kernel
theorem dL_law_1425 : decode cL_law 1425 = .ok (.invokevirtual 181, 3) := by decide +kernel
theorem dL_law_1428 : decode cL_law 1428 = .ok (.if_icmp .eq 141, 3) := by decide +kernel
theorem dL_law_1433 : decode cL_law 1433 = .ok (.aload_n 1, 1) := by decide +kernel
theorem dL_law_1434 : decode cL_law 1434 = .ok (.aload_n 0, 1) := by decide +kernel
theorem dL_law_1435 : decode cL_law 1435 = .ok (.iload_n 3, 1) := by decide +kernel
theorem dL_law_1436 : decode cL_law 1436 = .ok (.iconst 1, 1) := by decide +kernel
theorem dL_law_1437 : decode cL_law 1437 = .ok (.iadd, 1) := by decide +kernel
theorem dL_law_1438 : decode cL_law 1438 = .ok (.iaload, 1) := by decide +kernel
theorem dL_law_1439 : decode cL_law 1439 = .ok (.aload_n 0, 1) := by decide +kernel
theorem dL_law_1440 : decode cL_law 1440 = .ok (.iload_n 3, 1) := by decide +kernel
theorem dL_law_1441 : decode cL_law 1441 = .ok (.iconst 2, 1) := by decide +kernel
theorem dL_law_1442 : decode cL_law 1442 = .ok (.iadd, 1) := by decide +kernel
theorem dL_law_1443 : decode cL_law 1443 = .ok (.iaload, 1) := by decide +kernel
theorem dL_law_1444 : decode cL_law 1444 = .ok (.aload_n 0, 1) := by decide +kernel
theorem dL_law_1445 : decode cL_law 1445 = .ok (.iload_n 3, 1) := by decide +kernel
theorem dL_law_1446 : decode cL_law 1446 = .ok (.iconst 3, 1) := by decide +kernel
theorem dL_law_1447 : decode cL_law 1447 = .ok (.iadd, 1) := by decide +kernel
theorem dL_law_1448 : decode cL_law 1448 = .ok (.iaload, 1) := by decide +kernel
theorem dL_law_1449 : decode cL_law 1449 = .ok (.i2l, 1) := by decide +kernel
theorem dL_law_1450 : decode cL_law 1450 = .ok (.bipush 32, 2) := by decide +kernel
theorem dL_law_1452 : decode cL_law 1452 = .ok (.lshl, 1) := by decide +kernel
theorem dL_law_1453 : decode cL_law 1453 = .ok (.aload_n 0, 1) := by decide +kernel
theorem dL_law_1454 : decode cL_law 1454 = .ok (.iload_n 3, 1) := by decide +kernel
theorem dL_law_1455 : decode cL_law 1455 = .ok (.iconst 4, 1) := by decide +kernel
theorem dL_law_1456 : decode cL_law 1456 = .ok (.iadd, 1) := by decide +kernel
theorem dL_law_1457 : decode cL_law 1457 = .ok (.iaload, 1) := by decide +kernel
theorem dL_law_1458 : decode cL_law 1458 = .ok (.i2l, 1) := by decide +kernel
theorem dL_law_1459 : decode cL_law 1459 = .ok (.ldc2_w 182, 3) := by decide +kernel
theorem dL_law_1462 : decode cL_law 1462 = .ok (.land, 1) := by decide +kernel
theorem dL_law_1463 : decode cL_law 1463 = .ok (.lor, 1) := by decide +kernel
theorem dL_law_1464 : decode cL_law 1464 = .ok (.invokevirtual 184, 3) := by decide +kernel
theorem dL_law_1467 : decode cL_law 1467 = .ok (.aload_n 2, 1) := by decide +kernel
theorem dL_law_1468 : decode cL_law 1468 = .ok (.aload_n 0, 1) := by decide +kernel
theorem dL_law_1469 : decode cL_law 1469 = .ok (.iload_n 3, 1) := by decide +kernel
theorem dL_law_1470 : decode cL_law 1470 = .ok (.iconst 1, 1) := by decide +kernel
theorem dL_law_1471 : decode cL_law 1471 = .ok (.iadd, 1) := by decide +kernel
theorem dL_law_1472 : decode cL_law 1472 = .ok (.iaload, 1) := by decide +kernel
theorem dL_law_1473 : decode cL_law 1473 = .ok (.aload_n 0, 1) := by decide +kernel
theorem dL_law_1474 : decode cL_law 1474 = .ok (.iload_n 3, 1) := by decide +kernel
theorem dL_law_1475 : decode cL_law 1475 = .ok (.iconst 2, 1) := by decide +kernel
theorem dL_law_1476 : decode cL_law 1476 = .ok (.iadd, 1) := by decide +kernel
theorem dL_law_1477 : decode cL_law 1477 = .ok (.iaload, 1) := by decide +kernel
theorem dL_law_1478 : decode cL_law 1478 = .ok (.aload_n 0, 1) := by decide +kernel
theorem dL_law_1479 : decode cL_law 1479 = .ok (.iload_n 3, 1) := by decide +kernel
theorem dL_law_1480 : decode cL_law 1480 = .ok (.iconst 3, 1) := by decide +kernel
theorem dL_law_1481 : decode cL_law 1481 = .ok (.iadd, 1) := by decide +kernel
theorem dL_law_1482 : decode cL_law 1482 = .ok (.iaload, 1) := by decide +kernel
theorem dL_law_1483 : decode cL_law 1483 = .ok (.i2l, 1) := by decide +kernel
theorem dL_law_1484 : decode cL_law 1484 = .ok (.bipush 32, 2) := by decide +kernel
theorem dL_law_1486 : decode cL_law 1486 = .ok (.lshl, 1) := by decide +kernel
theorem dL_law_1487 : decode cL_law 1487 = .ok (.aload_n 0, 1) := by decide +kernel
theorem dL_law_1488 : decode cL_law 1488 = .ok (.iload_n 3, 1) := by decide +kernel
theorem dL_law_1489 : decode cL_law 1489 = .ok (.iconst 4, 1) := by decide +kernel
theorem dL_law_1490 : decode cL_law 1490 = .ok (.iadd, 1) := by decide +kernel
theorem dL_law_1491 : decode cL_law 1491 = .ok (.iaload, 1) := by decide +kernel
theorem dL_law_1492 : decode cL_law 1492 = .ok (.i2l, 1) := by decide +kernel
theorem dL_law_1493 : decode cL_law 1493 = .ok (.ldc2_w 182, 3) := by decide +kernel
theorem dL_law_1496 : decode cL_law 1496 = .ok (.land, 1) := by decide +kernel
theorem dL_law_1497 : decode cL_law 1497 = .ok (.lor, 1) := by decide +kernel
theorem dL_law_1498 : decode cL_law 1498 = .ok (.invokevirtual 188, 3) := by decide +kernel
theorem dL_law_1501 : decode cL_law 1501 = .ok (.if_icmp .eq 68, 3) := by decide +kernel
theorem dL_law_1506 : decode cL_law 1506 = .ok (.aload_n 1, 1) := by decide +kernel
theorem dL_law_1507 : decode cL_law 1507 = .ok (.aload_n 0, 1) := by decide +kernel
theorem dL_law_1508 : decode cL_law 1508 = .ok (.iload_n 3, 1) := by decide +kernel
theorem dL_law_1509 : decode cL_law 1509 = .ok (.iconst 1, 1) := by decide +kernel
theorem dL_law_1510 : decode cL_law 1510 = .ok (.iadd, 1) := by decide +kernel
theorem dL_law_1511 : decode cL_law 1511 = .ok (.iaload, 1) := by decide +kernel
theorem dL_law_1512 : decode cL_law 1512 = .ok (.aload_n 0, 1) := by decide +kernel
theorem dL_law_1513 : decode cL_law 1513 = .ok (.iload_n 3, 1) := by decide +kernel
theorem dL_law_1514 : decode cL_law 1514 = .ok (.iconst 2, 1) := by decide +kernel
theorem dL_law_1515 : decode cL_law 1515 = .ok (.iadd, 1) := by decide +kernel
theorem dL_law_1516 : decode cL_law 1516 = .ok (.iaload, 1) := by decide +kernel
theorem dL_law_1517 : decode cL_law 1517 = .ok (.aload_n 0, 1) := by decide +kernel
theorem dL_law_1518 : decode cL_law 1518 = .ok (.iload_n 3, 1) := by decide +kernel
theorem dL_law_1519 : decode cL_law 1519 = .ok (.iconst 3, 1) := by decide +kernel
theorem dL_law_1520 : decode cL_law 1520 = .ok (.iadd, 1) := by decide +kernel
theorem dL_law_1521 : decode cL_law 1521 = .ok (.iaload, 1) := by decide +kernel
theorem dL_law_1522 : decode cL_law 1522 = .ok (.aload_n 0, 1) := by decide +kernel
theorem dL_law_1523 : decode cL_law 1523 = .ok (.iload_n 3, 1) := by decide +kernel
theorem dL_law_1524 : decode cL_law 1524 = .ok (.iconst 4, 1) := by decide +kernel
theorem dL_law_1525 : decode cL_law 1525 = .ok (.iadd, 1) := by decide +kernel
theorem dL_law_1526 : decode cL_law 1526 = .ok (.iaload, 1) := by decide +kernel
theorem dL_law_1527 : decode cL_law 1527 = .ok (.aload_n 0, 1) := by decide +kernel
theorem dL_law_1528 : decode cL_law 1528 = .ok (.iload_n 3, 1) := by decide +kernel
theorem dL_law_1529 : decode cL_law 1529 = .ok (.iconst 5, 1) := by decide +kernel
theorem dL_law_1530 : decode cL_law 1530 = .ok (.iadd, 1) := by decide +kernel
theorem dL_law_1531 : decode cL_law 1531 = .ok (.iaload, 1) := by decide +kernel
theorem dL_law_1532 : decode cL_law 1532 = .ok (.invokevirtual 189, 3) := by decide +kernel
theorem dL_law_1535 : decode cL_law 1535 = .ok (.aload_n 2, 1) := by decide +kernel
theorem dL_law_1536 : decode cL_law 1536 = .ok (.aload_n 0, 1) := by decide +kernel
theorem dL_law_1537 : decode cL_law 1537 = .ok (.iload_n 3, 1) := by decide +kernel
theorem dL_law_1538 : decode cL_law 1538 = .ok (.iconst 1, 1) := by decide +kernel
theorem dL_law_1539 : decode cL_law 1539 = .ok (.iadd, 1) := by decide +kernel
theorem dL_law_1540 : decode cL_law 1540 = .ok (.iaload, 1) := by decide +kernel
theorem dL_law_1541 : decode cL_law 1541 = .ok (.aload_n 0, 1) := by decide +kernel
theorem dL_law_1542 : decode cL_law 1542 = .ok (.iload_n 3, 1) := by decide +kernel
theorem dL_law_1543 : decode cL_law 1543 = .ok (.iconst 2, 1) := by decide +kernel
theorem dL_law_1544 : decode cL_law 1544 = .ok (.iadd, 1) := by decide +kernel
theorem dL_law_1545 : decode cL_law 1545 = .ok (.iaload, 1) := by decide +kernel
theorem dL_law_1546 : decode cL_law 1546 = .ok (.aload_n 0, 1) := by decide +kernel
theorem dL_law_1547 : decode cL_law 1547 = .ok (.iload_n 3, 1) := by decide +kernel
theorem dL_law_1548 : decode cL_law 1548 = .ok (.iconst 3, 1) := by decide +kernel
theorem dL_law_1549 : decode cL_law 1549 = .ok (.iadd, 1) := by decide +kernel
theorem dL_law_1550 : decode cL_law 1550 = .ok (.iaload, 1) := by decide +kernel
theorem dL_law_1551 : decode cL_law 1551 = .ok (.aload_n 0, 1) := by decide +kernel
theorem dL_law_1552 : decode cL_law 1552 = .ok (.iload_n 3, 1) := by decide +kernel
theorem dL_law_1553 : decode cL_law 1553 = .ok (.iconst 4, 1) := by decide +kernel
theorem dL_law_1554 : decode cL_law 1554 = .ok (.iadd, 1) := by decide +kernel
theorem dL_law_1555 : decode cL_law 1555 = .ok (.iaload, 1) := by decide +kernel
theorem dL_law_1556 : decode cL_law 1556 = .ok (.aload_n 0, 1) := by decide +kernel
theorem dL_law_1557 : decode cL_law 1557 = .ok (.iload_n 3, 1) := by decide +kernel
theorem dL_law_1558 : decode cL_law 1558 = .ok (.iconst 5, 1) := by decide +kernel
theorem dL_law_1559 : decode cL_law 1559 = .ok (.iadd, 1) := by decide +kernel
theorem dL_law_1560 : decode cL_law 1560 = .ok (.iaload, 1) := by decide +kernel
theorem dL_law_1561 : decode cL_law 1561 = .ok (.invokevirtual 192, 3) := by decide +kernel
theorem dL_law_1564 : decode cL_law 1564 = .ok (.if_icmp .eq 5, 3) := by decide +kernel
theorem dL_law_1569 : decode cL_law 1569 = .ok (.iinc 3 6, 3) := by decide +kernel
theorem dL_law_1572 : decode cL_law 1572 = .ok (.goto (-1554), 3) := by decide +kernel
theorem dL_law_1575 : decode cL_law 1575 = .ok (.iconst 1, 1) := by decide +kernel
theorem dL_law_1576 : decode cL_law 1576 = .ok (.ireturn, 1) := by decide +kernel
/-! THE CLAIM OUT OF ONE WALK OF THE LAW'S BODY. Your part is whole_start (and what it stands on); all else here is the same for every law, but numbers. -/
def R_law : String := "HedgeMazeLaw"
def lw_P (b : Addr) (xs : List Int32) (args : Array Value) (s : State) : Prop := args = #[.ref b] ∧ s.IntsAt b xs ∧ xs.length ≤ 6 ∧ (Jvm.Cond.and given_1 narrow_1).before args s = true
def lw_Q (_ : Array Value) (s : State) (o : Outcome) (t : State) : Prop := o = .returned (some (.int 1)) ∧ Framed s o t [] 600000 7302250
def lw_Z (below : List Frame) (a : Array Value) (s : State) : State → Prop := fun t => ∃ o, t.status = .running ∧ Ended t below o ∧ lw_Q a s o t
/-- the law's own end, with 1 on the stack, nothing written that was there before, its room as the claim has it -/
theorem lw_ret {p : Program} {l : Launch} {e : Env} {s : State} {m : MethodId} {below : List Frame} {meth : Method} {c : Code} {b : Nat} (hx : p.tables.exec = Jvm.exec) (hb : c.code = code) (hr : meth.sig.returnType = ret) (hlocks : meth.locks = false) {pc : Nat} {H : Heap} {ls : Array Slot} (hdg : decode code pc = .ok (.ireturn, 1)) : W p l e room_1 s m #[Value.ref b] below meth c H [] 600000 7302250 (lw_Z below #[Value.ref b] s) (F0 m pc ls [.int 1]) := by
  intro T hT X
  obtain ⟨fs, hret, hrun, hended, hW, hframe⟩ := X.leave (v := some (.int 1)) (hlocks := hlocks) (fun h => by rw [hr] at h; cases h)
  have hmeth' : T.vm.method? m = some meth := X.method'
  refine ⟨T.setFrames fs, ?_, .returned (some (.int 1)), hrun, hended, rfl, ⟨_, rfl⟩, hW, hframe⟩
  jvm_step X.here [X.here.top, hx, hb, hdg, hmeth', hr, ret, narrow_b1]
  (try refine ⟨rfl, ?_⟩); (try refine ⟨rfl, ?_⟩)
  first | (intro acts; rw [hret _ acts rfl rfl rfl]) | rw [hret _ _ rfl rfl rfl]
  exact Steps.refl _
/-- what holds at the law's entry: the machine, the code, the tables' words (any of lw_tbl by 'hts w (by decide +kernel)'), the script of L ints xs at the cell b, what the Statement gives of the start (any of its parts by flat_of_before) -/
def lw_At (p : Program) (s : State) (m : MethodId) (meth : Method) (c : Code) (b L : Nat) (xs : Nat → Int32) : Prop :=
  p.tables.exec = Jvm.exec ∧ c.code = code ∧ meth.sig.returnType = ret ∧ c.maxLocals = 4 ∧ s.vm.findClass R_law = some m.cls ∧ (∀ w ∈ lw_tbl, w.before #[Value.ref b] s = true) ∧ va_X b L xs s s.heap ∧ b < s.heap.size ∧ meth.locks = false ∧ (Jvm.Cond.and given_1 narrow_1).before #[Value.ref b] s = true
/-- the law's end: no call is left -/
theorem law_exit {p : Program} {e : Env} {s : State} {m : MethodId} {below : List Frame} {meth : Method} {c : Code} {l : Launch} {b L : Nat} {xs : Nat → Int32} (C0 : lw_At p s m meth c b L xs) {A : Nat → Prop} (hA2 : ∀ q, A q → s.heap.size ≤ q) {H : Heap} {locs : List Loc} {ls : Array Slot} {cells slots : Nat} {i3 : Int32} (hS : va_S A s.heap H locs) (hl : lv_has ls 4 [(3, .int i3), (0, .ref b)]) (hi : Int32.ofNat L - 6 < i3) (hc : cells ≤ 600000) (hs : slots ≤ 7302250) : W p l e room_1 s m #[Value.ref b] below meth c H locs cells slots (lw_Z below #[Value.ref b] s) (F0 m 18 ls []) := by
  obtain ⟨hx, hb, hr, hml, hown, hts, hX, hbl, hlocks, hgv⟩ := C0
  have hbA : ¬ A b := fun h => absurd (hA2 b h) (Nat.not_le.mpr hbl)
  refine lv_iload_n hx hb dL_law_18 rfl (lv_at hl 0 rfl) ?_
  refine lv_aload_n hx hb dL_law_19 rfl (lv_at hl 1 rfl) ?_
  refine va_slen hx hb hX hbl hbA hS dL_law_20 ?_
  refine lv_bipush (v := 6) hx hb dL_law_21 (by decide) ?_
  refine lv_isub hx hb dL_law_23 ?_
  refine lv_icmp_gt (tgt := 1575) hx hb dL_law_24 (by decide) (fun _ => ?_) (fun h => absurd hi h)
  refine lv_iconst (v := 1) hx hb dL_law_1575 (by decide) ?_
  refine va_forget (fun q hq => hA2 _ (hS.2.2 q hq)) ?_
  refine W.widen (k := 600000) (n := 7302250) hc hs ?_
  exact lw_ret hx hb hr hlocks dL_law_1576
