theorem dX1_list_0 : decode cX1_list 0 = .ok (.iload 4, 2) := by decide +kernel
theorem dX1_list_2 : decode cX1_list 2 = .ok (.ifCond .lt 9, 3) := by decide +kernel
theorem dX1_list_5 : decode cX1_list 5 = .ok (.iload 4, 2) := by decide +kernel
theorem dX1_list_7 : decode cX1_list 7 = .ok (.iconst 3, 1) := by decide +kernel
theorem dX1_list_8 : decode cX1_list 8 = .ok (.if_icmp .lt 5, 3) := by decide +kernel
theorem dX1_list_13 : decode cX1_list 13 = .ok (.aload_n 1, 1) := by decide +kernel
theorem dX1_list_14 : decode cX1_list 14 = .ok (.getfield 27, 3) := by decide +kernel
theorem dX1_list_17 : decode cX1_list 17 = .ok (.astore 5, 2) := by decide +kernel
theorem dX1_list_19 : decode cX1_list 19 = .ok (.aload_n 1, 1) := by decide +kernel
theorem dX1_list_20 : decode cX1_list 20 = .ok (.lload_n 2, 1) := by decide +kernel
theorem dX1_list_21 : decode cX1_list 21 = .ok (.invokevirtual 33, 3) := by decide +kernel
theorem dX1_list_24 : decode cX1_list 24 = .ok (.lstore 6, 2) := by decide +kernel
theorem dX1_list_26 : decode cX1_list 26 = .ok (.iconst 0, 1) := by decide +kernel
theorem dX1_list_27 : decode cX1_list 27 = .ok (.istore 8, 2) := by decide +kernel
theorem dX1_list_29 : decode cX1_list 29 = .ok (.iload 8, 2) := by decide +kernel
theorem dX1_list_31 : decode cX1_list 31 = .ok (.aload 5, 2) := by decide +kernel
theorem dX1_list_33 : decode cX1_list 33 = .ok (.getfield 37, 3) := by decide +kernel
theorem dX1_list_36 : decode cX1_list 36 = .ok (.if_icmp .ge 41, 3) := by decide +kernel
theorem dX1_list_39 : decode cX1_list 39 = .ok (.aload_n 0, 1) := by decide +kernel
theorem dX1_list_40 : decode cX1_list 40 = .ok (.getfield 24, 3) := by decide +kernel
theorem dX1_list_43 : decode cX1_list 43 = .ok (.iload 8, 2) := by decide +kernel
theorem dX1_list_45 : decode cX1_list 45 = .ok (.aload 5, 2) := by decide +kernel
theorem dX1_list_47 : decode cX1_list 47 = .ok (.lload 6, 2) := by decide +kernel
theorem dX1_list_49 : decode cX1_list 49 = .ok (.iload 8, 2) := by decide +kernel
theorem dX1_list_51 : decode cX1_list 51 = .ok (.invokevirtual 42, 3) := by decide +kernel
theorem dX1_list_54 : decode cX1_list 54 = .ok (.ifCond .eq 15, 3) := by decide +kernel
theorem dX1_list_57 : decode cX1_list 57 = .ok (.aload 5, 2) := by decide +kernel
theorem dX1_list_59 : decode cX1_list 59 = .ok (.iload 8, 2) := by decide +kernel
theorem dX1_list_61 : decode cX1_list 61 = .ok (.lload 6, 2) := by decide +kernel
theorem dX1_list_63 : decode cX1_list 63 = .ok (.invokevirtual 46, 3) := by decide +kernel
theorem dX1_list_66 : decode cX1_list 66 = .ok (.goto 4, 3) := by decide +kernel
theorem dX1_list_69 : decode cX1_list 69 = .ok (.iconst 0, 1) := by decide +kernel
theorem dX1_list_70 : decode cX1_list 70 = .ok (.iastore, 1) := by decide +kernel
theorem dX1_list_71 : decode cX1_list 71 = .ok (.iinc 8 1, 3) := by decide +kernel
theorem dX1_list_74 : decode cX1_list 74 = .ok (.goto (-45), 3) := by decide +kernel
theorem dX1_list_77 : decode cX1_list 77 = .ok (.iconst 0, 1) := by decide +kernel
theorem dX1_list_78 : decode cX1_list 78 = .ok (.istore 8, 2) := by decide +kernel
theorem dX1_list_80 : decode cX1_list 80 = .ok (.iconst 0, 1) := by decide +kernel
theorem dX1_list_81 : decode cX1_list 81 = .ok (.istore 9, 2) := by decide +kernel
theorem dX1_list_83 : decode cX1_list 83 = .ok (.iload 9, 2) := by decide +kernel
theorem dX1_list_85 : decode cX1_list 85 = .ok (.aload 5, 2) := by decide +kernel
theorem dX1_list_87 : decode cX1_list 87 = .ok (.getfield 37, 3) := by decide +kernel
theorem dX1_list_90 : decode cX1_list 90 = .ok (.if_icmp .ge 119, 3) := by decide +kernel
theorem dX1_list_93 : decode cX1_list 93 = .ok (.aload 5, 2) := by decide +kernel
theorem dX1_list_95 : decode cX1_list 95 = .ok (.lload_n 2, 1) := by decide +kernel
theorem dX1_list_96 : decode cX1_list 96 = .ok (.iload 9, 2) := by decide +kernel
theorem dX1_list_98 : decode cX1_list 98 = .ok (.invokevirtual 42, 3) := by decide +kernel
theorem dX1_list_101 : decode cX1_list 101 = .ok (.ifCond .eq 15, 3) := by decide +kernel
theorem dX1_list_104 : decode cX1_list 104 = .ok (.lload 6, 2) := by decide +kernel
theorem dX1_list_106 : decode cX1_list 106 = .ok (.aload_n 1, 1) := by decide +kernel
theorem dX1_list_107 : decode cX1_list 107 = .ok (.iload 9, 2) := by decide +kernel
theorem dX1_list_109 : decode cX1_list 109 = .ok (.invokevirtual 50, 3) := by decide +kernel
theorem dX1_list_112 : decode cX1_list 112 = .ok (.land, 1) := by decide +kernel
theorem dX1_list_113 : decode cX1_list 113 = .ok (.goto 4, 3) := by decide +kernel
theorem dX1_list_116 : decode cX1_list 116 = .ok (.lconst 0, 1) := by decide +kernel
theorem dX1_list_117 : decode cX1_list 117 = .ok (.lstore 10, 2) := by decide +kernel
theorem dX1_list_119 : decode cX1_list 119 = .ok (.iconst 0, 1) := by decide +kernel
theorem dX1_list_120 : decode cX1_list 120 = .ok (.istore 12, 2) := by decide +kernel
theorem dX1_list_122 : decode cX1_list 122 = .ok (.iload 12, 2) := by decide +kernel
theorem dX1_list_124 : decode cX1_list 124 = .ok (.aload 5, 2) := by decide +kernel
theorem dX1_list_126 : decode cX1_list 126 = .ok (.getfield 37, 3) := by decide +kernel
theorem dX1_list_129 : decode cX1_list 129 = .ok (.if_icmp .ge 74, 3) := by decide +kernel
theorem dX1_list_132 : decode cX1_list 132 = .ok (.lload 10, 2) := by decide +kernel
theorem dX1_list_134 : decode cX1_list 134 = .ok (.lconst 0, 1) := by decide +kernel
theorem dX1_list_135 : decode cX1_list 135 = .ok (.lcmp, 1) := by decide +kernel
theorem dX1_list_136 : decode cX1_list 136 = .ok (.ifCond .eq 67, 3) := by decide +kernel
theorem dX1_list_139 : decode cX1_list 139 = .ok (.aload 5, 2) := by decide +kernel
theorem dX1_list_141 : decode cX1_list 141 = .ok (.lload 10, 2) := by decide +kernel
theorem dX1_list_143 : decode cX1_list 143 = .ok (.iload 12, 2) := by decide +kernel
theorem dX1_list_145 : decode cX1_list 145 = .ok (.invokevirtual 42, 3) := by decide +kernel
theorem dX1_list_148 : decode cX1_list 148 = .ok (.ifCond .eq 49, 3) := by decide +kernel
theorem dX1_list_151 : decode cX1_list 151 = .ok (.aload 5, 2) := by decide +kernel
theorem dX1_list_153 : decode cX1_list 153 = .ok (.iload 9, 2) := by decide +kernel
theorem dX1_list_155 : decode cX1_list 155 = .ok (.aload_n 0, 1) := by decide +kernel
theorem dX1_list_156 : decode cX1_list 156 = .ok (.getfield 24, 3) := by decide +kernel
theorem dX1_list_159 : decode cX1_list 159 = .ok (.iload 12, 2) := by decide +kernel
theorem dX1_list_161 : decode cX1_list 161 = .ok (.iaload, 1) := by decide +kernel
theorem dX1_list_162 : decode cX1_list 162 = .ok (.invokevirtual 54, 3) := by decide +kernel
theorem dX1_list_165 : decode cX1_list 165 = .ok (.ifCond .eq 32, 3) := by decide +kernel
theorem dX1_list_168 : decode cX1_list 168 = .ok (.iload 8, 2) := by decide +kernel
theorem dX1_list_170 : decode cX1_list 170 = .ok (.sipush 480, 3) := by decide +kernel
theorem dX1_list_173 : decode cX1_list 173 = .ok (.if_icmp .ge 24, 3) := by decide +kernel
theorem dX1_list_176 : decode cX1_list 176 = .ok (.aload_n 0, 1) := by decide +kernel
theorem dX1_list_177 : decode cX1_list 177 = .ok (.getfield 21, 3) := by decide +kernel
theorem dX1_list_180 : decode cX1_list 180 = .ok (.iload 4, 2) := by decide +kernel
theorem dX1_list_182 : decode cX1_list 182 = .ok (.aaload, 1) := by decide +kernel
theorem dX1_list_183 : decode cX1_list 183 = .ok (.iload 8, 2) := by decide +kernel
theorem dX1_list_185 : decode cX1_list 185 = .ok (.bipush 100, 2) := by decide +kernel
theorem dX1_list_187 : decode cX1_list 187 = .ok (.iload 9, 2) := by decide +kernel
theorem dX1_list_189 : decode cX1_list 189 = .ok (.imul, 1) := by decide +kernel
theorem dX1_list_190 : decode cX1_list 190 = .ok (.iload 12, 2) := by decide +kernel
theorem dX1_list_192 : decode cX1_list 192 = .ok (.iadd, 1) := by decide +kernel
theorem dX1_list_193 : decode cX1_list 193 = .ok (.iastore, 1) := by decide +kernel
theorem dX1_list_194 : decode cX1_list 194 = .ok (.iinc 8 1, 3) := by decide +kernel
theorem dX1_list_197 : decode cX1_list 197 = .ok (.iinc 12 1, 3) := by decide +kernel
theorem dX1_list_200 : decode cX1_list 200 = .ok (.goto (-78), 3) := by decide +kernel
theorem dX1_list_203 : decode cX1_list 203 = .ok (.iinc 9 1, 3) := by decide +kernel
theorem dX1_list_206 : decode cX1_list 206 = .ok (.goto (-123), 3) := by decide +kernel
theorem dX1_list_209 : decode cX1_list 209 = .ok (.iload 8, 2) := by decide +kernel
theorem dX1_list_211 : decode cX1_list 211 = .ok (.ireturn, 1) := by decide +kernel
def wz_X1_list_0 : List Cond := .code yX1_list cX1_list 13 (some .int) :: ([Cond.fieldLink RX1 27 "HedgeMaze$Garden" "plan" "LHedgeMaze$Plan;", Cond.fieldLink RX1 37 "HedgeMaze$Plan" "sideCount" "I", Cond.fieldLink RX1 24 "HedgeMaze$Gardeners" "parts" "[I", Cond.fieldLink RX1 21 "HedgeMaze$Gardeners" "lists" "[[I", Cond.methodLink RX1 33 yX0_openWith, Cond.instanceMethod yX0_openWith, Cond.selects RX0 yX0_openWith yX0_openWith, Cond.initialized RX0, Cond.code yX0_openWith cX0_openWith 3 (some .long), Cond.fieldLink RX0 12 "HedgeMaze$Garden" "plan" "LHedgeMaze$Plan;", Cond.fieldLink RX0 75 "HedgeMaze$Plan" "allSides" "J", Cond.fieldLink RX0 26 "HedgeMaze$Garden" "walls" "J", Cond.constantLong RX0 78 (-1), Cond.methodLink RX1 42 yX3_has, Cond.instanceMethod yX3_has, Cond.selects RX3 yX3_has yX3_has, Cond.initialized RX3, Cond.code yX3_has cX3_has 4 (some .boolean), Cond.methodLink RX3 58 yX3_bitOf, Cond.instanceMethod yX3_bitOf, Cond.selects RX3 yX3_bitOf yX3_bitOf, Cond.code yX3_bitOf cX3_bitOf 3 (some .long), Cond.fieldLink RX3 21 "HedgeMaze$Plan" "sideCount" "I", Cond.fieldLink RX3 35 "HedgeMaze$Plan" "bits" "[J", Cond.methodLink RX1 50 yX0_sidesByLaw, Cond.instanceMethod yX0_sidesByLaw, Cond.selects RX0 yX0_sidesByLaw yX0_sidesByLaw, Cond.code yX0_sidesByLaw cX0_sidesByLaw 2 (some .long), Cond.fieldLink RX0 29 "HedgeMaze$Garden" "isNear" "Z", Cond.methodLink RX0 93 yX3_sidesNear, Cond.instanceMethod yX3_sidesNear, Cond.selects RX3 yX3_sidesNear yX3_sidesNear, Cond.code yX3_sidesNear cX3_sidesNear 5 (some .long), Cond.constantLong RX3 65 (-1), Cond.fieldLink RX3 28 "HedgeMaze$Plan" "first" "[I", Cond.fieldLink RX3 32 "HedgeMaze$Plan" "other" "[I", Cond.methodLink RX3 62 yX3_sideAt, Cond.instanceMethod yX3_sideAt, Cond.selects RX3 yX3_sideAt yX3_sideAt, Cond.code yX3_sideAt cX3_sideAt 4 (some .int), Cond.fieldLink RX3 39 "HedgeMaze$Plan" "around" "[I", Cond.methodLink RX1 54 yX3_joins, Cond.instanceMethod yX3_joins, Cond.selects RX3 yX3_joins yX3_joins, Cond.code yX3_joins cX3_joins 3 (some .boolean), Cond.methodLink RX3 79 yX3_allCells, Cond.instanceMethod yX3_allCells, Cond.selects RX3 yX3_allCells yX3_allCells, Cond.code yX3_allCells cX3_allCells 1 (some .int), Cond.fieldLink RX3 18 "HedgeMaze$Plan" "cellCount" "I", Cond.methodLink RX1 46 yX3_partBeside, Cond.instanceMethod yX3_partBeside, Cond.selects RX3 yX3_partBeside yX3_partBeside, Cond.code yX3_partBeside cX3_partBeside 4 (some .int), Cond.methodLink RX3 75 yX3_spread, Cond.instanceMethod yX3_spread, Cond.selects RX3 yX3_spread yX3_spread, Cond.code yX3_spread cX3_spread 9 (some .int), Cond.methodLink RX3 42 Lib.Math.min.name, Cond.static Lib.Math.min.name, Cond.initialized "java/lang/Math", Cond.code Lib.Math.min.name Lib.Math.min.code 2 (some .int), Cond.methodLink RX3 71 yX3_grow, Cond.instanceMethod yX3_grow, Cond.selects RX3 yX3_grow yX3_grow, Cond.code yX3_grow cX3_grow 6 (some .int), Cond.fieldLink RX3 9 "HedgeMaze$Plan" "wide" "I"] ++ wsX00 ++ wsX30 ++ wsX10)
theorem wd_X1_list_0_0 : Cond.fieldLink RX1 27 "HedgeMaze$Garden" "plan" "LHedgeMaze$Plan;" ∈ wz_X1_list_0 := List.mem_of_getElem? (i := 1) rfl
theorem wd_X1_list_0_1 : Cond.fieldLink RX1 37 "HedgeMaze$Plan" "sideCount" "I" ∈ wz_X1_list_0 := List.mem_of_getElem? (i := 2) rfl
theorem wd_X1_list_0_2 : Cond.fieldLink RX1 24 "HedgeMaze$Gardeners" "parts" "[I" ∈ wz_X1_list_0 := List.mem_of_getElem? (i := 3) rfl
theorem wd_X1_list_0_3 : Cond.fieldLink RX1 21 "HedgeMaze$Gardeners" "lists" "[[I" ∈ wz_X1_list_0 := List.mem_of_getElem? (i := 4) rfl
theorem in_X1_list_0_X0 : ∀ w ∈ wsX00, w ∈ wz_X1_list_0 := fun _ h => List.mem_cons_of_mem _ (List.mem_append_left _ (List.mem_append_left _ (List.mem_append_right _ h)))
theorem in_X1_list_0_X3 : ∀ w ∈ wsX30, w ∈ wz_X1_list_0 := fun _ h => List.mem_cons_of_mem _ (List.mem_append_left _ (List.mem_append_right _ h))
theorem in_X1_list_0_X1 : ∀ w ∈ wsX10, w ∈ wz_X1_list_0 := fun _ h => List.mem_cons_of_mem _ (List.mem_append_right _ h)
set_option maxRecDepth 20000 in
theorem g_X1_list_0_X0_openWith : GoodIn wz_X1_list_0 (wsV RX1 33 RX0 yX0_openWith wz_X0_openWith) := goodIn_r _ [5, 6, 7, 8, 9, 10, 11, 12, 13, 68, 69, 70, 71, 72, 73, 74, 75, 76, 77, 78, 79, 80, 81, 82, 83, 84, 85, 86, 87, 88] rfl (by decide +kernel)
set_option maxRecDepth 20000 in
theorem g_X1_list_0_X3_has : GoodIn wz_X1_list_0 (wsV RX1 42 RX3 yX3_has wz_X3_has) := goodIn_r _ [14, 15, 16, 17, 18, 19, 20, 21, 17, 22, 23, 24, 80, 81, 82, 83, 84, 85, 86, 87, 88] rfl (by decide +kernel)
set_option maxRecDepth 20000 in
theorem g_X1_list_0_X0_sidesByLaw : GoodIn wz_X1_list_0 (wsV RX1 50 RX0 yX0_sidesByLaw wz_X0_sidesByLaw) := goodIn_r _ [25, 26, 27, 8, 28, 29, 10, 11, 30, 31, 32, 17, 33, 23, 24, 34, 35, 36, 37, 38, 39, 40, 41, 19, 20, 21, 22, 68, 69, 70, 71, 72, 73, 74, 75, 76, 77, 78, 79, 80, 81, 82, 83, 84, 85, 86, 87, 88] rfl (by decide +kernel)
set_option maxRecDepth 20000 in
theorem g_X1_list_0_X3_joins : GoodIn wz_X1_list_0 (wsV RX1 54 RX3 yX3_joins wz_X3_joins) := goodIn_r _ [42, 43, 44, 17, 45, 23, 35, 36, 46, 47, 48, 17, 49, 50, 80, 81, 82, 83, 84, 85, 86, 87, 88] rfl (by decide +kernel)
set_option maxRecDepth 20000 in
theorem g_X1_list_0_X3_partBeside : GoodIn wz_X1_list_0 (wsV RX1 46 RX3 yX3_partBeside wz_X3_partBeside) := goodIn_r _ [51, 52, 53, 17, 54, 23, 35, 24, 34, 46, 47, 48, 17, 49, 50, 55, 56, 57, 58, 59, 60, 61, 62, 63, 64, 65, 66, 67, 80, 81, 82, 83, 84, 85, 86, 87, 88] rfl (by decide +kernel)
set_option maxHeartbeats 4000000 in
set_option maxRecDepth 100000 in
theorem c_X1_list_0 (l : Launch) (dC : Nat → ClassId) (dI : Nat → Nat → Nat) (sz : Nat) (gn : Nat) (gno : Nat) (gnl : Int32) (gns : Nat) (gnp : Nat) (gnkp : ClassId) (gnP : Nat → Int32) (gnks : ClassId) (gnS : Nat → Option Nat) (gr0 : Nat) (gnkr0 : ClassId) (gR0 : Nat → Int32) (gd : Nat) (gdl : Int32) (gdh : Int64) (gdw : Int64) (gdi : Int32) (gde : Int32) (gdc : Int32) (gdt : Nat) (gdg : Int32) (gdu : Nat) (gdn : Int32) (gdx : Nat) (pl : Nat) (plw : Int32) (pld : Int32) (plc : Int32) (pls : Int32) (plm : Int64) (plf : Nat) (plo : Nat) (plb : Nat) (pla : Nat) (plkf : ClassId) (plF : Nat → Int32) (plko : ClassId) (plO : Nat → Int32) (plkb : ClassId) (plB : Nat → Int64) (plka : ClassId) (plA : Nat → Int32) (p0 : Int64) (hS0 : gnS 0 = some gr0) (h_pls : 0 ≤ pls.toInt ∧ pls.toInt ≤ 40) (hR_plf : RG plF 40 0 24) (hR_plo : RG plO 40 0 24) : Met l yX1_list wz_X1_list_0 ({ frames := 3, cells := 0, slots := 0, locals := 91 }) (va_Pc [.ref gn, .ref gd, .long p0, .int 0] (fun U => U.heap.size = sz ∧ va_P (dC, dI) vwCl [(gn, .inr (1, [.ref gno, .int gnl, .ref gns, .ref gnp])), (gnp, .inl (gnkp, 40, .inl gnP)), (gns, .inl (gnks, 3, .inr (.inr (.inr (.inr gnS))))), (gr0, .inl (gnkr0, 480, .inl gR0)), (gd, .inr (0, [.ref pl, .int gdl, .long gdh, .long gdw, .int gdi, .int gde, .int gdc, .ref gdt, .int gdg, .ref gdu, .int gdn, .ref gdx])), (pl, .inr (3, [.int plw, .int pld, .int plc, .int pls, .long plm, .ref plf, .ref plo, .ref plb, .ref pla])), (plf, .inl (plkf, 40, .inl plF)), (plo, .inl (plko, 40, .inl plO)), (plb, .inl (plkb, 40, .inr (.inl plB))), (pla, .inl (plka, 100, .inl plA))] U.heap ∧ va_K (dC, dI) vwCl [(gnkp, .int), (gnks, .array .int), (gnkr0, .int), (plkf, .int), (plko, .int), (plkb, .long), (plka, .int)] U ∧ va_D (fun _ => True) [(gn, .inr (1, [.ref gno, .int gnl, .ref gns, .ref gnp])), (gnp, .inl (gnkp, 40, .inl gnP)), (gns, .inl (gnks, 3, .inr (.inr (.inr (.inr gnS))))), (gr0, .inl (gnkr0, 480, .inl gR0)), (gd, .inr (0, [.ref pl, .int gdl, .long gdh, .long gdw, .int gdi, .int gde, .int gdc, .ref gdt, .int gdg, .ref gdu, .int gdn, .ref gdx])), (pl, .inr (3, [.int plw, .int pld, .int plc, .int pls, .long plm, .ref plf, .ref plo, .ref plb, .ref pla])), (plf, .inl (plkf, 40, .inl plF)), (plo, .inl (plko, 40, .inl plO)), (plb, .inl (plkb, 40, .inr (.inl plB))), (pla, .inl (plka, 100, .inl plA))])) (va_Qi (fun (r : Int32) (u : (Nat → Int32) × (Nat → Int32)) => (0 ≤ r.toInt ∧ r.toInt ≤ 480)) (fun (u : (Nat → Int32) × (Nat → Int32)) (t : State) => va_P (dC, dI) vwCl [(gn, .inr (1, [.ref gno, .int gnl, .ref gns, .ref gnp])), (gnp, .inl (gnkp, 40, .inl u.1)), (gns, .inl (gnks, 3, .inr (.inr (.inr (.inr gnS))))), (gr0, .inl (gnkr0, 480, .inl u.2)), (gd, .inr (0, [.ref pl, .int gdl, .long gdh, .long gdw, .int gdi, .int gde, .int gdc, .ref gdt, .int gdg, .ref gdu, .int gdn, .ref gdx])), (pl, .inr (3, [.int plw, .int pld, .int plc, .int pls, .long plm, .ref plf, .ref plo, .ref plb, .ref pla])), (plf, .inl (plkf, 40, .inl plF)), (plo, .inl (plko, 40, .inl plO)), (plb, .inl (plkb, 40, .inr (.inl plB))), (pla, .inl (plka, 100, .inl plA))] t.heap ∧ va_K (dC, dI) vwCl [] t ∧ va_D (va_A [(gn, .inr (1, [.ref gno, .int gnl, .ref gns, .ref gnp])), (gnp, .inl (gnkp, 40, .inl gnP)), (gns, .inl (gnks, 3, .inr (.inr (.inr (.inr gnS))))), (gr0, .inl (gnkr0, 480, .inl gR0)), (gd, .inr (0, [.ref pl, .int gdl, .long gdh, .long gdw, .int gdi, .int gde, .int gdc, .ref gdt, .int gdg, .ref gdu, .int gdn, .ref gdx])), (pl, .inr (3, [.int plw, .int pld, .int plc, .int pls, .long plm, .ref plf, .ref plo, .ref plb, .ref pla])), (plf, .inl (plkf, 40, .inl plF)), (plo, .inl (plko, 40, .inl plO)), (plb, .inl (plkb, 40, .inr (.inl plB))), (pla, .inl (plka, 100, .inl plA))] sz) [(gn, .inr (1, [.ref gno, .int gnl, .ref gns, .ref gnp])), (gnp, .inl (gnkp, 40, .inl u.1)), (gns, .inl (gnks, 3, .inr (.inr (.inr (.inr gnS))))), (gr0, .inl (gnkr0, 480, .inl u.2)), (gd, .inr (0, [.ref pl, .int gdl, .long gdh, .long gdw, .int gdi, .int gde, .int gdc, .ref gdt, .int gdg, .ref gdu, .int gdn, .ref gdx])), (pl, .inr (3, [.int plw, .int pld, .int plc, .int pls, .long plm, .ref plf, .ref plo, .ref plb, .ref pla])), (plf, .inl (plkf, 40, .inl plF)), (plo, .inl (plko, 40, .inl plO)), (plb, .inl (plkb, 40, .inr (.inl plB))), (pla, .inl (plka, 100, .inl plA))]) (va_A [(gn, .inr (1, [.ref gno, .int gnl, .ref gns, .ref gnp])), (gnp, .inl (gnkp, 40, .inl gnP)), (gns, .inl (gnks, 3, .inr (.inr (.inr (.inr gnS))))), (gr0, .inl (gnkr0, 480, .inl gR0)), (gd, .inr (0, [.ref pl, .int gdl, .long gdh, .long gdw, .int gdi, .int gde, .int gdc, .ref gdt, .int gdg, .ref gdu, .int gdn, .ref gdx])), (pl, .inr (3, [.int plw, .int pld, .int plc, .int pls, .long plm, .ref plf, .ref plo, .ref plb, .ref pla])), (plf, .inl (plkf, 40, .inl plF)), (plo, .inl (plko, 40, .inl plO)), (plb, .inl (plkb, 40, .inr (.inl plB))), (pla, .inl (plka, 100, .inl plA))] sz)) 0 0 (va_A [(gn, .inr (1, [.ref gno, .int gnl, .ref gns, .ref gnp])), (gnp, .inl (gnkp, 40, .inl gnP)), (gns, .inl (gnks, 3, .inr (.inr (.inr (.inr gnS))))), (gr0, .inl (gnkr0, 480, .inl gR0)), (gd, .inr (0, [.ref pl, .int gdl, .long gdh, .long gdw, .int gdi, .int gde, .int gdc, .ref gdt, .int gdg, .ref gdu, .int gdn, .ref gdx])), (pl, .inr (3, [.int plw, .int pld, .int plc, .int pls, .long plm, .ref plf, .ref plo, .ref plb, .ref pla])), (plf, .inl (plkf, 40, .inl plF)), (plo, .inl (plko, 40, .inl plO)), (plb, .inl (plkb, 40, .inr (.inl plB))), (pla, .inl (plka, 100, .inl plA))] sz) := by
  refine Met.ofW (cc := cX1_list) (maxL := 13) (ret := (some .int)) (by decide) rfl ?_
  intro p e s m args below meth c s₁ B hml hv
  obtain ⟨rfl, hsz, hP, hK, hD0⟩ := hv
  have hx := B.exec
  have hb := B.bytes
  have hr := B.returns
  have hts := atoms_spec (ws := wz_X1_list_0) B.pre
  have hown : s.vm.findClass RX1 = some m.cls := findClass_of_methodNamed B.named
  have hlocks := B.notSynchronized
  subst hsz
  have hD := hD0.self (sz := s.heap.size)
  generalize hAe : va_A [(gn, .inr (1, [.ref gno, .int gnl, .ref gns, .ref gnp])), (gnp, .inl (gnkp, 40, .inl gnP)), (gns, .inl (gnks, 3, .inr (.inr (.inr (.inr gnS))))), (gr0, .inl (gnkr0, 480, .inl gR0)), (gd, .inr (0, [.ref pl, .int gdl, .long gdh, .long gdw, .int gdi, .int gde, .int gdc, .ref gdt, .int gdg, .ref gdu, .int gdn, .ref gdx])), (pl, .inr (3, [.int plw, .int pld, .int plc, .int pls, .long plm, .ref plf, .ref plo, .ref plb, .ref pla])), (plf, .inl (plkf, 40, .inl plF)), (plo, .inl (plko, 40, .inl plO)), (plb, .inl (plkb, 40, .inr (.inl plB))), (pla, .inl (plka, 100, .inl plA))] s.heap.size = A at hD ⊢
  have hA : ∀ q : Nat, s.heap.size ≤ q → A q := fun q h => by rw [← hAe]; exact Or.inr h
  have hS : va_S A s.heap s.heap [] := va_S.rf
  have hP : va_P (dC, dI) vwCl [(gn, .inr (1, [.ref gno, .int gnl, .ref gns, .ref gnp])), (gnp, .inl (gnkp, 40, .inl gnP)), (gns, .inl (gnks, 3, .inr (.inr (.inr (.inr gnS))))), (gr0, .inl (gnkr0, 480, .inl gR0)), (gd, .inr (0, [.ref pl, .int gdl, .long gdh, .long gdw, .int gdi, .int gde, .int gdc, .ref gdt, .int gdg, .ref gdu, .int gdn, .ref gdx])), (pl, .inr (3, [.int plw, .int pld, .int plc, .int pls, .long plm, .ref plf, .ref plo, .ref plb, .ref pla])), (plf, .inl (plkf, 40, .inl plF)), (plo, .inl (plko, 40, .inl plO)), (plb, .inl (plkb, 40, .inr (.inl plB))), (pla, .inl (plka, 100, .inl plA))] s.heap := hP
  have hl := lv_entry ([.ref gn, .ref gd, .long p0, .int 0]) (n := 13) (Nat.le_of_ble_eq_true rfl)
  rw [lg_entry_eq]
  generalize (lg_sl ([.ref gn, .ref gd, .long p0, .int 0]) ++ List.replicate (13 - (lg_sl ([.ref gn, .ref gd, .long p0, .int 0])).length) Slot.unset).toArray = ls at hl ⊢
  have hl : lv_has ls 13 [(0, .ref gn), (1, .ref gd), (2, .long p0), (4, .int 0)] := hl
  refine lv_iload hx hb dX1_list_0 (lv_at hl 3 rfl) ?_
  refine lv_if_lt (tgt := 11) hx hb dX1_list_2 (by decide) (fun h => absurd h (by decide)) (fun _ => ?_)
  refine lv_iload hx hb dX1_list_5 (lv_at hl 3 rfl) ?_
  refine lv_iconst (v := 3) hx hb dX1_list_7 (by decide) ?_
  refine lv_icmp_lt (tgt := 13) hx hb dX1_list_8 (by decide) (fun _ => ?_) (fun h => absurd (by decide) h)
  refine lv_aload_n hx hb dX1_list_13 rfl (lv_at hl 1 rfl) ?_
  refine va_get (D := (dC, dI)) (ci := 0) (v := .ref pl) (C := RX0) (T := TX0) (N := 12) hx hb hts in_X1_list_0_X0 hown hK hP 4 rfl rfl 0 (by decide) (hts _ wd_X1_list_0_0) (fun _ h9 => h9) rfl dX1_list_14 ?_
  refine lv_astore (lv' := [(5, .ref pl), (0, .ref gn), (1, .ref gd), (2, .long p0), (4, .int 0)]) hx hb dX1_list_17 hl (by decide) rfl (fun ls hl => ?_)
  refine lv_aload_n hx hb dX1_list_19 rfl (lv_at hl 2 rfl) ?_
  refine lv_lload_n hx hb dX1_list_20 rfl (lv_at hl 3 rfl) ?_
  have hPc := hP.sub (ws' := [(gd, .inr (0, [.ref pl, .int gdl, .long gdh, .long gdw, .int gdi, .int gde, .int gdc, .ref gdt, .int gdg, .ref gdu, .int gdn, .ref gdx])), (pl, .inr (3, [.int plw, .int pld, .int plc, .int pls, .long plm, .ref plf, .ref plo, .ref plb, .ref pla]))]) [4, 5] rfl
  have hDc := hD.sub (ws' := [(gd, .inr (0, [.ref pl, .int gdl, .long gdh, .long gdw, .int gdi, .int gde, .int gdc, .ref gdt, .int gdg, .ref gdu, .int gdn, .ref gdx])), (pl, .inr (3, [.int plw, .int pld, .int plc, .int pls, .long plm, .ref plf, .ref plo, .ref plb, .ref pla]))]) [4, 5] (by decide) rfl
  have hKc := hK.sub (tys' := []) [] rfl
  have hFc := va_free (wc := [(gd, .inr (0, [.ref pl, .int gdl, .long gdh, .long gdw, .int gdi, .int gde, .int gdc, .ref gdt, .int gdg, .ref gdu, .int gdn, .ref gdx])), (pl, .inr (3, [.int plw, .int pld, .int plc, .int pls, .long plm, .ref plf, .ref plo, .ref plb, .ref pla]))]) hD hS hA [4, 5] rfl
  refine va_calll (va_runV (As := [.long p0]) (rest := []) ⟨hx, hb, hml, hown, hts⟩ (c_X0_openWith l dC dI s.heap.size gd gdl gdh gdw gdi gde gdc gdt gdg gdu gdn gdx pl plw pld plc pls plm plf plo plb pla p0 ) (cwV 1 hts g_X1_list_0_X0_openWith rfl rfl rfl (by decide +kernel) ⟨Nat.le_of_ble_eq_true rfl, Nat.le_of_ble_eq_true rfl⟩) ⟨fun a U g mk q => by obtain ⟨q0, q1, qP, qK, qD⟩ := q; exact ⟨q0, q1, qP, va_K.moved (u := U) (U := U.calling g mk a) (Vm.Alike.refl U.vm) qK, qD⟩, va_recv hKc hPc (ci := 0) (q0 := 0) rfl rfl, fun U hU hW => ⟨rfl, by rw [hU], by rw [hU]; exact hPc, va_K.moved hW.alike hKc, hDc.weaken (fun _ _ _ _ => trivial)⟩⟩ rfl rfl hl.1 rfl (lv_room (Nat.le_of_ble_eq_true rfl)) dX1_list_21 ⟨Nat.le_of_ble_eq_true rfl, Nat.le_of_ble_eq_true rfl⟩) hS (fun q _ h => hFc q h) hFc (fun r_3 u t H1 locs ht hvm hw_4 hB hz1 hk1 hS => ?_)
  obtain ⟨hP1, hK1, hD1⟩ := hB
  have hP1 : va_P (dC, dI) vwCl [(gd, .inr (0, [.ref pl, .int gdl, .long gdh, .long gdw, .int gdi, .int gde, .int gdc, .ref gdt, .int gdg, .ref gdu, .int gdn, .ref gdx])), (pl, .inr (3, [.int plw, .int pld, .int plc, .int pls, .long plm, .ref plf, .ref plo, .ref plb, .ref pla]))] t.heap := hP1
  rw [ht] at hP1
  try dsimp only at hw_4
  obtain ⟨hP, hD⟩ := va_join (wr := [(gn, .inr (1, [.ref gno, .int gnl, .ref gns, .ref gnp])), (gnp, .inl (gnkp, 40, .inl gnP)), (gns, .inl (gnks, 3, .inr (.inr (.inr (.inr gnS))))), (gr0, .inl (gnkr0, 480, .inl gR0)), (plf, .inl (plkf, 40, .inl plF)), (plo, .inl (plko, 40, .inl plO)), (plb, .inl (plkb, 40, .inr (.inl plB))), (pla, .inl (plka, 100, .inl plA))]) (w1 := [(gd, .inr (0, [.ref pl, .int gdl, .long gdh, .long gdw, .int gdi, .int gde, .int gdc, .ref gdt, .int gdg, .ref gdu, .int gdn, .ref gdx])), (pl, .inr (3, [.int plw, .int pld, .int plc, .int pls, .long plm, .ref plf, .ref plo, .ref plb, .ref pla]))]) hP hD [4, 5] [0, 1, 2, 3, 6, 7, 8, 9] rfl rfl (by decide) (by decide) hk1 hFc hP1 hD1
  generalize H1 = H at hP hS ⊢
  have hP : va_P (dC, dI) vwCl [(gn, .inr (1, [.ref gno, .int gnl, .ref gns, .ref gnp])), (gnp, .inl (gnkp, 40, .inl gnP)), (gns, .inl (gnks, 3, .inr (.inr (.inr (.inr gnS))))), (gr0, .inl (gnkr0, 480, .inl gR0)), (plf, .inl (plkf, 40, .inl plF)), (plo, .inl (plko, 40, .inl plO)), (plb, .inl (plkb, 40, .inr (.inl plB))), (pla, .inl (plka, 100, .inl plA)), (gd, .inr (0, [.ref pl, .int gdl, .long gdh, .long gdw, .int gdi, .int gde, .int gdc, .ref gdt, .int gdg, .ref gdu, .int gdn, .ref gdx])), (pl, .inr (3, [.int plw, .int pld, .int plc, .int pls, .long plm, .ref plf, .ref plo, .ref plb, .ref pla]))] H := hP
  have hD : va_D A [(gn, .inr (1, [.ref gno, .int gnl, .ref gns, .ref gnp])), (gnp, .inl (gnkp, 40, .inl gnP)), (gns, .inl (gnks, 3, .inr (.inr (.inr (.inr gnS))))), (gr0, .inl (gnkr0, 480, .inl gR0)), (plf, .inl (plkf, 40, .inl plF)), (plo, .inl (plko, 40, .inl plO)), (plb, .inl (plkb, 40, .inr (.inl plB))), (pla, .inl (plka, 100, .inl plA)), (gd, .inr (0, [.ref pl, .int gdl, .long gdh, .long gdw, .int gdi, .int gde, .int gdc, .ref gdt, .int gdg, .ref gdu, .int gdn, .ref gdx])), (pl, .inr (3, [.int plw, .int pld, .int plc, .int pls, .long plm, .ref plf, .ref plo, .ref plb, .ref pla]))] := hD
  refine lv_lstore (lv' := [(6, .long r_3), (5, .ref pl), (0, .ref gn), (1, .ref gd), (2, .long p0), (4, .int 0)]) hx hb dX1_list_24 hl (by decide) rfl (fun ls hl => ?_)
  refine lv_iconst (v := 0) hx hb dX1_list_26 (by decide) ?_
  refine lv_istore (lv' := [(8, .int 0), (6, .long r_3), (5, .ref pl), (0, .ref gn), (1, .ref gd), (2, .long p0), (4, .int 0)]) hx hb dX1_list_27 hl (by decide) rfl (fun ls hl => ?_)
  refine lp_W (I := fun (a : Int32 × (Nat → Int32)) H locs ls => (0 ≤ a.1.toInt ∧ a.1.toInt ≤ 40) ∧ va_P (dC, dI) vwCl [(gn, .inr (1, [.ref gno, .int gnl, .ref gns, .ref gnp])), (gnp, .inl (gnkp, 40, .inl a.2)), (gns, .inl (gnks, 3, .inr (.inr (.inr (.inr gnS))))), (gr0, .inl (gnkr0, 480, .inl gR0)), (plf, .inl (plkf, 40, .inl plF)), (plo, .inl (plko, 40, .inl plO)), (plb, .inl (plkb, 40, .inr (.inl plB))), (pla, .inl (plka, 100, .inl plA)), (gd, .inr (0, [.ref pl, .int gdl, .long gdh, .long gdw, .int gdi, .int gde, .int gdc, .ref gdt, .int gdg, .ref gdu, .int gdn, .ref gdx])), (pl, .inr (3, [.int plw, .int pld, .int plc, .int pls, .long plm, .ref plf, .ref plo, .ref plb, .ref pla]))] H ∧ va_D A [(gn, .inr (1, [.ref gno, .int gnl, .ref gns, .ref gnp])), (gnp, .inl (gnkp, 40, .inl a.2)), (gns, .inl (gnks, 3, .inr (.inr (.inr (.inr gnS))))), (gr0, .inl (gnkr0, 480, .inl gR0)), (plf, .inl (plkf, 40, .inl plF)), (plo, .inl (plko, 40, .inl plO)), (plb, .inl (plkb, 40, .inr (.inl plB))), (pla, .inl (plka, 100, .inl plA)), (gd, .inr (0, [.ref pl, .int gdl, .long gdh, .long gdw, .int gdi, .int gde, .int gdc, .ref gdt, .int gdg, .ref gdu, .int gdn, .ref gdx])), (pl, .inr (3, [.int plw, .int pld, .int plc, .int pls, .long plm, .ref plf, .ref plo, .ref plb, .ref pla]))] ∧ va_S A s.heap H locs ∧ lv_has ls 13 [(8, .int a.1), (6, .long r_3), (5, .ref pl), (0, .ref gn), (1, .ref gd), (2, .long p0), (4, .int 0)]) (μ := fun a => (40 - a.1.toInt).toNat) ?_ ((0 : Int32), gnP) ⟨(by have k0 : (0 : Int32).toInt = 0 := (by decide); (try dsimp only); omega), hP.sub [0, 1, 2, 3, 4, 5, 6, 7, 8, 9] rfl, hD.sub [0, 1, 2, 3, 4, 5, 6, 7, 8, 9] (by decide) rfl, hS, lv_sub hl [0, 1, 2, 3, 4, 5, 6] rfl⟩
  intro a H locs ls hI ih29
  obtain ⟨t0, P1⟩ := a
  obtain ⟨h_t0, hP, hD, hS, hl⟩ := hI
  have h_t0 : 0 ≤ t0.toInt ∧ t0.toInt ≤ 40 := h_t0
  have hP : va_P (dC, dI) vwCl [(gn, .inr (1, [.ref gno, .int gnl, .ref gns, .ref gnp])), (gnp, .inl (gnkp, 40, .inl P1)), (gns, .inl (gnks, 3, .inr (.inr (.inr (.inr gnS))))), (gr0, .inl (gnkr0, 480, .inl gR0)), (plf, .inl (plkf, 40, .inl plF)), (plo, .inl (plko, 40, .inl plO)), (plb, .inl (plkb, 40, .inr (.inl plB))), (pla, .inl (plka, 100, .inl plA)), (gd, .inr (0, [.ref pl, .int gdl, .long gdh, .long gdw, .int gdi, .int gde, .int gdc, .ref gdt, .int gdg, .ref gdu, .int gdn, .ref gdx])), (pl, .inr (3, [.int plw, .int pld, .int plc, .int pls, .long plm, .ref plf, .ref plo, .ref plb, .ref pla]))] H := hP
  have hD : va_D A [(gn, .inr (1, [.ref gno, .int gnl, .ref gns, .ref gnp])), (gnp, .inl (gnkp, 40, .inl P1)), (gns, .inl (gnks, 3, .inr (.inr (.inr (.inr gnS))))), (gr0, .inl (gnkr0, 480, .inl gR0)), (plf, .inl (plkf, 40, .inl plF)), (plo, .inl (plko, 40, .inl plO)), (plb, .inl (plkb, 40, .inr (.inl plB))), (pla, .inl (plka, 100, .inl plA)), (gd, .inr (0, [.ref pl, .int gdl, .long gdh, .long gdw, .int gdi, .int gde, .int gdc, .ref gdt, .int gdg, .ref gdu, .int gdn, .ref gdx])), (pl, .inr (3, [.int plw, .int pld, .int plc, .int pls, .long plm, .ref plf, .ref plo, .ref plb, .ref pla]))] := hD
  have hl : lv_has ls 13 [(8, .int t0), (6, .long r_3), (5, .ref pl), (0, .ref gn), (1, .ref gd), (2, .long p0), (4, .int 0)] := hl
  refine lv_iload hx hb dX1_list_29 (lv_at hl 0 rfl) ?_
  refine lv_aload hx hb dX1_list_31 (lv_at hl 2 rfl) ?_
  refine va_get (D := (dC, dI)) (ci := 3) (v := .int pls) (C := RX3) (T := TX3) (N := 9) hx hb hts in_X1_list_0_X3 hown hK hP 9 rfl rfl 3 (by decide) (hts _ wd_X1_list_0_1) (fun _ h9 => h9) rfl dX1_list_33 ?_
  refine lv_icmp_ge (tgt := 77) hx hb dX1_list_36 (by decide) (fun c_5 => ?_) (fun c_5 => ?_)
  · have c_5 : pls.toInt ≤ t0.toInt := i_le (a := pls) (b := t0) rfl rfl c_5
    refine lv_iconst (v := 0) hx hb dX1_list_77 (by decide) ?_
    refine lv_istore (lv' := [(8, .int 0), (6, .long r_3), (5, .ref pl), (0, .ref gn), (1, .ref gd), (2, .long p0), (4, .int 0)]) hx hb dX1_list_78 hl (by decide) rfl (fun ls hl => ?_)
    refine lv_iconst (v := 0) hx hb dX1_list_80 (by decide) ?_
    refine lv_istore (lv' := [(9, .int 0), (8, .int 0), (6, .long r_3), (5, .ref pl), (0, .ref gn), (1, .ref gd), (2, .long p0), (4, .int 0)]) hx hb dX1_list_81 hl (by decide) rfl (fun ls hl => ?_)
    refine lp_W (I := fun (a : Int32 × Int32 × (Nat → Int32)) H locs ls => (0 ≤ a.1.toInt ∧ a.1.toInt ≤ 40) ∧ (0 ≤ a.2.1.toInt ∧ a.2.1.toInt ≤ 480) ∧ va_P (dC, dI) vwCl [(gn, .inr (1, [.ref gno, .int gnl, .ref gns, .ref gnp])), (gnp, .inl (gnkp, 40, .inl P1)), (gns, .inl (gnks, 3, .inr (.inr (.inr (.inr gnS))))), (gr0, .inl (gnkr0, 480, .inl a.2.2)), (plf, .inl (plkf, 40, .inl plF)), (plo, .inl (plko, 40, .inl plO)), (plb, .inl (plkb, 40, .inr (.inl plB))), (pla, .inl (plka, 100, .inl plA)), (gd, .inr (0, [.ref pl, .int gdl, .long gdh, .long gdw, .int gdi, .int gde, .int gdc, .ref gdt, .int gdg, .ref gdu, .int gdn, .ref gdx])), (pl, .inr (3, [.int plw, .int pld, .int plc, .int pls, .long plm, .ref plf, .ref plo, .ref plb, .ref pla]))] H ∧ va_D A [(gn, .inr (1, [.ref gno, .int gnl, .ref gns, .ref gnp])), (gnp, .inl (gnkp, 40, .inl P1)), (gns, .inl (gnks, 3, .inr (.inr (.inr (.inr gnS))))), (gr0, .inl (gnkr0, 480, .inl a.2.2)), (plf, .inl (plkf, 40, .inl plF)), (plo, .inl (plko, 40, .inl plO)), (plb, .inl (plkb, 40, .inr (.inl plB))), (pla, .inl (plka, 100, .inl plA)), (gd, .inr (0, [.ref pl, .int gdl, .long gdh, .long gdw, .int gdi, .int gde, .int gdc, .ref gdt, .int gdg, .ref gdu, .int gdn, .ref gdx])), (pl, .inr (3, [.int plw, .int pld, .int plc, .int pls, .long plm, .ref plf, .ref plo, .ref plb, .ref pla]))] ∧ va_S A s.heap H locs ∧ lv_has ls 13 [(9, .int a.1), (8, .int a.2.1), (6, .long r_3), (5, .ref pl), (0, .ref gn), (1, .ref gd), (2, .long p0), (4, .int 0)]) (μ := fun a => (40 - a.1.toInt).toNat) ?_ ((0 : Int32), (0 : Int32), gR0) ⟨(by have k0 : (0 : Int32).toInt = 0 := (by decide); (try dsimp only); omega), (by have k0 : (0 : Int32).toInt = 0 := (by decide); (try dsimp only); omega), hP.sub [0, 1, 2, 3, 4, 5, 6, 7, 8, 9] rfl, hD.sub [0, 1, 2, 3, 4, 5, 6, 7, 8, 9] (by decide) rfl, hS, lv_sub hl [0, 1, 2, 3, 4, 5, 6, 7] rfl⟩
    intro a H locs ls hI ih83
    obtain ⟨f1, fd, R1⟩ := a
    obtain ⟨h_f1, h_fd, hP, hD, hS, hl⟩ := hI
    have h_f1 : 0 ≤ f1.toInt ∧ f1.toInt ≤ 40 := h_f1
    have h_fd : 0 ≤ fd.toInt ∧ fd.toInt ≤ 480 := h_fd
    have hP : va_P (dC, dI) vwCl [(gn, .inr (1, [.ref gno, .int gnl, .ref gns, .ref gnp])), (gnp, .inl (gnkp, 40, .inl P1)), (gns, .inl (gnks, 3, .inr (.inr (.inr (.inr gnS))))), (gr0, .inl (gnkr0, 480, .inl R1)), (plf, .inl (plkf, 40, .inl plF)), (plo, .inl (plko, 40, .inl plO)), (plb, .inl (plkb, 40, .inr (.inl plB))), (pla, .inl (plka, 100, .inl plA)), (gd, .inr (0, [.ref pl, .int gdl, .long gdh, .long gdw, .int gdi, .int gde, .int gdc, .ref gdt, .int gdg, .ref gdu, .int gdn, .ref gdx])), (pl, .inr (3, [.int plw, .int pld, .int plc, .int pls, .long plm, .ref plf, .ref plo, .ref plb, .ref pla]))] H := hP
    have hD : va_D A [(gn, .inr (1, [.ref gno, .int gnl, .ref gns, .ref gnp])), (gnp, .inl (gnkp, 40, .inl P1)), (gns, .inl (gnks, 3, .inr (.inr (.inr (.inr gnS))))), (gr0, .inl (gnkr0, 480, .inl R1)), (plf, .inl (plkf, 40, .inl plF)), (plo, .inl (plko, 40, .inl plO)), (plb, .inl (plkb, 40, .inr (.inl plB))), (pla, .inl (plka, 100, .inl plA)), (gd, .inr (0, [.ref pl, .int gdl, .long gdh, .long gdw, .int gdi, .int gde, .int gdc, .ref gdt, .int gdg, .ref gdu, .int gdn, .ref gdx])), (pl, .inr (3, [.int plw, .int pld, .int plc, .int pls, .long plm, .ref plf, .ref plo, .ref plb, .ref pla]))] := hD
    have hl : lv_has ls 13 [(9, .int f1), (8, .int fd), (6, .long r_3), (5, .ref pl), (0, .ref gn), (1, .ref gd), (2, .long p0), (4, .int 0)] := hl
    refine lv_iload hx hb dX1_list_83 (lv_at hl 0 rfl) ?_
    refine lv_aload hx hb dX1_list_85 (lv_at hl 3 rfl) ?_
    refine va_get (D := (dC, dI)) (ci := 3) (v := .int pls) (C := RX3) (T := TX3) (N := 9) hx hb hts in_X1_list_0_X3 hown hK hP 9 rfl rfl 3 (by decide) (hts _ wd_X1_list_0_1) (fun _ h9 => h9) rfl dX1_list_87 ?_
    refine lv_icmp_ge (tgt := 209) hx hb dX1_list_90 (by decide) (fun c_6 => ?_) (fun c_6 => ?_)
    · have c_6 : pls.toInt ≤ f1.toInt := i_le (a := pls) (b := f1) rfl rfl c_6
      refine lv_iload hx hb dX1_list_209 (lv_at hl 1 rfl) ?_
      have hP9 := hP.sub (ws' := [(gn, .inr (1, [.ref gno, .int gnl, .ref gns, .ref gnp])), (gnp, .inl (gnkp, 40, .inl P1)), (gns, .inl (gnks, 3, .inr (.inr (.inr (.inr gnS))))), (gr0, .inl (gnkr0, 480, .inl R1)), (gd, .inr (0, [.ref pl, .int gdl, .long gdh, .long gdw, .int gdi, .int gde, .int gdc, .ref gdt, .int gdg, .ref gdu, .int gdn, .ref gdx])), (pl, .inr (3, [.int plw, .int pld, .int plc, .int pls, .long plm, .ref plf, .ref plo, .ref plb, .ref pla])), (plf, .inl (plkf, 40, .inl plF)), (plo, .inl (plko, 40, .inl plO)), (plb, .inl (plkb, 40, .inr (.inl plB))), (pla, .inl (plka, 100, .inl plA))]) [0, 1, 2, 3, 8, 9, 4, 5, 6, 7] rfl
      have hD9 := hD.sub (ws' := [(gn, .inr (1, [.ref gno, .int gnl, .ref gns, .ref gnp])), (gnp, .inl (gnkp, 40, .inl P1)), (gns, .inl (gnks, 3, .inr (.inr (.inr (.inr gnS))))), (gr0, .inl (gnkr0, 480, .inl R1)), (gd, .inr (0, [.ref pl, .int gdl, .long gdh, .long gdw, .int gdi, .int gde, .int gdc, .ref gdt, .int gdg, .ref gdu, .int gdn, .ref gdx])), (pl, .inr (3, [.int plw, .int pld, .int plc, .int pls, .long plm, .ref plf, .ref plo, .ref plb, .ref pla])), (plf, .inl (plkf, 40, .inl plF)), (plo, .inl (plko, 40, .inl plO)), (plb, .inl (plkb, 40, .inr (.inl plB))), (pla, .inl (plka, 100, .inl plA))]) [0, 1, 2, 3, 8, 9, 4, 5, 6, 7] (by decide) rfl
      have hK9 := hK.sub (tys' := []) [] rfl
      refine W.widen (k := 0) (n := 0) (by omega) (by omega) ?_
      exact W.iret (v := fd) hx hb hr (fun t ht hW => ⟨⟨fd, (P1, R1), rfl, (by first | rfl | trivial | (dsimp only; omega) | omega | (left; rfl) | (right; rfl) | (dsimp only; first | (left; rfl) | (right; rfl))), by rw [ht]; exact hP9, va_K.moved hW.alike hK9, hD9⟩, hS.F ht⟩) hS.2.2 dX1_list_211
    · have c_6 : f1.toInt < pls.toInt := i_nle (a := pls) (b := f1) rfl rfl c_6
      refine lv_aload hx hb dX1_list_93 (lv_at hl 3 rfl) ?_
      refine lv_lload_n hx hb dX1_list_95 rfl (lv_at hl 6 rfl) ?_
      refine lv_iload hx hb dX1_list_96 (lv_at hl 0 rfl) ?_
      have hPc := hP.sub (ws' := [(pl, .inr (3, [.int plw, .int pld, .int plc, .int pls, .long plm, .ref plf, .ref plo, .ref plb, .ref pla])), (plb, .inl (plkb, 40, .inr (.inl plB)))]) [9, 6] rfl
      have hDc := hD.sub (ws' := [(pl, .inr (3, [.int plw, .int pld, .int plc, .int pls, .long plm, .ref plf, .ref plo, .ref plb, .ref pla])), (plb, .inl (plkb, 40, .inr (.inl plB)))]) [9, 6] (by decide) rfl
      have hKc := hK.sub (tys' := [(plkb, .long)]) [5] rfl
      have hFc := va_free (wc := [(pl, .inr (3, [.int plw, .int pld, .int plc, .int pls, .long plm, .ref plf, .ref plo, .ref plb, .ref pla])), (plb, .inl (plkb, 40, .inr (.inl plB)))]) hD hS hA [9, 6] rfl
      refine va_calli (va_runV (As := [.long p0, .int f1]) (rest := []) ⟨hx, hb, hml, hown, hts⟩ (c_X3_has l dC dI H.size pl plw pld plc pls plm plf plo plb pla plkb plB p0 f1 (by omega)) (cwV 2 hts g_X1_list_0_X3_has rfl rfl rfl (by decide +kernel) ⟨Nat.le_of_ble_eq_true rfl, Nat.le_of_ble_eq_true rfl⟩) ⟨fun a U g mk q => by obtain ⟨q0, q1, qP, qK, qD⟩ := q; exact ⟨q0, q1, qP, va_K.moved (u := U) (U := U.calling g mk a) (Vm.Alike.refl U.vm) qK, qD⟩, va_recv hKc hPc (ci := 3) (q0 := 0) rfl rfl, fun U hU hW => ⟨rfl, by rw [hU], by rw [hU]; exact hPc, va_K.moved hW.alike hKc, hDc.weaken (fun _ _ _ _ => trivial)⟩⟩ rfl rfl hl.1 rfl (lv_room (Nat.le_of_ble_eq_true rfl)) dX1_list_98 ⟨Nat.le_of_ble_eq_true rfl, Nat.le_of_ble_eq_true rfl⟩) hS (fun q _ h => hFc q h) hFc (fun r_7 u t H1 locs ht hvm hw_8 hB hz1 hk1 hS => ?_)
      obtain ⟨hP1, hK1, hD1⟩ := hB
      have hP1 : va_P (dC, dI) vwCl [(pl, .inr (3, [.int plw, .int pld, .int plc, .int pls, .long plm, .ref plf, .ref plo, .ref plb, .ref pla])), (plb, .inl (plkb, 40, .inr (.inl plB)))] t.heap := hP1
      rw [ht] at hP1
      try dsimp only at hw_8
      obtain ⟨hP, hD⟩ := va_join (wr := [(gn, .inr (1, [.ref gno, .int gnl, .ref gns, .ref gnp])), (gnp, .inl (gnkp, 40, .inl P1)), (gns, .inl (gnks, 3, .inr (.inr (.inr (.inr gnS))))), (gr0, .inl (gnkr0, 480, .inl R1)), (plf, .inl (plkf, 40, .inl plF)), (plo, .inl (plko, 40, .inl plO)), (pla, .inl (plka, 100, .inl plA)), (gd, .inr (0, [.ref pl, .int gdl, .long gdh, .long gdw, .int gdi, .int gde, .int gdc, .ref gdt, .int gdg, .ref gdu, .int gdn, .ref gdx]))]) (w1 := [(pl, .inr (3, [.int plw, .int pld, .int plc, .int pls, .long plm, .ref plf, .ref plo, .ref plb, .ref pla])), (plb, .inl (plkb, 40, .inr (.inl plB)))]) hP hD [9, 6] [0, 1, 2, 3, 4, 5, 7, 8] rfl rfl (by decide) (by decide) hk1 hFc hP1 hD1
      generalize H1 = H at hP hS ⊢
      have hP : va_P (dC, dI) vwCl [(gn, .inr (1, [.ref gno, .int gnl, .ref gns, .ref gnp])), (gnp, .inl (gnkp, 40, .inl P1)), (gns, .inl (gnks, 3, .inr (.inr (.inr (.inr gnS))))), (gr0, .inl (gnkr0, 480, .inl R1)), (plf, .inl (plkf, 40, .inl plF)), (plo, .inl (plko, 40, .inl plO)), (pla, .inl (plka, 100, .inl plA)), (gd, .inr (0, [.ref pl, .int gdl, .long gdh, .long gdw, .int gdi, .int gde, .int gdc, .ref gdt, .int gdg, .ref gdu, .int gdn, .ref gdx])), (pl, .inr (3, [.int plw, .int pld, .int plc, .int pls, .long plm, .ref plf, .ref plo, .ref plb, .ref pla])), (plb, .inl (plkb, 40, .inr (.inl plB)))] H := hP
      have hD : va_D A [(gn, .inr (1, [.ref gno, .int gnl, .ref gns, .ref gnp])), (gnp, .inl (gnkp, 40, .inl P1)), (gns, .inl (gnks, 3, .inr (.inr (.inr (.inr gnS))))), (gr0, .inl (gnkr0, 480, .inl R1)), (plf, .inl (plkf, 40, .inl plF)), (plo, .inl (plko, 40, .inl plO)), (pla, .inl (plka, 100, .inl plA)), (gd, .inr (0, [.ref pl, .int gdl, .long gdh, .long gdw, .int gdi, .int gde, .int gdc, .ref gdt, .int gdg, .ref gdu, .int gdn, .ref gdx])), (pl, .inr (3, [.int plw, .int pld, .int plc, .int pls, .long plm, .ref plf, .ref plo, .ref plb, .ref pla])), (plb, .inl (plkb, 40, .inr (.inl plB)))] := hD
      refine lv_if_eq (tgt := 116) hx hb dX1_list_101 (by decide) (fun c_9 => ?_) (fun c_9 => ?_)
      · have c_9 : r_7.toInt = 0 := i_eq (a := r_7) (b := 0) rfl (by decide) c_9
        refine lv_lconst (v := 0) hx hb dX1_list_116 (by decide) ?_
        refine lv_lstore (lv' := [(10, .long 0), (9, .int f1), (8, .int fd), (6, .long r_3), (5, .ref pl), (0, .ref gn), (1, .ref gd), (2, .long p0), (4, .int 0)]) hx hb dX1_list_117 hl (by decide) rfl (fun ls hl => ?_)
        refine lv_iconst (v := 0) hx hb dX1_list_119 (by decide) ?_
        refine lv_istore (lv' := [(12, .int 0), (10, .long 0), (9, .int f1), (8, .int fd), (6, .long r_3), (5, .ref pl), (0, .ref gn), (1, .ref gd), (2, .long p0), (4, .int 0)]) hx hb dX1_list_120 hl (by decide) rfl (fun ls hl => ?_)
        refine lp_W (I := fun (a : Int32 × Int32 × (Nat → Int32)) H locs ls => (0 ≤ a.1.toInt ∧ a.1.toInt ≤ 40) ∧ (0 ≤ a.2.1.toInt ∧ a.2.1.toInt ≤ 480) ∧ va_P (dC, dI) vwCl [(gn, .inr (1, [.ref gno, .int gnl, .ref gns, .ref gnp])), (gnp, .inl (gnkp, 40, .inl P1)), (gns, .inl (gnks, 3, .inr (.inr (.inr (.inr gnS))))), (gr0, .inl (gnkr0, 480, .inl a.2.2)), (plf, .inl (plkf, 40, .inl plF)), (plo, .inl (plko, 40, .inl plO)), (pla, .inl (plka, 100, .inl plA)), (gd, .inr (0, [.ref pl, .int gdl, .long gdh, .long gdw, .int gdi, .int gde, .int gdc, .ref gdt, .int gdg, .ref gdu, .int gdn, .ref gdx])), (pl, .inr (3, [.int plw, .int pld, .int plc, .int pls, .long plm, .ref plf, .ref plo, .ref plb, .ref pla])), (plb, .inl (plkb, 40, .inr (.inl plB)))] H ∧ va_D A [(gn, .inr (1, [.ref gno, .int gnl, .ref gns, .ref gnp])), (gnp, .inl (gnkp, 40, .inl P1)), (gns, .inl (gnks, 3, .inr (.inr (.inr (.inr gnS))))), (gr0, .inl (gnkr0, 480, .inl a.2.2)), (plf, .inl (plkf, 40, .inl plF)), (plo, .inl (plko, 40, .inl plO)), (pla, .inl (plka, 100, .inl plA)), (gd, .inr (0, [.ref pl, .int gdl, .long gdh, .long gdw, .int gdi, .int gde, .int gdc, .ref gdt, .int gdg, .ref gdu, .int gdn, .ref gdx])), (pl, .inr (3, [.int plw, .int pld, .int plc, .int pls, .long plm, .ref plf, .ref plo, .ref plb, .ref pla])), (plb, .inl (plkb, 40, .inr (.inl plB)))] ∧ va_S A s.heap H locs ∧ lv_has ls 13 [(12, .int a.1), (10, .long 0), (9, .int f1), (8, .int a.2.1), (6, .long r_3), (5, .ref pl), (0, .ref gn), (1, .ref gd), (2, .long p0), (4, .int 0)]) (μ := fun a => (40 - a.1.toInt).toNat) ?_ ((0 : Int32), fd, R1) ⟨(by have k0 : (0 : Int32).toInt = 0 := (by decide); (try dsimp only); omega), (by have k0 : (0 : Int32).toInt = 0 := (by decide); (try dsimp only); omega), hP.sub [0, 1, 2, 3, 4, 5, 6, 7, 8, 9] rfl, hD.sub [0, 1, 2, 3, 4, 5, 6, 7, 8, 9] (by decide) rfl, hS, lv_sub hl [0, 1, 2, 3, 4, 5, 6, 7, 8, 9] rfl⟩
        intro a H locs ls hI ih122
        obtain ⟨t2, fe, R2⟩ := a
        obtain ⟨h_t2, h_fe, hP, hD, hS, hl⟩ := hI
        have h_t2 : 0 ≤ t2.toInt ∧ t2.toInt ≤ 40 := h_t2
        have h_fe : 0 ≤ fe.toInt ∧ fe.toInt ≤ 480 := h_fe
        have hP : va_P (dC, dI) vwCl [(gn, .inr (1, [.ref gno, .int gnl, .ref gns, .ref gnp])), (gnp, .inl (gnkp, 40, .inl P1)), (gns, .inl (gnks, 3, .inr (.inr (.inr (.inr gnS))))), (gr0, .inl (gnkr0, 480, .inl R2)), (plf, .inl (plkf, 40, .inl plF)), (plo, .inl (plko, 40, .inl plO)), (pla, .inl (plka, 100, .inl plA)), (gd, .inr (0, [.ref pl, .int gdl, .long gdh, .long gdw, .int gdi, .int gde, .int gdc, .ref gdt, .int gdg, .ref gdu, .int gdn, .ref gdx])), (pl, .inr (3, [.int plw, .int pld, .int plc, .int pls, .long plm, .ref plf, .ref plo, .ref plb, .ref pla])), (plb, .inl (plkb, 40, .inr (.inl plB)))] H := hP
        have hD : va_D A [(gn, .inr (1, [.ref gno, .int gnl, .ref gns, .ref gnp])), (gnp, .inl (gnkp, 40, .inl P1)), (gns, .inl (gnks, 3, .inr (.inr (.inr (.inr gnS))))), (gr0, .inl (gnkr0, 480, .inl R2)), (plf, .inl (plkf, 40, .inl plF)), (plo, .inl (plko, 40, .inl plO)), (pla, .inl (plka, 100, .inl plA)), (gd, .inr (0, [.ref pl, .int gdl, .long gdh, .long gdw, .int gdi, .int gde, .int gdc, .ref gdt, .int gdg, .ref gdu, .int gdn, .ref gdx])), (pl, .inr (3, [.int plw, .int pld, .int plc, .int pls, .long plm, .ref plf, .ref plo, .ref plb, .ref pla])), (plb, .inl (plkb, 40, .inr (.inl plB)))] := hD
        have hl : lv_has ls 13 [(12, .int t2), (10, .long 0), (9, .int f1), (8, .int fe), (6, .long r_3), (5, .ref pl), (0, .ref gn), (1, .ref gd), (2, .long p0), (4, .int 0)] := hl
        refine lv_iload hx hb dX1_list_122 (lv_at hl 0 rfl) ?_
        refine lv_aload hx hb dX1_list_124 (lv_at hl 5 rfl) ?_
        refine va_get (D := (dC, dI)) (ci := 3) (v := .int pls) (C := RX3) (T := TX3) (N := 9) hx hb hts in_X1_list_0_X3 hown hK hP 8 rfl rfl 3 (by decide) (hts _ wd_X1_list_0_1) (fun _ h9 => h9) rfl dX1_list_126 ?_
        refine lv_icmp_ge (tgt := 203) hx hb dX1_list_129 (by decide) (fun c_10 => ?_) (fun c_10 => ?_)
        · have c_10 : pls.toInt ≤ t2.toInt := i_le (a := pls) (b := t2) rfl rfl c_10
          obtain ⟨x_11, ex_11⟩ : ∃ y9 : Int32, y9 = f1 + Int32.ofInt 1 := ⟨_, rfl⟩
          have zx_11 : x_11.toInt = f1.toInt + 1 := by rw [ex_11]; exact i_add rfl (show (Int32.ofInt 1).toInt = 1 by decide) (by omega) (by omega)
          refine lv_iinc (v := x_11) (lv' := [(9, .int x_11), (12, .int t2), (10, .long 0), (8, .int fe), (6, .long r_3), (5, .ref pl), (0, .ref gn), (1, .ref gd), (2, .long p0), (4, .int 0)]) hx hb dX1_list_203 hl (k := 2) rfl (by rw [ex_11]) (by decide) rfl (fun ls hl => ?_)
          refine lv_goto (tgt := 83) hx hb dX1_list_206 (by decide) ?_
          exact ih83 (x_11, fe, R2) _ _ _ ⟨(by (try dsimp only); omega), (by (try dsimp only); omega), hP.sub [0, 1, 2, 3, 4, 5, 9, 6, 7, 8] rfl, hD.sub [0, 1, 2, 3, 4, 5, 9, 6, 7, 8] (by decide) rfl, hS, lv_sub hl [0, 3, 4, 5, 6, 7, 8, 9] rfl⟩ (by (try dsimp only); omega)
        · have c_10 : t2.toInt < pls.toInt := i_nle (a := pls) (b := t2) rfl rfl c_10
          refine lv_lload hx hb dX1_list_132 (lv_at hl 1 rfl) ?_
          refine lv_lconst (v := 0) hx hb dX1_list_134 (by decide) ?_
          refine W.lcmp hx hb dX1_list_135 ?_
          refine lv_if_eq (tgt := 203) hx hb dX1_list_136 (by decide) (fun _ => ?_) (fun h => absurd (by decide) h)
          obtain ⟨x_13, ex_13⟩ : ∃ y9 : Int32, y9 = f1 + Int32.ofInt 1 := ⟨_, rfl⟩
          have zx_13 : x_13.toInt = f1.toInt + 1 := by rw [ex_13]; exact i_add rfl (show (Int32.ofInt 1).toInt = 1 by decide) (by omega) (by omega)
          refine lv_iinc (v := x_13) (lv' := [(9, .int x_13), (12, .int t2), (10, .long 0), (8, .int fe), (6, .long r_3), (5, .ref pl), (0, .ref gn), (1, .ref gd), (2, .long p0), (4, .int 0)]) hx hb dX1_list_203 hl (k := 2) rfl (by rw [ex_13]) (by decide) rfl (fun ls hl => ?_)
          refine lv_goto (tgt := 83) hx hb dX1_list_206 (by decide) ?_
          exact ih83 (x_13, fe, R2) _ _ _ ⟨(by (try dsimp only); omega), (by (try dsimp only); omega), hP.sub [0, 1, 2, 3, 4, 5, 9, 6, 7, 8] rfl, hD.sub [0, 1, 2, 3, 4, 5, 9, 6, 7, 8] (by decide) rfl, hS, lv_sub hl [0, 3, 4, 5, 6, 7, 8, 9] rfl⟩ (by (try dsimp only); omega)
      · have c_9 : r_7.toInt ≠ 0 := i_ne (a := r_7) (b := 0) rfl (by decide) c_9
        refine lv_lload hx hb dX1_list_104 (lv_at hl 2 rfl) ?_
        refine lv_aload_n hx hb dX1_list_106 rfl (lv_at hl 5 rfl) ?_
        refine lv_iload hx hb dX1_list_107 (lv_at hl 0 rfl) ?_
        have hPc := hP.sub (ws' := [(gd, .inr (0, [.ref pl, .int gdl, .long gdh, .long gdw, .int gdi, .int gde, .int gdc, .ref gdt, .int gdg, .ref gdu, .int gdn, .ref gdx])), (pl, .inr (3, [.int plw, .int pld, .int plc, .int pls, .long plm, .ref plf, .ref plo, .ref plb, .ref pla])), (plf, .inl (plkf, 40, .inl plF)), (plo, .inl (plko, 40, .inl plO)), (plb, .inl (plkb, 40, .inr (.inl plB))), (pla, .inl (plka, 100, .inl plA))]) [7, 8, 4, 5, 9, 6] rfl
        have hDc := hD.sub (ws' := [(gd, .inr (0, [.ref pl, .int gdl, .long gdh, .long gdw, .int gdi, .int gde, .int gdc, .ref gdt, .int gdg, .ref gdu, .int gdn, .ref gdx])), (pl, .inr (3, [.int plw, .int pld, .int plc, .int pls, .long plm, .ref plf, .ref plo, .ref plb, .ref pla])), (plf, .inl (plkf, 40, .inl plF)), (plo, .inl (plko, 40, .inl plO)), (plb, .inl (plkb, 40, .inr (.inl plB))), (pla, .inl (plka, 100, .inl plA))]) [7, 8, 4, 5, 9, 6] (by decide) rfl
        have hKc := hK.sub (tys' := [(plkf, .int), (plko, .int), (plkb, .long), (plka, .int)]) [3, 4, 5, 6] rfl
        have hFc := va_free (wc := [(gd, .inr (0, [.ref pl, .int gdl, .long gdh, .long gdw, .int gdi, .int gde, .int gdc, .ref gdt, .int gdg, .ref gdu, .int gdn, .ref gdx])), (pl, .inr (3, [.int plw, .int pld, .int plc, .int pls, .long plm, .ref plf, .ref plo, .ref plb, .ref pla])), (plf, .inl (plkf, 40, .inl plF)), (plo, .inl (plko, 40, .inl plO)), (plb, .inl (plkb, 40, .inr (.inl plB))), (pla, .inl (plka, 100, .inl plA))]) hD hS hA [7, 8, 4, 5, 9, 6] rfl
        refine va_calll (va_runV (As := [.int f1]) (rest := [.long r_3]) ⟨hx, hb, hml, hown, hts⟩ (c_X0_sidesByLaw l dC dI H.size gd gdl gdh gdw gdi gde gdc gdt gdg gdu gdn gdx pl plw pld plc pls plm plf plo plb pla plkf plF plko plO plkb plB plka plA f1 (by omega) hR_plf hR_plo) (cwV 1 hts g_X1_list_0_X0_sidesByLaw rfl rfl rfl (by decide +kernel) ⟨Nat.le_of_ble_eq_true rfl, Nat.le_of_ble_eq_true rfl⟩) ⟨fun a U g mk q => by obtain ⟨q0, q1, qP, qK, qD⟩ := q; exact ⟨q0, q1, qP, va_K.moved (u := U) (U := U.calling g mk a) (Vm.Alike.refl U.vm) qK, qD⟩, va_recv hKc hPc (ci := 0) (q0 := 0) rfl rfl, fun U hU hW => ⟨rfl, by rw [hU], by rw [hU]; exact hPc, va_K.moved hW.alike hKc, hDc.weaken (fun _ _ _ _ => trivial)⟩⟩ rfl rfl hl.1 rfl (lv_room (Nat.le_of_ble_eq_true rfl)) dX1_list_109 ⟨Nat.le_of_ble_eq_true rfl, Nat.le_of_ble_eq_true rfl⟩) hS (fun q _ h => hFc q h) hFc (fun r_14 u t H1 locs ht hvm hw_15 hB hz1 hk1 hS => ?_)
        obtain ⟨hP1, hK1, hD1⟩ := hB
        have hP1 : va_P (dC, dI) vwCl [(gd, .inr (0, [.ref pl, .int gdl, .long gdh, .long gdw, .int gdi, .int gde, .int gdc, .ref gdt, .int gdg, .ref gdu, .int gdn, .ref gdx])), (pl, .inr (3, [.int plw, .int pld, .int plc, .int pls, .long plm, .ref plf, .ref plo, .ref plb, .ref pla])), (plf, .inl (plkf, 40, .inl plF)), (plo, .inl (plko, 40, .inl plO)), (plb, .inl (plkb, 40, .inr (.inl plB))), (pla, .inl (plka, 100, .inl plA))] t.heap := hP1
        rw [ht] at hP1
        try dsimp only at hw_15
        obtain ⟨hP, hD⟩ := va_join (wr := [(gn, .inr (1, [.ref gno, .int gnl, .ref gns, .ref gnp])), (gnp, .inl (gnkp, 40, .inl P1)), (gns, .inl (gnks, 3, .inr (.inr (.inr (.inr gnS))))), (gr0, .inl (gnkr0, 480, .inl R1))]) (w1 := [(gd, .inr (0, [.ref pl, .int gdl, .long gdh, .long gdw, .int gdi, .int gde, .int gdc, .ref gdt, .int gdg, .ref gdu, .int gdn, .ref gdx])), (pl, .inr (3, [.int plw, .int pld, .int plc, .int pls, .long plm, .ref plf, .ref plo, .ref plb, .ref pla])), (plf, .inl (plkf, 40, .inl plF)), (plo, .inl (plko, 40, .inl plO)), (plb, .inl (plkb, 40, .inr (.inl plB))), (pla, .inl (plka, 100, .inl plA))]) hP hD [7, 8, 4, 5, 9, 6] [0, 1, 2, 3] rfl rfl (by decide) (by decide) hk1 hFc hP1 hD1
        generalize H1 = H at hP hS ⊢
        have hP : va_P (dC, dI) vwCl [(gn, .inr (1, [.ref gno, .int gnl, .ref gns, .ref gnp])), (gnp, .inl (gnkp, 40, .inl P1)), (gns, .inl (gnks, 3, .inr (.inr (.inr (.inr gnS))))), (gr0, .inl (gnkr0, 480, .inl R1)), (gd, .inr (0, [.ref pl, .int gdl, .long gdh, .long gdw, .int gdi, .int gde, .int gdc, .ref gdt, .int gdg, .ref gdu, .int gdn, .ref gdx])), (pl, .inr (3, [.int plw, .int pld, .int plc, .int pls, .long plm, .ref plf, .ref plo, .ref plb, .ref pla])), (plf, .inl (plkf, 40, .inl plF)), (plo, .inl (plko, 40, .inl plO)), (plb, .inl (plkb, 40, .inr (.inl plB))), (pla, .inl (plka, 100, .inl plA))] H := hP
        have hD : va_D A [(gn, .inr (1, [.ref gno, .int gnl, .ref gns, .ref gnp])), (gnp, .inl (gnkp, 40, .inl P1)), (gns, .inl (gnks, 3, .inr (.inr (.inr (.inr gnS))))), (gr0, .inl (gnkr0, 480, .inl R1)), (gd, .inr (0, [.ref pl, .int gdl, .long gdh, .long gdw, .int gdi, .int gde, .int gdc, .ref gdt, .int gdg, .ref gdu, .int gdn, .ref gdx])), (pl, .inr (3, [.int plw, .int pld, .int plc, .int pls, .long plm, .ref plf, .ref plo, .ref plb, .ref pla])), (plf, .inl (plkf, 40, .inl plF)), (plo, .inl (plko, 40, .inl plO)), (plb, .inl (plkb, 40, .inr (.inl plB))), (pla, .inl (plka, 100, .inl plA))] := hD
        refine lv_land hx hb dX1_list_112 ?_
        refine lv_topl (fun y_16 ey_16 => ?_)
        refine lv_goto (tgt := 117) hx hb dX1_list_113 (by decide) ?_
        refine lv_lstore (lv' := [(10, .long y_16), (9, .int f1), (8, .int fd), (6, .long r_3), (5, .ref pl), (0, .ref gn), (1, .ref gd), (2, .long p0), (4, .int 0)]) hx hb dX1_list_117 hl (by decide) rfl (fun ls hl => ?_)
        refine lv_iconst (v := 0) hx hb dX1_list_119 (by decide) ?_
        refine lv_istore (lv' := [(12, .int 0), (10, .long y_16), (9, .int f1), (8, .int fd), (6, .long r_3), (5, .ref pl), (0, .ref gn), (1, .ref gd), (2, .long p0), (4, .int 0)]) hx hb dX1_list_120 hl (by decide) rfl (fun ls hl => ?_)
        refine lp_W (I := fun (a : Int32 × Int32 × (Nat → Int32)) H locs ls => (0 ≤ a.1.toInt ∧ a.1.toInt ≤ 40) ∧ (0 ≤ a.2.1.toInt ∧ a.2.1.toInt ≤ 480) ∧ va_P (dC, dI) vwCl [(gn, .inr (1, [.ref gno, .int gnl, .ref gns, .ref gnp])), (gnp, .inl (gnkp, 40, .inl P1)), (gns, .inl (gnks, 3, .inr (.inr (.inr (.inr gnS))))), (gr0, .inl (gnkr0, 480, .inl a.2.2)), (gd, .inr (0, [.ref pl, .int gdl, .long gdh, .long gdw, .int gdi, .int gde, .int gdc, .ref gdt, .int gdg, .ref gdu, .int gdn, .ref gdx])), (pl, .inr (3, [.int plw, .int pld, .int plc, .int pls, .long plm, .ref plf, .ref plo, .ref plb, .ref pla])), (plf, .inl (plkf, 40, .inl plF)), (plo, .inl (plko, 40, .inl plO)), (plb, .inl (plkb, 40, .inr (.inl plB))), (pla, .inl (plka, 100, .inl plA))] H ∧ va_D A [(gn, .inr (1, [.ref gno, .int gnl, .ref gns, .ref gnp])), (gnp, .inl (gnkp, 40, .inl P1)), (gns, .inl (gnks, 3, .inr (.inr (.inr (.inr gnS))))), (gr0, .inl (gnkr0, 480, .inl a.2.2)), (gd, .inr (0, [.ref pl, .int gdl, .long gdh, .long gdw, .int gdi, .int gde, .int gdc, .ref gdt, .int gdg, .ref gdu, .int gdn, .ref gdx])), (pl, .inr (3, [.int plw, .int pld, .int plc, .int pls, .long plm, .ref plf, .ref plo, .ref plb, .ref pla])), (plf, .inl (plkf, 40, .inl plF)), (plo, .inl (plko, 40, .inl plO)), (plb, .inl (plkb, 40, .inr (.inl plB))), (pla, .inl (plka, 100, .inl plA))] ∧ va_S A s.heap H locs ∧ lv_has ls 13 [(12, .int a.1), (10, .long y_16), (9, .int f1), (8, .int a.2.1), (6, .long r_3), (5, .ref pl), (0, .ref gn), (1, .ref gd), (2, .long p0), (4, .int 0)]) (μ := fun a => (40 - a.1.toInt).toNat) ?_ ((0 : Int32), fd, R1) ⟨(by have k0 : (0 : Int32).toInt = 0 := (by decide); (try dsimp only); omega), (by have k0 : (0 : Int32).toInt = 0 := (by decide); (try dsimp only); omega), hP.sub [0, 1, 2, 3, 4, 5, 6, 7, 8, 9] rfl, hD.sub [0, 1, 2, 3, 4, 5, 6, 7, 8, 9] (by decide) rfl, hS, lv_sub hl [0, 1, 2, 3, 4, 5, 6, 7, 8, 9] rfl⟩
        intro a H locs ls hI ih122
        obtain ⟨t2, fe, R2⟩ := a
        obtain ⟨h_t2, h_fe, hP, hD, hS, hl⟩ := hI
        have h_t2 : 0 ≤ t2.toInt ∧ t2.toInt ≤ 40 := h_t2
        have h_fe : 0 ≤ fe.toInt ∧ fe.toInt ≤ 480 := h_fe
        have hP : va_P (dC, dI) vwCl [(gn, .inr (1, [.ref gno, .int gnl, .ref gns, .ref gnp])), (gnp, .inl (gnkp, 40, .inl P1)), (gns, .inl (gnks, 3, .inr (.inr (.inr (.inr gnS))))), (gr0, .inl (gnkr0, 480, .inl R2)), (gd, .inr (0, [.ref pl, .int gdl, .long gdh, .long gdw, .int gdi, .int gde, .int gdc, .ref gdt, .int gdg, .ref gdu, .int gdn, .ref gdx])), (pl, .inr (3, [.int plw, .int pld, .int plc, .int pls, .long plm, .ref plf, .ref plo, .ref plb, .ref pla])), (plf, .inl (plkf, 40, .inl plF)), (plo, .inl (plko, 40, .inl plO)), (plb, .inl (plkb, 40, .inr (.inl plB))), (pla, .inl (plka, 100, .inl plA))] H := hP
        have hD : va_D A [(gn, .inr (1, [.ref gno, .int gnl, .ref gns, .ref gnp])), (gnp, .inl (gnkp, 40, .inl P1)), (gns, .inl (gnks, 3, .inr (.inr (.inr (.inr gnS))))), (gr0, .inl (gnkr0, 480, .inl R2)), (gd, .inr (0, [.ref pl, .int gdl, .long gdh, .long gdw, .int gdi, .int gde, .int gdc, .ref gdt, .int gdg, .ref gdu, .int gdn, .ref gdx])), (pl, .inr (3, [.int plw, .int pld, .int plc, .int pls, .long plm, .ref plf, .ref plo, .ref plb, .ref pla])), (plf, .inl (plkf, 40, .inl plF)), (plo, .inl (plko, 40, .inl plO)), (plb, .inl (plkb, 40, .inr (.inl plB))), (pla, .inl (plka, 100, .inl plA))] := hD
        have hl : lv_has ls 13 [(12, .int t2), (10, .long y_16), (9, .int f1), (8, .int fe), (6, .long r_3), (5, .ref pl), (0, .ref gn), (1, .ref gd), (2, .long p0), (4, .int 0)] := hl
        refine lv_iload hx hb dX1_list_122 (lv_at hl 0 rfl) ?_
        refine lv_aload hx hb dX1_list_124 (lv_at hl 5 rfl) ?_
        refine va_get (D := (dC, dI)) (ci := 3) (v := .int pls) (C := RX3) (T := TX3) (N := 9) hx hb hts in_X1_list_0_X3 hown hK hP 5 rfl rfl 3 (by decide) (hts _ wd_X1_list_0_1) (fun _ h9 => h9) rfl dX1_list_126 ?_
        refine lv_icmp_ge (tgt := 203) hx hb dX1_list_129 (by decide) (fun c_17 => ?_) (fun c_17 => ?_)
        · have c_17 : pls.toInt ≤ t2.toInt := i_le (a := pls) (b := t2) rfl rfl c_17
          obtain ⟨x_18, ex_18⟩ : ∃ y9 : Int32, y9 = f1 + Int32.ofInt 1 := ⟨_, rfl⟩
          have zx_18 : x_18.toInt = f1.toInt + 1 := by rw [ex_18]; exact i_add rfl (show (Int32.ofInt 1).toInt = 1 by decide) (by omega) (by omega)
          refine lv_iinc (v := x_18) (lv' := [(9, .int x_18), (12, .int t2), (10, .long y_16), (8, .int fe), (6, .long r_3), (5, .ref pl), (0, .ref gn), (1, .ref gd), (2, .long p0), (4, .int 0)]) hx hb dX1_list_203 hl (k := 2) rfl (by rw [ex_18]) (by decide) rfl (fun ls hl => ?_)
          refine lv_goto (tgt := 83) hx hb dX1_list_206 (by decide) ?_
          exact ih83 (x_18, fe, R2) _ _ _ ⟨(by (try dsimp only); omega), (by (try dsimp only); omega), hP.sub [0, 1, 2, 3, 6, 7, 8, 9, 4, 5] rfl, hD.sub [0, 1, 2, 3, 6, 7, 8, 9, 4, 5] (by decide) rfl, hS, lv_sub hl [0, 3, 4, 5, 6, 7, 8, 9] rfl⟩ (by (try dsimp only); omega)
        · have c_17 : t2.toInt < pls.toInt := i_nle (a := pls) (b := t2) rfl rfl c_17
          refine lv_lload hx hb dX1_list_132 (lv_at hl 1 rfl) ?_
          refine lv_lconst (v := 0) hx hb dX1_list_134 (by decide) ?_
          refine W.lcmp hx hb dX1_list_135 ?_
          refine lv_if_eq (tgt := 203) hx hb dX1_list_136 (by decide) (fun c_19 => ?_) (fun c_19 => ?_)
          · have c_19 := (lg_cmp_eq y_16 0).mp c_19
            have c_19 : y_16.toInt = 0 := i_eqL (a := y_16) (b := 0) rfl (by decide) c_19
            obtain ⟨x_20, ex_20⟩ : ∃ y9 : Int32, y9 = f1 + Int32.ofInt 1 := ⟨_, rfl⟩
            have zx_20 : x_20.toInt = f1.toInt + 1 := by rw [ex_20]; exact i_add rfl (show (Int32.ofInt 1).toInt = 1 by decide) (by omega) (by omega)
            refine lv_iinc (v := x_20) (lv' := [(9, .int x_20), (12, .int t2), (10, .long y_16), (8, .int fe), (6, .long r_3), (5, .ref pl), (0, .ref gn), (1, .ref gd), (2, .long p0), (4, .int 0)]) hx hb dX1_list_203 hl (k := 2) rfl (by rw [ex_20]) (by decide) rfl (fun ls hl => ?_)
            refine lv_goto (tgt := 83) hx hb dX1_list_206 (by decide) ?_
            exact ih83 (x_20, fe, R2) _ _ _ ⟨(by (try dsimp only); omega), (by (try dsimp only); omega), hP.sub [0, 1, 2, 3, 6, 7, 8, 9, 4, 5] rfl, hD.sub [0, 1, 2, 3, 6, 7, 8, 9, 4, 5] (by decide) rfl, hS, lv_sub hl [0, 3, 4, 5, 6, 7, 8, 9] rfl⟩ (by (try dsimp only); omega)
          · have c_19 := fun h => c_19 ((lg_cmp_eq y_16 0).mpr h)
            have c_19 : y_16.toInt ≠ 0 := i_neL (a := y_16) (b := 0) rfl (by decide) c_19
            refine lv_aload hx hb dX1_list_139 (lv_at hl 5 rfl) ?_
            refine lv_lload hx hb dX1_list_141 (lv_at hl 1 rfl) ?_
            refine lv_iload hx hb dX1_list_143 (lv_at hl 0 rfl) ?_
            have hPc := hP.sub (ws' := [(pl, .inr (3, [.int plw, .int pld, .int plc, .int pls, .long plm, .ref plf, .ref plo, .ref plb, .ref pla])), (plb, .inl (plkb, 40, .inr (.inl plB)))]) [5, 8] rfl
            have hDc := hD.sub (ws' := [(pl, .inr (3, [.int plw, .int pld, .int plc, .int pls, .long plm, .ref plf, .ref plo, .ref plb, .ref pla])), (plb, .inl (plkb, 40, .inr (.inl plB)))]) [5, 8] (by decide) rfl
            have hKc := hK.sub (tys' := [(plkb, .long)]) [5] rfl
            have hFc := va_free (wc := [(pl, .inr (3, [.int plw, .int pld, .int plc, .int pls, .long plm, .ref plf, .ref plo, .ref plb, .ref pla])), (plb, .inl (plkb, 40, .inr (.inl plB)))]) hD hS hA [5, 8] rfl
            refine va_calli (va_runV (As := [.long y_16, .int t2]) (rest := []) ⟨hx, hb, hml, hown, hts⟩ (c_X3_has l dC dI H.size pl plw pld plc pls plm plf plo plb pla plkb plB y_16 t2 (by omega)) (cwV 2 hts g_X1_list_0_X3_has rfl rfl rfl (by decide +kernel) ⟨Nat.le_of_ble_eq_true rfl, Nat.le_of_ble_eq_true rfl⟩) ⟨fun a U g mk q => by obtain ⟨q0, q1, qP, qK, qD⟩ := q; exact ⟨q0, q1, qP, va_K.moved (u := U) (U := U.calling g mk a) (Vm.Alike.refl U.vm) qK, qD⟩, va_recv hKc hPc (ci := 3) (q0 := 0) rfl rfl, fun U hU hW => ⟨rfl, by rw [hU], by rw [hU]; exact hPc, va_K.moved hW.alike hKc, hDc.weaken (fun _ _ _ _ => trivial)⟩⟩ rfl rfl hl.1 rfl (lv_room (Nat.le_of_ble_eq_true rfl)) dX1_list_145 ⟨Nat.le_of_ble_eq_true rfl, Nat.le_of_ble_eq_true rfl⟩) hS (fun q _ h => hFc q h) hFc (fun r_21 u t H1 locs ht hvm hw_22 hB hz1 hk1 hS => ?_)
            obtain ⟨hP1, hK1, hD1⟩ := hB
            have hP1 : va_P (dC, dI) vwCl [(pl, .inr (3, [.int plw, .int pld, .int plc, .int pls, .long plm, .ref plf, .ref plo, .ref plb, .ref pla])), (plb, .inl (plkb, 40, .inr (.inl plB)))] t.heap := hP1
            rw [ht] at hP1
            try dsimp only at hw_22
            obtain ⟨hP, hD⟩ := va_join (wr := [(gn, .inr (1, [.ref gno, .int gnl, .ref gns, .ref gnp])), (gnp, .inl (gnkp, 40, .inl P1)), (gns, .inl (gnks, 3, .inr (.inr (.inr (.inr gnS))))), (gr0, .inl (gnkr0, 480, .inl R2)), (gd, .inr (0, [.ref pl, .int gdl, .long gdh, .long gdw, .int gdi, .int gde, .int gdc, .ref gdt, .int gdg, .ref gdu, .int gdn, .ref gdx])), (plf, .inl (plkf, 40, .inl plF)), (plo, .inl (plko, 40, .inl plO)), (pla, .inl (plka, 100, .inl plA))]) (w1 := [(pl, .inr (3, [.int plw, .int pld, .int plc, .int pls, .long plm, .ref plf, .ref plo, .ref plb, .ref pla])), (plb, .inl (plkb, 40, .inr (.inl plB)))]) hP hD [5, 8] [0, 1, 2, 3, 4, 6, 7, 9] rfl rfl (by decide) (by decide) hk1 hFc hP1 hD1
            generalize H1 = H at hP hS ⊢
            have hP : va_P (dC, dI) vwCl [(gn, .inr (1, [.ref gno, .int gnl, .ref gns, .ref gnp])), (gnp, .inl (gnkp, 40, .inl P1)), (gns, .inl (gnks, 3, .inr (.inr (.inr (.inr gnS))))), (gr0, .inl (gnkr0, 480, .inl R2)), (gd, .inr (0, [.ref pl, .int gdl, .long gdh, .long gdw, .int gdi, .int gde, .int gdc, .ref gdt, .int gdg, .ref gdu, .int gdn, .ref gdx])), (plf, .inl (plkf, 40, .inl plF)), (plo, .inl (plko, 40, .inl plO)), (pla, .inl (plka, 100, .inl plA)), (pl, .inr (3, [.int plw, .int pld, .int plc, .int pls, .long plm, .ref plf, .ref plo, .ref plb, .ref pla])), (plb, .inl (plkb, 40, .inr (.inl plB)))] H := hP
            have hD : va_D A [(gn, .inr (1, [.ref gno, .int gnl, .ref gns, .ref gnp])), (gnp, .inl (gnkp, 40, .inl P1)), (gns, .inl (gnks, 3, .inr (.inr (.inr (.inr gnS))))), (gr0, .inl (gnkr0, 480, .inl R2)), (gd, .inr (0, [.ref pl, .int gdl, .long gdh, .long gdw, .int gdi, .int gde, .int gdc, .ref gdt, .int gdg, .ref gdu, .int gdn, .ref gdx])), (plf, .inl (plkf, 40, .inl plF)), (plo, .inl (plko, 40, .inl plO)), (pla, .inl (plka, 100, .inl plA)), (pl, .inr (3, [.int plw, .int pld, .int plc, .int pls, .long plm, .ref plf, .ref plo, .ref plb, .ref pla])), (plb, .inl (plkb, 40, .inr (.inl plB)))] := hD
            refine lv_if_eq (tgt := 197) hx hb dX1_list_148 (by decide) (fun c_23 => ?_) (fun c_23 => ?_)
            · have c_23 : r_21.toInt = 0 := i_eq (a := r_21) (b := 0) rfl (by decide) c_23
              obtain ⟨x_24, ex_24⟩ : ∃ y9 : Int32, y9 = t2 + Int32.ofInt 1 := ⟨_, rfl⟩
              have zx_24 : x_24.toInt = t2.toInt + 1 := by rw [ex_24]; exact i_add rfl (show (Int32.ofInt 1).toInt = 1 by decide) (by omega) (by omega)
              refine lv_iinc (v := x_24) (lv' := [(12, .int x_24), (10, .long y_16), (9, .int f1), (8, .int fe), (6, .long r_3), (5, .ref pl), (0, .ref gn), (1, .ref gd), (2, .long p0), (4, .int 0)]) hx hb dX1_list_197 hl (k := 0) rfl (by rw [ex_24]) (by decide) rfl (fun ls hl => ?_)
              refine lv_goto (tgt := 122) hx hb dX1_list_200 (by decide) ?_
              exact ih122 (x_24, fe, R2) _ _ _ ⟨(by (try dsimp only); omega), (by (try dsimp only); omega), hP.sub [0, 1, 2, 3, 4, 8, 5, 6, 9, 7] rfl, hD.sub [0, 1, 2, 3, 4, 8, 5, 6, 9, 7] (by decide) rfl, hS, lv_sub hl [0, 1, 2, 3, 4, 5, 6, 7, 8, 9] rfl⟩ (by (try dsimp only); omega)
            · have c_23 : r_21.toInt ≠ 0 := i_ne (a := r_21) (b := 0) rfl (by decide) c_23
              refine lv_aload hx hb dX1_list_151 (lv_at hl 5 rfl) ?_
              refine lv_iload hx hb dX1_list_153 (lv_at hl 2 rfl) ?_
              refine lv_aload_n hx hb dX1_list_155 rfl (lv_at hl 6 rfl) ?_
              refine va_get (D := (dC, dI)) (ci := 1) (v := .ref gnp) (C := RX1) (T := TX1) (N := 4) hx hb hts in_X1_list_0_X1 hown hK hP 0 rfl rfl 3 (by decide) (hts _ wd_X1_list_0_2) (fun _ h9 => h9) rfl dX1_list_156 ?_
              refine lv_iload hx hb dX1_list_159 (lv_at hl 0 rfl) ?_
              refine va_iald hx hb hK hP 1 0 rfl rfl (i_in rfl (by omega) (by omega)) dX1_list_161 ?_
              refine lv_topi (fun v_25 ev_25 => ?_)
              have hPc := hP.sub (ws' := [(pl, .inr (3, [.int plw, .int pld, .int plc, .int pls, .long plm, .ref plf, .ref plo, .ref plb, .ref pla])), (plf, .inl (plkf, 40, .inl plF)), (plo, .inl (plko, 40, .inl plO))]) [8, 5, 6] rfl
              have hDc := hD.sub (ws' := [(pl, .inr (3, [.int plw, .int pld, .int plc, .int pls, .long plm, .ref plf, .ref plo, .ref plb, .ref pla])), (plf, .inl (plkf, 40, .inl plF)), (plo, .inl (plko, 40, .inl plO))]) [8, 5, 6] (by decide) rfl
              have hKc := hK.sub (tys' := [(plkf, .int), (plko, .int)]) [3, 4] rfl
              have hFc := va_free (wc := [(pl, .inr (3, [.int plw, .int pld, .int plc, .int pls, .long plm, .ref plf, .ref plo, .ref plb, .ref pla])), (plf, .inl (plkf, 40, .inl plF)), (plo, .inl (plko, 40, .inl plO))]) hD hS hA [8, 5, 6] rfl
              refine va_calli (va_runV (As := [.int f1, .int v_25]) (rest := []) ⟨hx, hb, hml, hown, hts⟩ (c_X3_joins l dC dI H.size pl plw pld plc pls plm plf plo plb pla plkf plF plko plO f1 v_25 (by omega) hR_plf hR_plo) (cwV 2 hts g_X1_list_0_X3_joins rfl rfl rfl (by decide +kernel) ⟨Nat.le_of_ble_eq_true rfl, Nat.le_of_ble_eq_true rfl⟩) ⟨fun a U g mk q => by obtain ⟨q0, q1, qP, qK, qD⟩ := q; exact ⟨q0, q1, qP, va_K.moved (u := U) (U := U.calling g mk a) (Vm.Alike.refl U.vm) qK, qD⟩, va_recv hKc hPc (ci := 3) (q0 := 0) rfl rfl, fun U hU hW => ⟨rfl, by rw [hU], by rw [hU]; exact hPc, va_K.moved hW.alike hKc, hDc.weaken (fun _ _ _ _ => trivial)⟩⟩ rfl rfl hl.1 rfl (lv_room (Nat.le_of_ble_eq_true rfl)) dX1_list_162 ⟨Nat.le_of_ble_eq_true rfl, Nat.le_of_ble_eq_true rfl⟩) hS (fun q _ h => hFc q h) hFc (fun r_26 u t H1 locs ht hvm hw_27 hB hz1 hk1 hS => ?_)
              obtain ⟨hP1, hK1, hD1⟩ := hB
              have hP1 : va_P (dC, dI) vwCl [(pl, .inr (3, [.int plw, .int pld, .int plc, .int pls, .long plm, .ref plf, .ref plo, .ref plb, .ref pla])), (plf, .inl (plkf, 40, .inl plF)), (plo, .inl (plko, 40, .inl plO))] t.heap := hP1
              rw [ht] at hP1
              try dsimp only at hw_27
              obtain ⟨hP, hD⟩ := va_join (wr := [(gn, .inr (1, [.ref gno, .int gnl, .ref gns, .ref gnp])), (gnp, .inl (gnkp, 40, .inl P1)), (gns, .inl (gnks, 3, .inr (.inr (.inr (.inr gnS))))), (gr0, .inl (gnkr0, 480, .inl R2)), (gd, .inr (0, [.ref pl, .int gdl, .long gdh, .long gdw, .int gdi, .int gde, .int gdc, .ref gdt, .int gdg, .ref gdu, .int gdn, .ref gdx])), (pla, .inl (plka, 100, .inl plA)), (plb, .inl (plkb, 40, .inr (.inl plB)))]) (w1 := [(pl, .inr (3, [.int plw, .int pld, .int plc, .int pls, .long plm, .ref plf, .ref plo, .ref plb, .ref pla])), (plf, .inl (plkf, 40, .inl plF)), (plo, .inl (plko, 40, .inl plO))]) hP hD [8, 5, 6] [0, 1, 2, 3, 4, 7, 9] rfl rfl (by decide) (by decide) hk1 hFc hP1 hD1
              generalize H1 = H at hP hS ⊢
              have hP : va_P (dC, dI) vwCl [(gn, .inr (1, [.ref gno, .int gnl, .ref gns, .ref gnp])), (gnp, .inl (gnkp, 40, .inl P1)), (gns, .inl (gnks, 3, .inr (.inr (.inr (.inr gnS))))), (gr0, .inl (gnkr0, 480, .inl R2)), (gd, .inr (0, [.ref pl, .int gdl, .long gdh, .long gdw, .int gdi, .int gde, .int gdc, .ref gdt, .int gdg, .ref gdu, .int gdn, .ref gdx])), (pla, .inl (plka, 100, .inl plA)), (plb, .inl (plkb, 40, .inr (.inl plB))), (pl, .inr (3, [.int plw, .int pld, .int plc, .int pls, .long plm, .ref plf, .ref plo, .ref plb, .ref pla])), (plf, .inl (plkf, 40, .inl plF)), (plo, .inl (plko, 40, .inl plO))] H := hP
              have hD : va_D A [(gn, .inr (1, [.ref gno, .int gnl, .ref gns, .ref gnp])), (gnp, .inl (gnkp, 40, .inl P1)), (gns, .inl (gnks, 3, .inr (.inr (.inr (.inr gnS))))), (gr0, .inl (gnkr0, 480, .inl R2)), (gd, .inr (0, [.ref pl, .int gdl, .long gdh, .long gdw, .int gdi, .int gde, .int gdc, .ref gdt, .int gdg, .ref gdu, .int gdn, .ref gdx])), (pla, .inl (plka, 100, .inl plA)), (plb, .inl (plkb, 40, .inr (.inl plB))), (pl, .inr (3, [.int plw, .int pld, .int plc, .int pls, .long plm, .ref plf, .ref plo, .ref plb, .ref pla])), (plf, .inl (plkf, 40, .inl plF)), (plo, .inl (plko, 40, .inl plO))] := hD
              refine lv_if_eq (tgt := 197) hx hb dX1_list_165 (by decide) (fun c_28 => ?_) (fun c_28 => ?_)
              · have c_28 : r_26.toInt = 0 := i_eq (a := r_26) (b := 0) rfl (by decide) c_28
                obtain ⟨x_29, ex_29⟩ : ∃ y9 : Int32, y9 = t2 + Int32.ofInt 1 := ⟨_, rfl⟩
                have zx_29 : x_29.toInt = t2.toInt + 1 := by rw [ex_29]; exact i_add rfl (show (Int32.ofInt 1).toInt = 1 by decide) (by omega) (by omega)
                refine lv_iinc (v := x_29) (lv' := [(12, .int x_29), (10, .long y_16), (9, .int f1), (8, .int fe), (6, .long r_3), (5, .ref pl), (0, .ref gn), (1, .ref gd), (2, .long p0), (4, .int 0)]) hx hb dX1_list_197 hl (k := 0) rfl (by rw [ex_29]) (by decide) rfl (fun ls hl => ?_)
                refine lv_goto (tgt := 122) hx hb dX1_list_200 (by decide) ?_
                exact ih122 (x_29, fe, R2) _ _ _ ⟨(by (try dsimp only); omega), (by (try dsimp only); omega), hP.sub [0, 1, 2, 3, 4, 7, 8, 9, 6, 5] rfl, hD.sub [0, 1, 2, 3, 4, 7, 8, 9, 6, 5] (by decide) rfl, hS, lv_sub hl [0, 1, 2, 3, 4, 5, 6, 7, 8, 9] rfl⟩ (by (try dsimp only); omega)
              · have c_28 : r_26.toInt ≠ 0 := i_ne (a := r_26) (b := 0) rfl (by decide) c_28
                refine lv_iload hx hb dX1_list_168 (lv_at hl 3 rfl) ?_
                refine lv_sipush (v := 480) hx hb dX1_list_170 (by decide) ?_
                refine lv_icmp_ge (tgt := 197) hx hb dX1_list_173 (by decide) (fun c_30 => ?_) (fun c_30 => ?_)
                · have c_30 : 480 ≤ fe.toInt := i_le (a := 480) (b := fe) (by decide) rfl c_30
                  obtain ⟨x_31, ex_31⟩ : ∃ y9 : Int32, y9 = t2 + Int32.ofInt 1 := ⟨_, rfl⟩
                  have zx_31 : x_31.toInt = t2.toInt + 1 := by rw [ex_31]; exact i_add rfl (show (Int32.ofInt 1).toInt = 1 by decide) (by omega) (by omega)
                  refine lv_iinc (v := x_31) (lv' := [(12, .int x_31), (10, .long y_16), (9, .int f1), (8, .int fe), (6, .long r_3), (5, .ref pl), (0, .ref gn), (1, .ref gd), (2, .long p0), (4, .int 0)]) hx hb dX1_list_197 hl (k := 0) rfl (by rw [ex_31]) (by decide) rfl (fun ls hl => ?_)
                  refine lv_goto (tgt := 122) hx hb dX1_list_200 (by decide) ?_
                  exact ih122 (x_31, fe, R2) _ _ _ ⟨(by (try dsimp only); omega), (by (try dsimp only); omega), hP.sub [0, 1, 2, 3, 4, 7, 8, 9, 6, 5] rfl, hD.sub [0, 1, 2, 3, 4, 7, 8, 9, 6, 5] (by decide) rfl, hS, lv_sub hl [0, 1, 2, 3, 4, 5, 6, 7, 8, 9] rfl⟩ (by (try dsimp only); omega)
                · have c_30 : fe.toInt < 480 := i_nle (a := 480) (b := fe) (by decide) rfl c_30
                  refine lv_aload_n hx hb dX1_list_176 rfl (lv_at hl 6 rfl) ?_
                  refine va_get (D := (dC, dI)) (ci := 1) (v := .ref gns) (C := RX1) (T := TX1) (N := 4) hx hb hts in_X1_list_0_X1 hown hK hP 0 rfl rfl 2 (by decide) (hts _ wd_X1_list_0_3) (fun _ h9 => h9) rfl dX1_list_177 ?_
                  refine lv_iload hx hb dX1_list_180 (lv_at hl 9 rfl) ?_
                  refine va_aldA (i := 0) hx hb hK hP 2 1 rfl rfl (vp_in_iff.mpr ⟨by decide, by decide⟩) dX1_list_182 ?_
                  refine W.eq (g2 := F0 m 183 ls (.ref gr0 :: [])) (by rw [show gnS (0 : Int32).toNatClampNeg = some gr0 from hS0]; rfl) ?_
                  refine lv_iload hx hb dX1_list_183 (lv_at hl 3 rfl) ?_
                  refine lv_bipush (v := 100) hx hb dX1_list_185 (by decide) ?_
                  refine lv_iload hx hb dX1_list_187 (lv_at hl 2 rfl) ?_
                  refine lv_imul hx hb dX1_list_189 ?_
                  refine lv_topi (fun x_32 ex_32 => ?_)
                  refine lv_iload hx hb dX1_list_190 (lv_at hl 0 rfl) ?_
                  refine lv_iadd hx hb dX1_list_192 ?_
                  refine lv_topi (fun x_33 ex_33 => ?_)
                  refine va_iast hx hb hK hP hD hS 3 2 rfl rfl (i_in rfl (by omega) (by omega)) dX1_list_193 (fun H locs hP hD hS => ?_)
                  have hP : va_P (dC, dI) vwCl [(gn, .inr (1, [.ref gno, .int gnl, .ref gns, .ref gnp])), (gnp, .inl (gnkp, 40, .inl P1)), (gns, .inl (gnks, 3, .inr (.inr (.inr (.inr gnS))))), (gr0, .inl (gnkr0, 480, .inl (upd R2 fe.toNatClampNeg x_33))), (gd, .inr (0, [.ref pl, .int gdl, .long gdh, .long gdw, .int gdi, .int gde, .int gdc, .ref gdt, .int gdg, .ref gdu, .int gdn, .ref gdx])), (pla, .inl (plka, 100, .inl plA)), (plb, .inl (plkb, 40, .inr (.inl plB))), (pl, .inr (3, [.int plw, .int pld, .int plc, .int pls, .long plm, .ref plf, .ref plo, .ref plb, .ref pla])), (plf, .inl (plkf, 40, .inl plF)), (plo, .inl (plko, 40, .inl plO))] H := hP
                  have hD : va_D A [(gn, .inr (1, [.ref gno, .int gnl, .ref gns, .ref gnp])), (gnp, .inl (gnkp, 40, .inl P1)), (gns, .inl (gnks, 3, .inr (.inr (.inr (.inr gnS))))), (gr0, .inl (gnkr0, 480, .inl (upd R2 fe.toNatClampNeg x_33))), (gd, .inr (0, [.ref pl, .int gdl, .long gdh, .long gdw, .int gdi, .int gde, .int gdc, .ref gdt, .int gdg, .ref gdu, .int gdn, .ref gdx])), (pla, .inl (plka, 100, .inl plA)), (plb, .inl (plkb, 40, .inr (.inl plB))), (pl, .inr (3, [.int plw, .int pld, .int plc, .int pls, .long plm, .ref plf, .ref plo, .ref plb, .ref pla])), (plf, .inl (plkf, 40, .inl plF)), (plo, .inl (plko, 40, .inl plO))] := hD
                  obtain ⟨f_34, ef_34⟩ : ∃ g, g = upd R2 fe.toNatClampNeg x_33 := ⟨_, rfl⟩
                  rw [← ef_34] at hP hD
                  obtain ⟨x_35, ex_35⟩ : ∃ y9 : Int32, y9 = fe + Int32.ofInt 1 := ⟨_, rfl⟩
                  have zx_35 : x_35.toInt = fe.toInt + 1 := by rw [ex_35]; exact i_add rfl (show (Int32.ofInt 1).toInt = 1 by decide) (by omega) (by omega)
                  refine lv_iinc (v := x_35) (lv' := [(8, .int x_35), (12, .int t2), (10, .long y_16), (9, .int f1), (6, .long r_3), (5, .ref pl), (0, .ref gn), (1, .ref gd), (2, .long p0), (4, .int 0)]) hx hb dX1_list_194 hl (k := 3) rfl (by rw [ex_35]) (by decide) rfl (fun ls hl => ?_)
                  obtain ⟨x_36, ex_36⟩ : ∃ y9 : Int32, y9 = t2 + Int32.ofInt 1 := ⟨_, rfl⟩
                  have zx_36 : x_36.toInt = t2.toInt + 1 := by rw [ex_36]; exact i_add rfl (show (Int32.ofInt 1).toInt = 1 by decide) (by omega) (by omega)
                  refine lv_iinc (v := x_36) (lv' := [(12, .int x_36), (8, .int x_35), (10, .long y_16), (9, .int f1), (6, .long r_3), (5, .ref pl), (0, .ref gn), (1, .ref gd), (2, .long p0), (4, .int 0)]) hx hb dX1_list_197 hl (k := 1) rfl (by rw [ex_36]) (by decide) rfl (fun ls hl => ?_)
                  refine lv_goto (tgt := 122) hx hb dX1_list_200 (by decide) ?_
                  exact ih122 (x_36, x_35, f_34) _ _ _ ⟨(by (try dsimp only); omega), (by (try dsimp only); omega), hP.sub [0, 1, 2, 3, 4, 7, 8, 9, 6, 5] rfl, hD.sub [0, 1, 2, 3, 4, 7, 8, 9, 6, 5] (by decide) rfl, hS, lv_sub hl [0, 2, 3, 1, 4, 5, 6, 7, 8, 9] rfl⟩ (by (try dsimp only); omega)
  · have c_5 : t0.toInt < pls.toInt := i_nle (a := pls) (b := t0) rfl rfl c_5
    refine lv_aload_n hx hb dX1_list_39 rfl (lv_at hl 3 rfl) ?_
    refine va_get (D := (dC, dI)) (ci := 1) (v := .ref gnp) (C := RX1) (T := TX1) (N := 4) hx hb hts in_X1_list_0_X1 hown hK hP 0 rfl rfl 3 (by decide) (hts _ wd_X1_list_0_2) (fun _ h9 => h9) rfl dX1_list_40 ?_
    refine lv_iload hx hb dX1_list_43 (lv_at hl 0 rfl) ?_
    refine lv_aload hx hb dX1_list_45 (lv_at hl 2 rfl) ?_
    refine lv_lload hx hb dX1_list_47 (lv_at hl 1 rfl) ?_
    refine lv_iload hx hb dX1_list_49 (lv_at hl 0 rfl) ?_
    have hPc := hP.sub (ws' := [(pl, .inr (3, [.int plw, .int pld, .int plc, .int pls, .long plm, .ref plf, .ref plo, .ref plb, .ref pla])), (plb, .inl (plkb, 40, .inr (.inl plB)))]) [9, 6] rfl
    have hDc := hD.sub (ws' := [(pl, .inr (3, [.int plw, .int pld, .int plc, .int pls, .long plm, .ref plf, .ref plo, .ref plb, .ref pla])), (plb, .inl (plkb, 40, .inr (.inl plB)))]) [9, 6] (by decide) rfl
    have hKc := hK.sub (tys' := [(plkb, .long)]) [5] rfl
    have hFc := va_free (wc := [(pl, .inr (3, [.int plw, .int pld, .int plc, .int pls, .long plm, .ref plf, .ref plo, .ref plb, .ref pla])), (plb, .inl (plkb, 40, .inr (.inl plB)))]) hD hS hA [9, 6] rfl
    refine va_calli (va_runV (As := [.long r_3, .int t0]) (rest := [.int t0, .ref gnp]) ⟨hx, hb, hml, hown, hts⟩ (c_X3_has l dC dI H.size pl plw pld plc pls plm plf plo plb pla plkb plB r_3 t0 (by omega)) (cwV 2 hts g_X1_list_0_X3_has rfl rfl rfl (by decide +kernel) ⟨Nat.le_of_ble_eq_true rfl, Nat.le_of_ble_eq_true rfl⟩) ⟨fun a U g mk q => by obtain ⟨q0, q1, qP, qK, qD⟩ := q; exact ⟨q0, q1, qP, va_K.moved (u := U) (U := U.calling g mk a) (Vm.Alike.refl U.vm) qK, qD⟩, va_recv hKc hPc (ci := 3) (q0 := 0) rfl rfl, fun U hU hW => ⟨rfl, by rw [hU], by rw [hU]; exact hPc, va_K.moved hW.alike hKc, hDc.weaken (fun _ _ _ _ => trivial)⟩⟩ rfl rfl hl.1 rfl (lv_room (Nat.le_of_ble_eq_true rfl)) dX1_list_51 ⟨Nat.le_of_ble_eq_true rfl, Nat.le_of_ble_eq_true rfl⟩) hS (fun q _ h => hFc q h) hFc (fun r_37 u t H1 locs ht hvm hw_38 hB hz1 hk1 hS => ?_)
    obtain ⟨hP1, hK1, hD1⟩ := hB
    have hP1 : va_P (dC, dI) vwCl [(pl, .inr (3, [.int plw, .int pld, .int plc, .int pls, .long plm, .ref plf, .ref plo, .ref plb, .ref pla])), (plb, .inl (plkb, 40, .inr (.inl plB)))] t.heap := hP1
    rw [ht] at hP1
    try dsimp only at hw_38
    obtain ⟨hP, hD⟩ := va_join (wr := [(gn, .inr (1, [.ref gno, .int gnl, .ref gns, .ref gnp])), (gnp, .inl (gnkp, 40, .inl P1)), (gns, .inl (gnks, 3, .inr (.inr (.inr (.inr gnS))))), (gr0, .inl (gnkr0, 480, .inl gR0)), (plf, .inl (plkf, 40, .inl plF)), (plo, .inl (plko, 40, .inl plO)), (pla, .inl (plka, 100, .inl plA)), (gd, .inr (0, [.ref pl, .int gdl, .long gdh, .long gdw, .int gdi, .int gde, .int gdc, .ref gdt, .int gdg, .ref gdu, .int gdn, .ref gdx]))]) (w1 := [(pl, .inr (3, [.int plw, .int pld, .int plc, .int pls, .long plm, .ref plf, .ref plo, .ref plb, .ref pla])), (plb, .inl (plkb, 40, .inr (.inl plB)))]) hP hD [9, 6] [0, 1, 2, 3, 4, 5, 7, 8] rfl rfl (by decide) (by decide) hk1 hFc hP1 hD1
    generalize H1 = H at hP hS ⊢
    have hP : va_P (dC, dI) vwCl [(gn, .inr (1, [.ref gno, .int gnl, .ref gns, .ref gnp])), (gnp, .inl (gnkp, 40, .inl P1)), (gns, .inl (gnks, 3, .inr (.inr (.inr (.inr gnS))))), (gr0, .inl (gnkr0, 480, .inl gR0)), (plf, .inl (plkf, 40, .inl plF)), (plo, .inl (plko, 40, .inl plO)), (pla, .inl (plka, 100, .inl plA)), (gd, .inr (0, [.ref pl, .int gdl, .long gdh, .long gdw, .int gdi, .int gde, .int gdc, .ref gdt, .int gdg, .ref gdu, .int gdn, .ref gdx])), (pl, .inr (3, [.int plw, .int pld, .int plc, .int pls, .long plm, .ref plf, .ref plo, .ref plb, .ref pla])), (plb, .inl (plkb, 40, .inr (.inl plB)))] H := hP
    have hD : va_D A [(gn, .inr (1, [.ref gno, .int gnl, .ref gns, .ref gnp])), (gnp, .inl (gnkp, 40, .inl P1)), (gns, .inl (gnks, 3, .inr (.inr (.inr (.inr gnS))))), (gr0, .inl (gnkr0, 480, .inl gR0)), (plf, .inl (plkf, 40, .inl plF)), (plo, .inl (plko, 40, .inl plO)), (pla, .inl (plka, 100, .inl plA)), (gd, .inr (0, [.ref pl, .int gdl, .long gdh, .long gdw, .int gdi, .int gde, .int gdc, .ref gdt, .int gdg, .ref gdu, .int gdn, .ref gdx])), (pl, .inr (3, [.int plw, .int pld, .int plc, .int pls, .long plm, .ref plf, .ref plo, .ref plb, .ref pla])), (plb, .inl (plkb, 40, .inr (.inl plB)))] := hD
    refine lv_if_eq (tgt := 69) hx hb dX1_list_54 (by decide) (fun c_39 => ?_) (fun c_39 => ?_)
    · have c_39 : r_37.toInt = 0 := i_eq (a := r_37) (b := 0) rfl (by decide) c_39
      refine lv_iconst (v := 0) hx hb dX1_list_69 (by decide) ?_
      refine va_iast hx hb hK hP hD hS 1 0 rfl rfl (i_in rfl (by omega) (by omega)) dX1_list_70 (fun H locs hP hD hS => ?_)
      have hP : va_P (dC, dI) vwCl [(gn, .inr (1, [.ref gno, .int gnl, .ref gns, .ref gnp])), (gnp, .inl (gnkp, 40, .inl (upd P1 t0.toNatClampNeg 0))), (gns, .inl (gnks, 3, .inr (.inr (.inr (.inr gnS))))), (gr0, .inl (gnkr0, 480, .inl gR0)), (plf, .inl (plkf, 40, .inl plF)), (plo, .inl (plko, 40, .inl plO)), (pla, .inl (plka, 100, .inl plA)), (gd, .inr (0, [.ref pl, .int gdl, .long gdh, .long gdw, .int gdi, .int gde, .int gdc, .ref gdt, .int gdg, .ref gdu, .int gdn, .ref gdx])), (pl, .inr (3, [.int plw, .int pld, .int plc, .int pls, .long plm, .ref plf, .ref plo, .ref plb, .ref pla])), (plb, .inl (plkb, 40, .inr (.inl plB)))] H := hP
      have hD : va_D A [(gn, .inr (1, [.ref gno, .int gnl, .ref gns, .ref gnp])), (gnp, .inl (gnkp, 40, .inl (upd P1 t0.toNatClampNeg 0))), (gns, .inl (gnks, 3, .inr (.inr (.inr (.inr gnS))))), (gr0, .inl (gnkr0, 480, .inl gR0)), (plf, .inl (plkf, 40, .inl plF)), (plo, .inl (plko, 40, .inl plO)), (pla, .inl (plka, 100, .inl plA)), (gd, .inr (0, [.ref pl, .int gdl, .long gdh, .long gdw, .int gdi, .int gde, .int gdc, .ref gdt, .int gdg, .ref gdu, .int gdn, .ref gdx])), (pl, .inr (3, [.int plw, .int pld, .int plc, .int pls, .long plm, .ref plf, .ref plo, .ref plb, .ref pla])), (plb, .inl (plkb, 40, .inr (.inl plB)))] := hD
      obtain ⟨f_40, ef_40⟩ : ∃ g, g = upd P1 t0.toNatClampNeg 0 := ⟨_, rfl⟩
      rw [← ef_40] at hP hD
      obtain ⟨x_41, ex_41⟩ : ∃ y9 : Int32, y9 = t0 + Int32.ofInt 1 := ⟨_, rfl⟩
      have zx_41 : x_41.toInt = t0.toInt + 1 := by rw [ex_41]; exact i_add rfl (show (Int32.ofInt 1).toInt = 1 by decide) (by omega) (by omega)
      refine lv_iinc (v := x_41) (lv' := [(8, .int x_41), (6, .long r_3), (5, .ref pl), (0, .ref gn), (1, .ref gd), (2, .long p0), (4, .int 0)]) hx hb dX1_list_71 hl (k := 0) rfl (by rw [ex_41]) (by decide) rfl (fun ls hl => ?_)
      refine lv_goto (tgt := 29) hx hb dX1_list_74 (by decide) ?_
      exact ih29 (x_41, f_40) _ _ _ ⟨(by (try dsimp only); omega), hP.sub [0, 1, 2, 3, 4, 5, 9, 6, 7, 8] rfl, hD.sub [0, 1, 2, 3, 4, 5, 9, 6, 7, 8] (by decide) rfl, hS, lv_sub hl [0, 1, 2, 3, 4, 5, 6] rfl⟩ (by (try dsimp only); omega)
    · have c_39 : r_37.toInt ≠ 0 := i_ne (a := r_37) (b := 0) rfl (by decide) c_39
      refine lv_aload hx hb dX1_list_57 (lv_at hl 2 rfl) ?_
      refine lv_iload hx hb dX1_list_59 (lv_at hl 0 rfl) ?_
      refine lv_lload hx hb dX1_list_61 (lv_at hl 1 rfl) ?_
      have hPc := hP.sub (ws' := [(pl, .inr (3, [.int plw, .int pld, .int plc, .int pls, .long plm, .ref plf, .ref plo, .ref plb, .ref pla])), (plf, .inl (plkf, 40, .inl plF)), (plb, .inl (plkb, 40, .inr (.inl plB)))]) [8, 4, 9] rfl
      have hDc := hD.sub (ws' := [(pl, .inr (3, [.int plw, .int pld, .int plc, .int pls, .long plm, .ref plf, .ref plo, .ref plb, .ref pla])), (plf, .inl (plkf, 40, .inl plF)), (plb, .inl (plkb, 40, .inr (.inl plB)))]) [8, 4, 9] (by decide) rfl
      have hKc := hK.sub (tys' := [(plkf, .int), (plkb, .long)]) [3, 5] rfl
      have hFc := va_free (wc := [(pl, .inr (3, [.int plw, .int pld, .int plc, .int pls, .long plm, .ref plf, .ref plo, .ref plb, .ref pla])), (plf, .inl (plkf, 40, .inl plF)), (plb, .inl (plkb, 40, .inr (.inl plB)))]) hD hS hA [8, 4, 9] rfl
      refine va_calli (va_runV (As := [.int t0, .long r_3]) (rest := [.int t0, .ref gnp]) ⟨hx, hb, hml, hown, hts⟩ (c_X3_partBeside l dC dI H.size pl plw pld plc pls plm plf plo plb pla plkf plF plkb plB t0 r_3 (by omega) hR_plf) (cwV 2 hts g_X1_list_0_X3_partBeside rfl rfl rfl (by decide +kernel) ⟨Nat.le_of_ble_eq_true rfl, Nat.le_of_ble_eq_true rfl⟩) ⟨fun a U g mk q => by obtain ⟨q0, q1, qP, qK, qD⟩ := q; exact ⟨q0, q1, qP, va_K.moved (u := U) (U := U.calling g mk a) (Vm.Alike.refl U.vm) qK, qD⟩, va_recv hKc hPc (ci := 3) (q0 := 0) rfl rfl, fun U hU hW => ⟨rfl, by rw [hU], by rw [hU]; exact hPc, va_K.moved hW.alike hKc, hDc.weaken (fun _ _ _ _ => trivial)⟩⟩ rfl rfl hl.1 rfl (lv_room (Nat.le_of_ble_eq_true rfl)) dX1_list_63 ⟨Nat.le_of_ble_eq_true rfl, Nat.le_of_ble_eq_true rfl⟩) hS (fun q _ h => hFc q h) hFc (fun r_42 u t H1 locs ht hvm hw_43 hB hz1 hk1 hS => ?_)
      obtain ⟨hP1, hK1, hD1⟩ := hB
      have hP1 : va_P (dC, dI) vwCl [(pl, .inr (3, [.int plw, .int pld, .int plc, .int pls, .long plm, .ref plf, .ref plo, .ref plb, .ref pla])), (plf, .inl (plkf, 40, .inl plF)), (plb, .inl (plkb, 40, .inr (.inl plB)))] t.heap := hP1
      rw [ht] at hP1
      try dsimp only at hw_43
      obtain ⟨hP, hD⟩ := va_join (wr := [(gn, .inr (1, [.ref gno, .int gnl, .ref gns, .ref gnp])), (gnp, .inl (gnkp, 40, .inl P1)), (gns, .inl (gnks, 3, .inr (.inr (.inr (.inr gnS))))), (gr0, .inl (gnkr0, 480, .inl gR0)), (plo, .inl (plko, 40, .inl plO)), (pla, .inl (plka, 100, .inl plA)), (gd, .inr (0, [.ref pl, .int gdl, .long gdh, .long gdw, .int gdi, .int gde, .int gdc, .ref gdt, .int gdg, .ref gdu, .int gdn, .ref gdx]))]) (w1 := [(pl, .inr (3, [.int plw, .int pld, .int plc, .int pls, .long plm, .ref plf, .ref plo, .ref plb, .ref pla])), (plf, .inl (plkf, 40, .inl plF)), (plb, .inl (plkb, 40, .inr (.inl plB)))]) hP hD [8, 4, 9] [0, 1, 2, 3, 5, 6, 7] rfl rfl (by decide) (by decide) hk1 hFc hP1 hD1
      generalize H1 = H at hP hS ⊢
      have hP : va_P (dC, dI) vwCl [(gn, .inr (1, [.ref gno, .int gnl, .ref gns, .ref gnp])), (gnp, .inl (gnkp, 40, .inl P1)), (gns, .inl (gnks, 3, .inr (.inr (.inr (.inr gnS))))), (gr0, .inl (gnkr0, 480, .inl gR0)), (plo, .inl (plko, 40, .inl plO)), (pla, .inl (plka, 100, .inl plA)), (gd, .inr (0, [.ref pl, .int gdl, .long gdh, .long gdw, .int gdi, .int gde, .int gdc, .ref gdt, .int gdg, .ref gdu, .int gdn, .ref gdx])), (pl, .inr (3, [.int plw, .int pld, .int plc, .int pls, .long plm, .ref plf, .ref plo, .ref plb, .ref pla])), (plf, .inl (plkf, 40, .inl plF)), (plb, .inl (plkb, 40, .inr (.inl plB)))] H := hP
      have hD : va_D A [(gn, .inr (1, [.ref gno, .int gnl, .ref gns, .ref gnp])), (gnp, .inl (gnkp, 40, .inl P1)), (gns, .inl (gnks, 3, .inr (.inr (.inr (.inr gnS))))), (gr0, .inl (gnkr0, 480, .inl gR0)), (plo, .inl (plko, 40, .inl plO)), (pla, .inl (plka, 100, .inl plA)), (gd, .inr (0, [.ref pl, .int gdl, .long gdh, .long gdw, .int gdi, .int gde, .int gdc, .ref gdt, .int gdg, .ref gdu, .int gdn, .ref gdx])), (pl, .inr (3, [.int plw, .int pld, .int plc, .int pls, .long plm, .ref plf, .ref plo, .ref plb, .ref pla])), (plf, .inl (plkf, 40, .inl plF)), (plb, .inl (plkb, 40, .inr (.inl plB)))] := hD
      refine lv_goto (tgt := 70) hx hb dX1_list_66 (by decide) ?_
      refine va_iast hx hb hK hP hD hS 1 0 rfl rfl (i_in rfl (by omega) (by omega)) dX1_list_70 (fun H locs hP hD hS => ?_)
      have hP : va_P (dC, dI) vwCl [(gn, .inr (1, [.ref gno, .int gnl, .ref gns, .ref gnp])), (gnp, .inl (gnkp, 40, .inl (upd P1 t0.toNatClampNeg r_42))), (gns, .inl (gnks, 3, .inr (.inr (.inr (.inr gnS))))), (gr0, .inl (gnkr0, 480, .inl gR0)), (plo, .inl (plko, 40, .inl plO)), (pla, .inl (plka, 100, .inl plA)), (gd, .inr (0, [.ref pl, .int gdl, .long gdh, .long gdw, .int gdi, .int gde, .int gdc, .ref gdt, .int gdg, .ref gdu, .int gdn, .ref gdx])), (pl, .inr (3, [.int plw, .int pld, .int plc, .int pls, .long plm, .ref plf, .ref plo, .ref plb, .ref pla])), (plf, .inl (plkf, 40, .inl plF)), (plb, .inl (plkb, 40, .inr (.inl plB)))] H := hP
      have hD : va_D A [(gn, .inr (1, [.ref gno, .int gnl, .ref gns, .ref gnp])), (gnp, .inl (gnkp, 40, .inl (upd P1 t0.toNatClampNeg r_42))), (gns, .inl (gnks, 3, .inr (.inr (.inr (.inr gnS))))), (gr0, .inl (gnkr0, 480, .inl gR0)), (plo, .inl (plko, 40, .inl plO)), (pla, .inl (plka, 100, .inl plA)), (gd, .inr (0, [.ref pl, .int gdl, .long gdh, .long gdw, .int gdi, .int gde, .int gdc, .ref gdt, .int gdg, .ref gdu, .int gdn, .ref gdx])), (pl, .inr (3, [.int plw, .int pld, .int plc, .int pls, .long plm, .ref plf, .ref plo, .ref plb, .ref pla])), (plf, .inl (plkf, 40, .inl plF)), (plb, .inl (plkb, 40, .inr (.inl plB)))] := hD
      obtain ⟨f_44, ef_44⟩ : ∃ g, g = upd P1 t0.toNatClampNeg r_42 := ⟨_, rfl⟩
      rw [← ef_44] at hP hD
      obtain ⟨x_45, ex_45⟩ : ∃ y9 : Int32, y9 = t0 + Int32.ofInt 1 := ⟨_, rfl⟩
      have zx_45 : x_45.toInt = t0.toInt + 1 := by rw [ex_45]; exact i_add rfl (show (Int32.ofInt 1).toInt = 1 by decide) (by omega) (by omega)
      refine lv_iinc (v := x_45) (lv' := [(8, .int x_45), (6, .long r_3), (5, .ref pl), (0, .ref gn), (1, .ref gd), (2, .long p0), (4, .int 0)]) hx hb dX1_list_71 hl (k := 0) rfl (by rw [ex_45]) (by decide) rfl (fun ls hl => ?_)
      refine lv_goto (tgt := 29) hx hb dX1_list_74 (by decide) ?_
      exact ih29 (x_45, f_44) _ _ _ ⟨(by (try dsimp only); omega), hP.sub [0, 1, 2, 3, 8, 4, 9, 5, 6, 7] rfl, hD.sub [0, 1, 2, 3, 8, 4, 9, 5, 6, 7] (by decide) rfl, hS, lv_sub hl [0, 1, 2, 3, 4, 5, 6] rfl⟩ (by (try dsimp only); omega)

theorem dX1_listed_0 : decode cX1_listed 0 = .ok (.iload_n 1, 1) := by decide +kernel
theorem dX1_listed_1 : decode cX1_listed 1 = .ok (.ifCond .lt 23, 3) := by decide +kernel
theorem dX1_listed_4 : decode cX1_listed 4 = .ok (.iload_n 1, 1) := by decide +kernel
theorem dX1_listed_5 : decode cX1_listed 5 = .ok (.iconst 3, 1) := by decide +kernel
theorem dX1_listed_6 : decode cX1_listed 6 = .ok (.if_icmp .ge 18, 3) := by decide +kernel
theorem dX1_listed_9 : decode cX1_listed 9 = .ok (.iload_n 2, 1) := by decide +kernel
theorem dX1_listed_10 : decode cX1_listed 10 = .ok (.ifCond .lt 14, 3) := by decide +kernel
theorem dX1_listed_13 : decode cX1_listed 13 = .ok (.iload_n 2, 1) := by decide +kernel
theorem dX1_listed_14 : decode cX1_listed 14 = .ok (.sipush 480, 3) := by decide +kernel
theorem dX1_listed_17 : decode cX1_listed 17 = .ok (.if_icmp .ge 7, 3) := by decide +kernel
theorem dX1_listed_20 : decode cX1_listed 20 = .ok (.iconst 1, 1) := by decide +kernel
theorem dX1_listed_21 : decode cX1_listed 21 = .ok (.goto 4, 3) := by decide +kernel
theorem dX1_listed_24 : decode cX1_listed 24 = .ok (.iconst 0, 1) := by decide +kernel
theorem dX1_listed_25 : decode cX1_listed 25 = .ok (.istore_n 3, 1) := by decide +kernel
theorem dX1_listed_26 : decode cX1_listed 26 = .ok (.iload_n 3, 1) := by decide +kernel
theorem dX1_listed_27 : decode cX1_listed 27 = .ok (.ifCond .eq 14, 3) := by decide +kernel
theorem dX1_listed_30 : decode cX1_listed 30 = .ok (.aload_n 0, 1) := by decide +kernel
theorem dX1_listed_31 : decode cX1_listed 31 = .ok (.getfield 21, 3) := by decide +kernel
theorem dX1_listed_34 : decode cX1_listed 34 = .ok (.iload_n 1, 1) := by decide +kernel
theorem dX1_listed_35 : decode cX1_listed 35 = .ok (.aaload, 1) := by decide +kernel
theorem dX1_listed_36 : decode cX1_listed 36 = .ok (.iload_n 2, 1) := by decide +kernel
theorem dX1_listed_37 : decode cX1_listed 37 = .ok (.iaload, 1) := by decide +kernel
theorem dX1_listed_38 : decode cX1_listed 38 = .ok (.goto 4, 3) := by decide +kernel
theorem dX1_listed_41 : decode cX1_listed 41 = .ok (.iconst (-1), 1) := by decide +kernel
theorem dX1_listed_42 : decode cX1_listed 42 = .ok (.ireturn, 1) := by decide +kernel
def wz_X1_listed_0 : List Cond := .code yX1_listed cX1_listed 4 (some .int) :: ([Cond.fieldLink RX1 21 "HedgeMaze$Gardeners" "lists" "[[I"] ++ wsX10)
theorem wd_X1_listed_0_0 : Cond.fieldLink RX1 21 "HedgeMaze$Gardeners" "lists" "[[I" ∈ wz_X1_listed_0 := List.mem_of_getElem? (i := 1) rfl
theorem in_X1_listed_0_X1 : ∀ w ∈ wsX10, w ∈ wz_X1_listed_0 := fun _ h => List.mem_cons_of_mem _ (List.mem_append_right _ h)
set_option maxHeartbeats 4000000 in
set_option maxRecDepth 100000 in
theorem c_X1_listed_0 (l : Launch) (dC : Nat → ClassId) (dI : Nat → Nat → Nat) (sz : Nat) (gn : Nat) (gno : Nat) (gnl : Int32) (gns : Nat) (gnp : Nat) (gnks : ClassId) (gnS : Nat → Option Nat) (gr0 : Nat) (gnkr0 : ClassId) (gR0 : Nat → Int32) (p1 : Int32) (hS0 : gnS 0 = some gr0) : Met l yX1_listed wz_X1_listed_0 ({ frames := 0, cells := 0, slots := 0, locals := 0 }) (va_Pc [.ref gn, .int 0, .int p1] (fun U => U.heap.size = sz ∧ va_P (dC, dI) vwCl [(gn, .inr (1, [.ref gno, .int gnl, .ref gns, .ref gnp])), (gns, .inl (gnks, 3, .inr (.inr (.inr (.inr gnS))))), (gr0, .inl (gnkr0, 480, .inl gR0))] U.heap ∧ va_K (dC, dI) vwCl [(gnks, .array .int), (gnkr0, .int)] U ∧ va_D (fun _ => True) [(gn, .inr (1, [.ref gno, .int gnl, .ref gns, .ref gnp])), (gns, .inl (gnks, 3, .inr (.inr (.inr (.inr gnS))))), (gr0, .inl (gnkr0, 480, .inl gR0))])) (va_Qi (fun (r : Int32) (u : Unit) => True) (fun (u : Unit) (t : State) => va_P (dC, dI) vwCl [(gn, .inr (1, [.ref gno, .int gnl, .ref gns, .ref gnp])), (gns, .inl (gnks, 3, .inr (.inr (.inr (.inr gnS))))), (gr0, .inl (gnkr0, 480, .inl gR0))] t.heap ∧ va_K (dC, dI) vwCl [] t ∧ va_D (va_A [(gn, .inr (1, [.ref gno, .int gnl, .ref gns, .ref gnp])), (gns, .inl (gnks, 3, .inr (.inr (.inr (.inr gnS))))), (gr0, .inl (gnkr0, 480, .inl gR0))] sz) [(gn, .inr (1, [.ref gno, .int gnl, .ref gns, .ref gnp])), (gns, .inl (gnks, 3, .inr (.inr (.inr (.inr gnS))))), (gr0, .inl (gnkr0, 480, .inl gR0))]) (va_A [(gn, .inr (1, [.ref gno, .int gnl, .ref gns, .ref gnp])), (gns, .inl (gnks, 3, .inr (.inr (.inr (.inr gnS))))), (gr0, .inl (gnkr0, 480, .inl gR0))] sz)) 0 0 (va_A [(gn, .inr (1, [.ref gno, .int gnl, .ref gns, .ref gnp])), (gns, .inl (gnks, 3, .inr (.inr (.inr (.inr gnS))))), (gr0, .inl (gnkr0, 480, .inl gR0))] sz) := by
  refine Met.ofW (cc := cX1_listed) (maxL := 4) (ret := (some .int)) (by decide) rfl ?_
  intro p e s m args below meth c s₁ B hml hv
  obtain ⟨rfl, hsz, hP, hK, hD0⟩ := hv
  have hx := B.exec
  have hb := B.bytes
  have hr := B.returns
  have hts := atoms_spec (ws := wz_X1_listed_0) B.pre
  have hown : s.vm.findClass RX1 = some m.cls := findClass_of_methodNamed B.named
  have hlocks := B.notSynchronized
  subst hsz
  have hD := hD0.self (sz := s.heap.size)
  generalize hAe : va_A [(gn, .inr (1, [.ref gno, .int gnl, .ref gns, .ref gnp])), (gns, .inl (gnks, 3, .inr (.inr (.inr (.inr gnS))))), (gr0, .inl (gnkr0, 480, .inl gR0))] s.heap.size = A at hD ⊢
  have hA : ∀ q : Nat, s.heap.size ≤ q → A q := fun q h => by rw [← hAe]; exact Or.inr h
  have hS : va_S A s.heap s.heap [] := va_S.rf
  have hP : va_P (dC, dI) vwCl [(gn, .inr (1, [.ref gno, .int gnl, .ref gns, .ref gnp])), (gns, .inl (gnks, 3, .inr (.inr (.inr (.inr gnS))))), (gr0, .inl (gnkr0, 480, .inl gR0))] s.heap := hP
  have hl := lv_entry ([.ref gn, .int 0, .int p1]) (n := 4) (Nat.le_of_ble_eq_true rfl)
  rw [lg_entry_eq]
  generalize (lg_sl ([.ref gn, .int 0, .int p1]) ++ List.replicate (4 - (lg_sl ([.ref gn, .int 0, .int p1])).length) Slot.unset).toArray = ls at hl ⊢
  have hl : lv_has ls 4 [(0, .ref gn), (1, .int 0), (2, .int p1)] := hl
  refine lv_iload_n hx hb dX1_listed_0 rfl (lv_at hl 1 rfl) ?_
  refine lv_if_lt (tgt := 24) hx hb dX1_listed_1 (by decide) (fun h => absurd h (by decide)) (fun _ => ?_)
  refine lv_iload_n hx hb dX1_listed_4 rfl (lv_at hl 1 rfl) ?_
  refine lv_iconst (v := 3) hx hb dX1_listed_5 (by decide) ?_
  refine lv_icmp_ge (tgt := 24) hx hb dX1_listed_6 (by decide) (fun h => absurd h (by decide)) (fun _ => ?_)
  refine lv_iload_n hx hb dX1_listed_9 rfl (lv_at hl 2 rfl) ?_
  refine lv_if_lt (tgt := 24) hx hb dX1_listed_10 (by decide) (fun c_3 => ?_) (fun c_3 => ?_)
  · have c_3 : p1.toInt < 0 := i_lt (a := p1) (b := 0) rfl (by decide) c_3
    refine lv_iconst (v := 0) hx hb dX1_listed_24 (by decide) ?_
    refine lv_istore_n (lv' := [(3, .int 0), (0, .ref gn), (1, .int 0), (2, .int p1)]) hx hb dX1_listed_25 rfl hl (by decide) rfl (fun ls hl => ?_)
    refine lv_iload_n hx hb dX1_listed_26 rfl (lv_at hl 0 rfl) ?_
    refine lv_if_eq (tgt := 41) hx hb dX1_listed_27 (by decide) (fun _ => ?_) (fun h => absurd (by decide) h)
    refine lv_iconst (v := -1) hx hb dX1_listed_41 (by decide) ?_
    have hP9 := hP.sub (ws' := [(gn, .inr (1, [.ref gno, .int gnl, .ref gns, .ref gnp])), (gns, .inl (gnks, 3, .inr (.inr (.inr (.inr gnS))))), (gr0, .inl (gnkr0, 480, .inl gR0))]) [0, 1, 2] rfl
    have hD9 := hD.sub (ws' := [(gn, .inr (1, [.ref gno, .int gnl, .ref gns, .ref gnp])), (gns, .inl (gnks, 3, .inr (.inr (.inr (.inr gnS))))), (gr0, .inl (gnkr0, 480, .inl gR0))]) [0, 1, 2] (by decide) rfl
    have hK9 := hK.sub (tys' := []) [] rfl
    refine W.widen (k := 0) (n := 0) (by omega) (by omega) ?_
    exact W.iret (v := -1) hx hb hr (fun t ht hW => ⟨⟨(-1), (), rfl, trivial, by rw [ht]; exact hP9, va_K.moved hW.alike hK9, hD9⟩, hS.F ht⟩) hS.2.2 dX1_listed_42
  · have c_3 : 0 ≤ p1.toInt := i_nlt (a := p1) (b := 0) rfl (by decide) c_3
    refine lv_iload_n hx hb dX1_listed_13 rfl (lv_at hl 2 rfl) ?_
    refine lv_sipush (v := 480) hx hb dX1_listed_14 (by decide) ?_
    refine lv_icmp_ge (tgt := 24) hx hb dX1_listed_17 (by decide) (fun c_5 => ?_) (fun c_5 => ?_)
    · have c_5 : 480 ≤ p1.toInt := i_le (a := 480) (b := p1) (by decide) rfl c_5
      refine lv_iconst (v := 0) hx hb dX1_listed_24 (by decide) ?_
      refine lv_istore_n (lv' := [(3, .int 0), (0, .ref gn), (1, .int 0), (2, .int p1)]) hx hb dX1_listed_25 rfl hl (by decide) rfl (fun ls hl => ?_)
      refine lv_iload_n hx hb dX1_listed_26 rfl (lv_at hl 0 rfl) ?_
      refine lv_if_eq (tgt := 41) hx hb dX1_listed_27 (by decide) (fun _ => ?_) (fun h => absurd (by decide) h)
      refine lv_iconst (v := -1) hx hb dX1_listed_41 (by decide) ?_
      have hP9 := hP.sub (ws' := [(gn, .inr (1, [.ref gno, .int gnl, .ref gns, .ref gnp])), (gns, .inl (gnks, 3, .inr (.inr (.inr (.inr gnS))))), (gr0, .inl (gnkr0, 480, .inl gR0))]) [0, 1, 2] rfl
      have hD9 := hD.sub (ws' := [(gn, .inr (1, [.ref gno, .int gnl, .ref gns, .ref gnp])), (gns, .inl (gnks, 3, .inr (.inr (.inr (.inr gnS))))), (gr0, .inl (gnkr0, 480, .inl gR0))]) [0, 1, 2] (by decide) rfl
      have hK9 := hK.sub (tys' := []) [] rfl
      refine W.widen (k := 0) (n := 0) (by omega) (by omega) ?_
      exact W.iret (v := -1) hx hb hr (fun t ht hW => ⟨⟨(-1), (), rfl, trivial, by rw [ht]; exact hP9, va_K.moved hW.alike hK9, hD9⟩, hS.F ht⟩) hS.2.2 dX1_listed_42
    · have c_5 : p1.toInt < 480 := i_nle (a := 480) (b := p1) (by decide) rfl c_5
      refine lv_iconst (v := 1) hx hb dX1_listed_20 (by decide) ?_
      refine lv_goto (tgt := 25) hx hb dX1_listed_21 (by decide) ?_
      refine lv_istore_n (lv' := [(3, .int 1), (0, .ref gn), (1, .int 0), (2, .int p1)]) hx hb dX1_listed_25 rfl hl (by decide) rfl (fun ls hl => ?_)
      refine lv_iload_n hx hb dX1_listed_26 rfl (lv_at hl 0 rfl) ?_
      refine lv_if_eq (tgt := 41) hx hb dX1_listed_27 (by decide) (fun h => absurd h (by decide)) (fun _ => ?_)
      refine lv_aload_n hx hb dX1_listed_30 rfl (lv_at hl 1 rfl) ?_
      refine va_get (D := (dC, dI)) (ci := 1) (v := .ref gns) (C := RX1) (T := TX1) (N := 4) hx hb hts in_X1_listed_0_X1 hown hK hP 0 rfl rfl 2 (by decide) (hts _ wd_X1_listed_0_0) (fun _ h9 => h9) rfl dX1_listed_31 ?_
      refine lv_iload_n hx hb dX1_listed_34 rfl (lv_at hl 2 rfl) ?_
      refine va_aldA (i := 0) hx hb hK hP 1 0 rfl rfl (vp_in_iff.mpr ⟨by decide, by decide⟩) dX1_listed_35 ?_
      refine W.eq (g2 := F0 m 36 ls (.ref gr0 :: [])) (by rw [show gnS (0 : Int32).toNatClampNeg = some gr0 from hS0]; rfl) ?_
      refine lv_iload_n hx hb dX1_listed_36 rfl (lv_at hl 3 rfl) ?_
      refine va_iald hx hb hK hP 2 1 rfl rfl (i_in rfl (by omega) (by omega)) dX1_listed_37 ?_
      refine lv_topi (fun v_8 ev_8 => ?_)
      refine lv_goto (tgt := 42) hx hb dX1_listed_38 (by decide) ?_
      have hP9 := hP.sub (ws' := [(gn, .inr (1, [.ref gno, .int gnl, .ref gns, .ref gnp])), (gns, .inl (gnks, 3, .inr (.inr (.inr (.inr gnS))))), (gr0, .inl (gnkr0, 480, .inl gR0))]) [0, 1, 2] rfl
      have hD9 := hD.sub (ws' := [(gn, .inr (1, [.ref gno, .int gnl, .ref gns, .ref gnp])), (gns, .inl (gnks, 3, .inr (.inr (.inr (.inr gnS))))), (gr0, .inl (gnkr0, 480, .inl gR0))]) [0, 1, 2] (by decide) rfl
      have hK9 := hK.sub (tys' := []) [] rfl
      refine W.widen (k := 0) (n := 0) (by omega) (by omega) ?_
      exact W.iret (v := v_8) hx hb hr (fun t ht hW => ⟨⟨v_8, (), rfl, trivial, by rw [ht]; exact hP9, va_K.moved hW.alike hK9, hD9⟩, hS.F ht⟩) hS.2.2 dX1_listed_42

def wz_X1_list_1 : List Cond := .code yX1_list cX1_list 13 (some .int) :: ([Cond.fieldLink RX1 27 "HedgeMaze$Garden" "plan" "LHedgeMaze$Plan;", Cond.fieldLink RX1 37 "HedgeMaze$Plan" "sideCount" "I", Cond.fieldLink RX1 24 "HedgeMaze$Gardeners" "parts" "[I", Cond.fieldLink RX1 21 "HedgeMaze$Gardeners" "lists" "[[I", Cond.methodLink RX1 33 yX0_openWith, Cond.instanceMethod yX0_openWith, Cond.selects RX0 yX0_openWith yX0_openWith, Cond.initialized RX0, Cond.code yX0_openWith cX0_openWith 3 (some .long), Cond.fieldLink RX0 12 "HedgeMaze$Garden" "plan" "LHedgeMaze$Plan;", Cond.fieldLink RX0 75 "HedgeMaze$Plan" "allSides" "J", Cond.fieldLink RX0 26 "HedgeMaze$Garden" "walls" "J", Cond.constantLong RX0 78 (-1), Cond.methodLink RX1 42 yX3_has, Cond.instanceMethod yX3_has, Cond.selects RX3 yX3_has yX3_has, Cond.initialized RX3, Cond.code yX3_has cX3_has 4 (some .boolean), Cond.methodLink RX3 58 yX3_bitOf, Cond.instanceMethod yX3_bitOf, Cond.selects RX3 yX3_bitOf yX3_bitOf, Cond.code yX3_bitOf cX3_bitOf 3 (some .long), Cond.fieldLink RX3 21 "HedgeMaze$Plan" "sideCount" "I", Cond.fieldLink RX3 35 "HedgeMaze$Plan" "bits" "[J", Cond.methodLink RX1 50 yX0_sidesByLaw, Cond.instanceMethod yX0_sidesByLaw, Cond.selects RX0 yX0_sidesByLaw yX0_sidesByLaw, Cond.code yX0_sidesByLaw cX0_sidesByLaw 2 (some .long), Cond.fieldLink RX0 29 "HedgeMaze$Garden" "isNear" "Z", Cond.methodLink RX0 93 yX3_sidesNear, Cond.instanceMethod yX3_sidesNear, Cond.selects RX3 yX3_sidesNear yX3_sidesNear, Cond.code yX3_sidesNear cX3_sidesNear 5 (some .long), Cond.constantLong RX3 65 (-1), Cond.fieldLink RX3 28 "HedgeMaze$Plan" "first" "[I", Cond.fieldLink RX3 32 "HedgeMaze$Plan" "other" "[I", Cond.methodLink RX3 62 yX3_sideAt, Cond.instanceMethod yX3_sideAt, Cond.selects RX3 yX3_sideAt yX3_sideAt, Cond.code yX3_sideAt cX3_sideAt 4 (some .int), Cond.fieldLink RX3 39 "HedgeMaze$Plan" "around" "[I", Cond.methodLink RX1 54 yX3_joins, Cond.instanceMethod yX3_joins, Cond.selects RX3 yX3_joins yX3_joins, Cond.code yX3_joins cX3_joins 3 (some .boolean), Cond.methodLink RX3 79 yX3_allCells, Cond.instanceMethod yX3_allCells, Cond.selects RX3 yX3_allCells yX3_allCells, Cond.code yX3_allCells cX3_allCells 1 (some .int), Cond.fieldLink RX3 18 "HedgeMaze$Plan" "cellCount" "I", Cond.methodLink RX1 46 yX3_partBeside, Cond.instanceMethod yX3_partBeside, Cond.selects RX3 yX3_partBeside yX3_partBeside, Cond.code yX3_partBeside cX3_partBeside 4 (some .int), Cond.methodLink RX3 75 yX3_spread, Cond.instanceMethod yX3_spread, Cond.selects RX3 yX3_spread yX3_spread, Cond.code yX3_spread cX3_spread 9 (some .int), Cond.methodLink RX3 42 Lib.Math.min.name, Cond.static Lib.Math.min.name, Cond.initialized "java/lang/Math", Cond.code Lib.Math.min.name Lib.Math.min.code 2 (some .int), Cond.methodLink RX3 71 yX3_grow, Cond.instanceMethod yX3_grow, Cond.selects RX3 yX3_grow yX3_grow, Cond.code yX3_grow cX3_grow 6 (some .int), Cond.fieldLink RX3 9 "HedgeMaze$Plan" "wide" "I"] ++ wsX00 ++ wsX30 ++ wsX10)
theorem wd_X1_list_1_0 : Cond.fieldLink RX1 27 "HedgeMaze$Garden" "plan" "LHedgeMaze$Plan;" ∈ wz_X1_list_1 := List.mem_of_getElem? (i := 1) rfl
theorem wd_X1_list_1_1 : Cond.fieldLink RX1 37 "HedgeMaze$Plan" "sideCount" "I" ∈ wz_X1_list_1 := List.mem_of_getElem? (i := 2) rfl
theorem wd_X1_list_1_2 : Cond.fieldLink RX1 24 "HedgeMaze$Gardeners" "parts" "[I" ∈ wz_X1_list_1 := List.mem_of_getElem? (i := 3) rfl
theorem wd_X1_list_1_3 : Cond.fieldLink RX1 21 "HedgeMaze$Gardeners" "lists" "[[I" ∈ wz_X1_list_1 := List.mem_of_getElem? (i := 4) rfl
theorem in_X1_list_1_X0 : ∀ w ∈ wsX00, w ∈ wz_X1_list_1 := fun _ h => List.mem_cons_of_mem _ (List.mem_append_left _ (List.mem_append_left _ (List.mem_append_right _ h)))
theorem in_X1_list_1_X3 : ∀ w ∈ wsX30, w ∈ wz_X1_list_1 := fun _ h => List.mem_cons_of_mem _ (List.mem_append_left _ (List.mem_append_right _ h))
theorem in_X1_list_1_X1 : ∀ w ∈ wsX10, w ∈ wz_X1_list_1 := fun _ h => List.mem_cons_of_mem _ (List.mem_append_right _ h)
set_option maxRecDepth 20000 in
theorem g_X1_list_1_X0_openWith : GoodIn wz_X1_list_1 (wsV RX1 33 RX0 yX0_openWith wz_X0_openWith) := goodIn_r _ [5, 6, 7, 8, 9, 10, 11, 12, 13, 68, 69, 70, 71, 72, 73, 74, 75, 76, 77, 78, 79, 80, 81, 82, 83, 84, 85, 86, 87, 88] rfl (by decide +kernel)
set_option maxRecDepth 20000 in
theorem g_X1_list_1_X3_has : GoodIn wz_X1_list_1 (wsV RX1 42 RX3 yX3_has wz_X3_has) := goodIn_r _ [14, 15, 16, 17, 18, 19, 20, 21, 17, 22, 23, 24, 80, 81, 82, 83, 84, 85, 86, 87, 88] rfl (by decide +kernel)
set_option maxRecDepth 20000 in
theorem g_X1_list_1_X0_sidesByLaw : GoodIn wz_X1_list_1 (wsV RX1 50 RX0 yX0_sidesByLaw wz_X0_sidesByLaw) := goodIn_r _ [25, 26, 27, 8, 28, 29, 10, 11, 30, 31, 32, 17, 33, 23, 24, 34, 35, 36, 37, 38, 39, 40, 41, 19, 20, 21, 22, 68, 69, 70, 71, 72, 73, 74, 75, 76, 77, 78, 79, 80, 81, 82, 83, 84, 85, 86, 87, 88] rfl (by decide +kernel)
set_option maxRecDepth 20000 in
theorem g_X1_list_1_X3_joins : GoodIn wz_X1_list_1 (wsV RX1 54 RX3 yX3_joins wz_X3_joins) := goodIn_r _ [42, 43, 44, 17, 45, 23, 35, 36, 46, 47, 48, 17, 49, 50, 80, 81, 82, 83, 84, 85, 86, 87, 88] rfl (by decide +kernel)
set_option maxRecDepth 20000 in
theorem g_X1_list_1_X3_partBeside : GoodIn wz_X1_list_1 (wsV RX1 46 RX3 yX3_partBeside wz_X3_partBeside) := goodIn_r _ [51, 52, 53, 17, 54, 23, 35, 24, 34, 46, 47, 48, 17, 49, 50, 55, 56, 57, 58, 59, 60, 61, 62, 63, 64, 65, 66, 67, 80, 81, 82, 83, 84, 85, 86, 87, 88] rfl (by decide +kernel)
set_option maxHeartbeats 4000000 in
set_option maxRecDepth 100000 in
theorem c_X1_list_1 (l : Launch) (dC : Nat → ClassId) (dI : Nat → Nat → Nat) (sz : Nat) (gn : Nat) (gno : Nat) (gnl : Int32) (gns : Nat) (gnp : Nat) (gnkp : ClassId) (gnP : Nat → Int32) (gnks : ClassId) (gnS : Nat → Option Nat) (gr1 : Nat) (gnkr1 : ClassId) (gR1 : Nat → Int32) (gd : Nat) (gdl : Int32) (gdh : Int64) (gdw : Int64) (gdi : Int32) (gde : Int32) (gdc : Int32) (gdt : Nat) (gdg : Int32) (gdu : Nat) (gdn : Int32) (gdx : Nat) (pl : Nat) (plw : Int32) (pld : Int32) (plc : Int32) (pls : Int32) (plm : Int64) (plf : Nat) (plo : Nat) (plb : Nat) (pla : Nat) (plkf : ClassId) (plF : Nat → Int32) (plko : ClassId) (plO : Nat → Int32) (plkb : ClassId) (plB : Nat → Int64) (plka : ClassId) (plA : Nat → Int32) (p0 : Int64) (hS1 : gnS 1 = some gr1) (h_pls : 0 ≤ pls.toInt ∧ pls.toInt ≤ 40) (hR_plf : RG plF 40 0 24) (hR_plo : RG plO 40 0 24) : Met l yX1_list wz_X1_list_1 ({ frames := 3, cells := 0, slots := 0, locals := 91 }) (va_Pc [.ref gn, .ref gd, .long p0, .int 1] (fun U => U.heap.size = sz ∧ va_P (dC, dI) vwCl [(gn, .inr (1, [.ref gno, .int gnl, .ref gns, .ref gnp])), (gnp, .inl (gnkp, 40, .inl gnP)), (gns, .inl (gnks, 3, .inr (.inr (.inr (.inr gnS))))), (gr1, .inl (gnkr1, 480, .inl gR1)), (gd, .inr (0, [.ref pl, .int gdl, .long gdh, .long gdw, .int gdi, .int gde, .int gdc, .ref gdt, .int gdg, .ref gdu, .int gdn, .ref gdx])), (pl, .inr (3, [.int plw, .int pld, .int plc, .int pls, .long plm, .ref plf, .ref plo, .ref plb, .ref pla])), (plf, .inl (plkf, 40, .inl plF)), (plo, .inl (plko, 40, .inl plO)), (plb, .inl (plkb, 40, .inr (.inl plB))), (pla, .inl (plka, 100, .inl plA))] U.heap ∧ va_K (dC, dI) vwCl [(gnkp, .int), (gnks, .array .int), (gnkr1, .int), (plkf, .int), (plko, .int), (plkb, .long), (plka, .int)] U ∧ va_D (fun _ => True) [(gn, .inr (1, [.ref gno, .int gnl, .ref gns, .ref gnp])), (gnp, .inl (gnkp, 40, .inl gnP)), (gns, .inl (gnks, 3, .inr (.inr (.inr (.inr gnS))))), (gr1, .inl (gnkr1, 480, .inl gR1)), (gd, .inr (0, [.ref pl, .int gdl, .long gdh, .long gdw, .int gdi, .int gde, .int gdc, .ref gdt, .int gdg, .ref gdu, .int gdn, .ref gdx])), (pl, .inr (3, [.int plw, .int pld, .int plc, .int pls, .long plm, .ref plf, .ref plo, .ref plb, .ref pla])), (plf, .inl (plkf, 40, .inl plF)), (plo, .inl (plko, 40, .inl plO)), (plb, .inl (plkb, 40, .inr (.inl plB))), (pla, .inl (plka, 100, .inl plA))])) (va_Qi (fun (r : Int32) (u : (Nat → Int32) × (Nat → Int32)) => (0 ≤ r.toInt ∧ r.toInt ≤ 480)) (fun (u : (Nat → Int32) × (Nat → Int32)) (t : State) => va_P (dC, dI) vwCl [(gn, .inr (1, [.ref gno, .int gnl, .ref gns, .ref gnp])), (gnp, .inl (gnkp, 40, .inl u.1)), (gns, .inl (gnks, 3, .inr (.inr (.inr (.inr gnS))))), (gr1, .inl (gnkr1, 480, .inl u.2)), (gd, .inr (0, [.ref pl, .int gdl, .long gdh, .long gdw, .int gdi, .int gde, .int gdc, .ref gdt, .int gdg, .ref gdu, .int gdn, .ref gdx])), (pl, .inr (3, [.int plw, .int pld, .int plc, .int pls, .long plm, .ref plf, .ref plo, .ref plb, .ref pla])), (plf, .inl (plkf, 40, .inl plF)), (plo, .inl (plko, 40, .inl plO)), (plb, .inl (plkb, 40, .inr (.inl plB))), (pla, .inl (plka, 100, .inl plA))] t.heap ∧ va_K (dC, dI) vwCl [] t ∧ va_D (va_A [(gn, .inr (1, [.ref gno, .int gnl, .ref gns, .ref gnp])), (gnp, .inl (gnkp, 40, .inl gnP)), (gns, .inl (gnks, 3, .inr (.inr (.inr (.inr gnS))))), (gr1, .inl (gnkr1, 480, .inl gR1)), (gd, .inr (0, [.ref pl, .int gdl, .long gdh, .long gdw, .int gdi, .int gde, .int gdc, .ref gdt, .int gdg, .ref gdu, .int gdn, .ref gdx])), (pl, .inr (3, [.int plw, .int pld, .int plc, .int pls, .long plm, .ref plf, .ref plo, .ref plb, .ref pla])), (plf, .inl (plkf, 40, .inl plF)), (plo, .inl (plko, 40, .inl plO)), (plb, .inl (plkb, 40, .inr (.inl plB))), (pla, .inl (plka, 100, .inl plA))] sz) [(gn, .inr (1, [.ref gno, .int gnl, .ref gns, .ref gnp])), (gnp, .inl (gnkp, 40, .inl u.1)), (gns, .inl (gnks, 3, .inr (.inr (.inr (.inr gnS))))), (gr1, .inl (gnkr1, 480, .inl u.2)), (gd, .inr (0, [.ref pl, .int gdl, .long gdh, .long gdw, .int gdi, .int gde, .int gdc, .ref gdt, .int gdg, .ref gdu, .int gdn, .ref gdx])), (pl, .inr (3, [.int plw, .int pld, .int plc, .int pls, .long plm, .ref plf, .ref plo, .ref plb, .ref pla])), (plf, .inl (plkf, 40, .inl plF)), (plo, .inl (plko, 40, .inl plO)), (plb, .inl (plkb, 40, .inr (.inl plB))), (pla, .inl (plka, 100, .inl plA))]) (va_A [(gn, .inr (1, [.ref gno, .int gnl, .ref gns, .ref gnp])), (gnp, .inl (gnkp, 40, .inl gnP)), (gns, .inl (gnks, 3, .inr (.inr (.inr (.inr gnS))))), (gr1, .inl (gnkr1, 480, .inl gR1)), (gd, .inr (0, [.ref pl, .int gdl, .long gdh, .long gdw, .int gdi, .int gde, .int gdc, .ref gdt, .int gdg, .ref gdu, .int gdn, .ref gdx])), (pl, .inr (3, [.int plw, .int pld, .int plc, .int pls, .long plm, .ref plf, .ref plo, .ref plb, .ref pla])), (plf, .inl (plkf, 40, .inl plF)), (plo, .inl (plko, 40, .inl plO)), (plb, .inl (plkb, 40, .inr (.inl plB))), (pla, .inl (plka, 100, .inl plA))] sz)) 0 0 (va_A [(gn, .inr (1, [.ref gno, .int gnl, .ref gns, .ref gnp])), (gnp, .inl (gnkp, 40, .inl gnP)), (gns, .inl (gnks, 3, .inr (.inr (.inr (.inr gnS))))), (gr1, .inl (gnkr1, 480, .inl gR1)), (gd, .inr (0, [.ref pl, .int gdl, .long gdh, .long gdw, .int gdi, .int gde, .int gdc, .ref gdt, .int gdg, .ref gdu, .int gdn, .ref gdx])), (pl, .inr (3, [.int plw, .int pld, .int plc, .int pls, .long plm, .ref plf, .ref plo, .ref plb, .ref pla])), (plf, .inl (plkf, 40, .inl plF)), (plo, .inl (plko, 40, .inl plO)), (plb, .inl (plkb, 40, .inr (.inl plB))), (pla, .inl (plka, 100, .inl plA))] sz) := by
  refine Met.ofW (cc := cX1_list) (maxL := 13) (ret := (some .int)) (by decide) rfl ?_
  intro p e s m args below meth c s₁ B hml hv
  obtain ⟨rfl, hsz, hP, hK, hD0⟩ := hv
  have hx := B.exec
  have hb := B.bytes
  have hr := B.returns
  have hts := atoms_spec (ws := wz_X1_list_1) B.pre
  have hown : s.vm.findClass RX1 = some m.cls := findClass_of_methodNamed B.named
  have hlocks := B.notSynchronized
  subst hsz
  have hD := hD0.self (sz := s.heap.size)
  generalize hAe : va_A [(gn, .inr (1, [.ref gno, .int gnl, .ref gns, .ref gnp])), (gnp, .inl (gnkp, 40, .inl gnP)), (gns, .inl (gnks, 3, .inr (.inr (.inr (.inr gnS))))), (gr1, .inl (gnkr1, 480, .inl gR1)), (gd, .inr (0, [.ref pl, .int gdl, .long gdh, .long gdw, .int gdi, .int gde, .int gdc, .ref gdt, .int gdg, .ref gdu, .int gdn, .ref gdx])), (pl, .inr (3, [.int plw, .int pld, .int plc, .int pls, .long plm, .ref plf, .ref plo, .ref plb, .ref pla])), (plf, .inl (plkf, 40, .inl plF)), (plo, .inl (plko, 40, .inl plO)), (plb, .inl (plkb, 40, .inr (.inl plB))), (pla, .inl (plka, 100, .inl plA))] s.heap.size = A at hD ⊢
  have hA : ∀ q : Nat, s.heap.size ≤ q → A q := fun q h => by rw [← hAe]; exact Or.inr h
  have hS : va_S A s.heap s.heap [] := va_S.rf
  have hP : va_P (dC, dI) vwCl [(gn, .inr (1, [.ref gno, .int gnl, .ref gns, .ref gnp])), (gnp, .inl (gnkp, 40, .inl gnP)), (gns, .inl (gnks, 3, .inr (.inr (.inr (.inr gnS))))), (gr1, .inl (gnkr1, 480, .inl gR1)), (gd, .inr (0, [.ref pl, .int gdl, .long gdh, .long gdw, .int gdi, .int gde, .int gdc, .ref gdt, .int gdg, .ref gdu, .int gdn, .ref gdx])), (pl, .inr (3, [.int plw, .int pld, .int plc, .int pls, .long plm, .ref plf, .ref plo, .ref plb, .ref pla])), (plf, .inl (plkf, 40, .inl plF)), (plo, .inl (plko, 40, .inl plO)), (plb, .inl (plkb, 40, .inr (.inl plB))), (pla, .inl (plka, 100, .inl plA))] s.heap := hP
  have hl := lv_entry ([.ref gn, .ref gd, .long p0, .int 1]) (n := 13) (Nat.le_of_ble_eq_true rfl)
  rw [lg_entry_eq]
  generalize (lg_sl ([.ref gn, .ref gd, .long p0, .int 1]) ++ List.replicate (13 - (lg_sl ([.ref gn, .ref gd, .long p0, .int 1])).length) Slot.unset).toArray = ls at hl ⊢
  have hl : lv_has ls 13 [(0, .ref gn), (1, .ref gd), (2, .long p0), (4, .int 1)] := hl
  refine lv_iload hx hb dX1_list_0 (lv_at hl 3 rfl) ?_
  refine lv_if_lt (tgt := 11) hx hb dX1_list_2 (by decide) (fun h => absurd h (by decide)) (fun _ => ?_)
  refine lv_iload hx hb dX1_list_5 (lv_at hl 3 rfl) ?_
  refine lv_iconst (v := 3) hx hb dX1_list_7 (by decide) ?_
  refine lv_icmp_lt (tgt := 13) hx hb dX1_list_8 (by decide) (fun _ => ?_) (fun h => absurd (by decide) h)
  refine lv_aload_n hx hb dX1_list_13 rfl (lv_at hl 1 rfl) ?_
  refine va_get (D := (dC, dI)) (ci := 0) (v := .ref pl) (C := RX0) (T := TX0) (N := 12) hx hb hts in_X1_list_1_X0 hown hK hP 4 rfl rfl 0 (by decide) (hts _ wd_X1_list_1_0) (fun _ h9 => h9) rfl dX1_list_14 ?_
  refine lv_astore (lv' := [(5, .ref pl), (0, .ref gn), (1, .ref gd), (2, .long p0), (4, .int 1)]) hx hb dX1_list_17 hl (by decide) rfl (fun ls hl => ?_)
  refine lv_aload_n hx hb dX1_list_19 rfl (lv_at hl 2 rfl) ?_
  refine lv_lload_n hx hb dX1_list_20 rfl (lv_at hl 3 rfl) ?_
  have hPc := hP.sub (ws' := [(gd, .inr (0, [.ref pl, .int gdl, .long gdh, .long gdw, .int gdi, .int gde, .int gdc, .ref gdt, .int gdg, .ref gdu, .int gdn, .ref gdx])), (pl, .inr (3, [.int plw, .int pld, .int plc, .int pls, .long plm, .ref plf, .ref plo, .ref plb, .ref pla]))]) [4, 5] rfl
  have hDc := hD.sub (ws' := [(gd, .inr (0, [.ref pl, .int gdl, .long gdh, .long gdw, .int gdi, .int gde, .int gdc, .ref gdt, .int gdg, .ref gdu, .int gdn, .ref gdx])), (pl, .inr (3, [.int plw, .int pld, .int plc, .int pls, .long plm, .ref plf, .ref plo, .ref plb, .ref pla]))]) [4, 5] (by decide) rfl
  have hKc := hK.sub (tys' := []) [] rfl
  have hFc := va_free (wc := [(gd, .inr (0, [.ref pl, .int gdl, .long gdh, .long gdw, .int gdi, .int gde, .int gdc, .ref gdt, .int gdg, .ref gdu, .int gdn, .ref gdx])), (pl, .inr (3, [.int plw, .int pld, .int plc, .int pls, .long plm, .ref plf, .ref plo, .ref plb, .ref pla]))]) hD hS hA [4, 5] rfl
  refine va_calll (va_runV (As := [.long p0]) (rest := []) ⟨hx, hb, hml, hown, hts⟩ (c_X0_openWith l dC dI s.heap.size gd gdl gdh gdw gdi gde gdc gdt gdg gdu gdn gdx pl plw pld plc pls plm plf plo plb pla p0 ) (cwV 1 hts g_X1_list_1_X0_openWith rfl rfl rfl (by decide +kernel) ⟨Nat.le_of_ble_eq_true rfl, Nat.le_of_ble_eq_true rfl⟩) ⟨fun a U g mk q => by obtain ⟨q0, q1, qP, qK, qD⟩ := q; exact ⟨q0, q1, qP, va_K.moved (u := U) (U := U.calling g mk a) (Vm.Alike.refl U.vm) qK, qD⟩, va_recv hKc hPc (ci := 0) (q0 := 0) rfl rfl, fun U hU hW => ⟨rfl, by rw [hU], by rw [hU]; exact hPc, va_K.moved hW.alike hKc, hDc.weaken (fun _ _ _ _ => trivial)⟩⟩ rfl rfl hl.1 rfl (lv_room (Nat.le_of_ble_eq_true rfl)) dX1_list_21 ⟨Nat.le_of_ble_eq_true rfl, Nat.le_of_ble_eq_true rfl⟩) hS (fun q _ h => hFc q h) hFc (fun r_3 u t H1 locs ht hvm hw_4 hB hz1 hk1 hS => ?_)
  obtain ⟨hP1, hK1, hD1⟩ := hB
  have hP1 : va_P (dC, dI) vwCl [(gd, .inr (0, [.ref pl, .int gdl, .long gdh, .long gdw, .int gdi, .int gde, .int gdc, .ref gdt, .int gdg, .ref gdu, .int gdn, .ref gdx])), (pl, .inr (3, [.int plw, .int pld, .int plc, .int pls, .long plm, .ref plf, .ref plo, .ref plb, .ref pla]))] t.heap := hP1
  rw [ht] at hP1
  try dsimp only at hw_4
  obtain ⟨hP, hD⟩ := va_join (wr := [(gn, .inr (1, [.ref gno, .int gnl, .ref gns, .ref gnp])), (gnp, .inl (gnkp, 40, .inl gnP)), (gns, .inl (gnks, 3, .inr (.inr (.inr (.inr gnS))))), (gr1, .inl (gnkr1, 480, .inl gR1)), (plf, .inl (plkf, 40, .inl plF)), (plo, .inl (plko, 40, .inl plO)), (plb, .inl (plkb, 40, .inr (.inl plB))), (pla, .inl (plka, 100, .inl plA))]) (w1 := [(gd, .inr (0, [.ref pl, .int gdl, .long gdh, .long gdw, .int gdi, .int gde, .int gdc, .ref gdt, .int gdg, .ref gdu, .int gdn, .ref gdx])), (pl, .inr (3, [.int plw, .int pld, .int plc, .int pls, .long plm, .ref plf, .ref plo, .ref plb, .ref pla]))]) hP hD [4, 5] [0, 1, 2, 3, 6, 7, 8, 9] rfl rfl (by decide) (by decide) hk1 hFc hP1 hD1
  generalize H1 = H at hP hS ⊢
  have hP : va_P (dC, dI) vwCl [(gn, .inr (1, [.ref gno, .int gnl, .ref gns, .ref gnp])), (gnp, .inl (gnkp, 40, .inl gnP)), (gns, .inl (gnks, 3, .inr (.inr (.inr (.inr gnS))))), (gr1, .inl (gnkr1, 480, .inl gR1)), (plf, .inl (plkf, 40, .inl plF)), (plo, .inl (plko, 40, .inl plO)), (plb, .inl (plkb, 40, .inr (.inl plB))), (pla, .inl (plka, 100, .inl plA)), (gd, .inr (0, [.ref pl, .int gdl, .long gdh, .long gdw, .int gdi, .int gde, .int gdc, .ref gdt, .int gdg, .ref gdu, .int gdn, .ref gdx])), (pl, .inr (3, [.int plw, .int pld, .int plc, .int pls, .long plm, .ref plf, .ref plo, .ref plb, .ref pla]))] H := hP
  have hD : va_D A [(gn, .inr (1, [.ref gno, .int gnl, .ref gns, .ref gnp])), (gnp, .inl (gnkp, 40, .inl gnP)), (gns, .inl (gnks, 3, .inr (.inr (.inr (.inr gnS))))), (gr1, .inl (gnkr1, 480, .inl gR1)), (plf, .inl (plkf, 40, .inl plF)), (plo, .inl (plko, 40, .inl plO)), (plb, .inl (plkb, 40, .inr (.inl plB))), (pla, .inl (plka, 100, .inl plA)), (gd, .inr (0, [.ref pl, .int gdl, .long gdh, .long gdw, .int gdi, .int gde, .int gdc, .ref gdt, .int gdg, .ref gdu, .int gdn, .ref gdx])), (pl, .inr (3, [.int plw, .int pld, .int plc, .int pls, .long plm, .ref plf, .ref plo, .ref plb, .ref pla]))] := hD
  refine lv_lstore (lv' := [(6, .long r_3), (5, .ref pl), (0, .ref gn), (1, .ref gd), (2, .long p0), (4, .int 1)]) hx hb dX1_list_24 hl (by decide) rfl (fun ls hl => ?_)
  refine lv_iconst (v := 0) hx hb dX1_list_26 (by decide) ?_
  refine lv_istore (lv' := [(8, .int 0), (6, .long r_3), (5, .ref pl), (0, .ref gn), (1, .ref gd), (2, .long p0), (4, .int 1)]) hx hb dX1_list_27 hl (by decide) rfl (fun ls hl => ?_)
  refine lp_W (I := fun (a : Int32 × (Nat → Int32)) H locs ls => (0 ≤ a.1.toInt ∧ a.1.toInt ≤ 40) ∧ va_P (dC, dI) vwCl [(gn, .inr (1, [.ref gno, .int gnl, .ref gns, .ref gnp])), (gnp, .inl (gnkp, 40, .inl a.2)), (gns, .inl (gnks, 3, .inr (.inr (.inr (.inr gnS))))), (gr1, .inl (gnkr1, 480, .inl gR1)), (plf, .inl (plkf, 40, .inl plF)), (plo, .inl (plko, 40, .inl plO)), (plb, .inl (plkb, 40, .inr (.inl plB))), (pla, .inl (plka, 100, .inl plA)), (gd, .inr (0, [.ref pl, .int gdl, .long gdh, .long gdw, .int gdi, .int gde, .int gdc, .ref gdt, .int gdg, .ref gdu, .int gdn, .ref gdx])), (pl, .inr (3, [.int plw, .int pld, .int plc, .int pls, .long plm, .ref plf, .ref plo, .ref plb, .ref pla]))] H ∧ va_D A [(gn, .inr (1, [.ref gno, .int gnl, .ref gns, .ref gnp])), (gnp, .inl (gnkp, 40, .inl a.2)), (gns, .inl (gnks, 3, .inr (.inr (.inr (.inr gnS))))), (gr1, .inl (gnkr1, 480, .inl gR1)), (plf, .inl (plkf, 40, .inl plF)), (plo, .inl (plko, 40, .inl plO)), (plb, .inl (plkb, 40, .inr (.inl plB))), (pla, .inl (plka, 100, .inl plA)), (gd, .inr (0, [.ref pl, .int gdl, .long gdh, .long gdw, .int gdi, .int gde, .int gdc, .ref gdt, .int gdg, .ref gdu, .int gdn, .ref gdx])), (pl, .inr (3, [.int plw, .int pld, .int plc, .int pls, .long plm, .ref plf, .ref plo, .ref plb, .ref pla]))] ∧ va_S A s.heap H locs ∧ lv_has ls 13 [(8, .int a.1), (6, .long r_3), (5, .ref pl), (0, .ref gn), (1, .ref gd), (2, .long p0), (4, .int 1)]) (μ := fun a => (40 - a.1.toInt).toNat) ?_ ((0 : Int32), gnP) ⟨(by have k0 : (0 : Int32).toInt = 0 := (by decide); (try dsimp only); omega), hP.sub [0, 1, 2, 3, 4, 5, 6, 7, 8, 9] rfl, hD.sub [0, 1, 2, 3, 4, 5, 6, 7, 8, 9] (by decide) rfl, hS, lv_sub hl [0, 1, 2, 3, 4, 5, 6] rfl⟩
  intro a H locs ls hI ih29
  obtain ⟨t0, P1⟩ := a
  obtain ⟨h_t0, hP, hD, hS, hl⟩ := hI
  have h_t0 : 0 ≤ t0.toInt ∧ t0.toInt ≤ 40 := h_t0
  have hP : va_P (dC, dI) vwCl [(gn, .inr (1, [.ref gno, .int gnl, .ref gns, .ref gnp])), (gnp, .inl (gnkp, 40, .inl P1)), (gns, .inl (gnks, 3, .inr (.inr (.inr (.inr gnS))))), (gr1, .inl (gnkr1, 480, .inl gR1)), (plf, .inl (plkf, 40, .inl plF)), (plo, .inl (plko, 40, .inl plO)), (plb, .inl (plkb, 40, .inr (.inl plB))), (pla, .inl (plka, 100, .inl plA)), (gd, .inr (0, [.ref pl, .int gdl, .long gdh, .long gdw, .int gdi, .int gde, .int gdc, .ref gdt, .int gdg, .ref gdu, .int gdn, .ref gdx])), (pl, .inr (3, [.int plw, .int pld, .int plc, .int pls, .long plm, .ref plf, .ref plo, .ref plb, .ref pla]))] H := hP
  have hD : va_D A [(gn, .inr (1, [.ref gno, .int gnl, .ref gns, .ref gnp])), (gnp, .inl (gnkp, 40, .inl P1)), (gns, .inl (gnks, 3, .inr (.inr (.inr (.inr gnS))))), (gr1, .inl (gnkr1, 480, .inl gR1)), (plf, .inl (plkf, 40, .inl plF)), (plo, .inl (plko, 40, .inl plO)), (plb, .inl (plkb, 40, .inr (.inl plB))), (pla, .inl (plka, 100, .inl plA)), (gd, .inr (0, [.ref pl, .int gdl, .long gdh, .long gdw, .int gdi, .int gde, .int gdc, .ref gdt, .int gdg, .ref gdu, .int gdn, .ref gdx])), (pl, .inr (3, [.int plw, .int pld, .int plc, .int pls, .long plm, .ref plf, .ref plo, .ref plb, .ref pla]))] := hD
  have hl : lv_has ls 13 [(8, .int t0), (6, .long r_3), (5, .ref pl), (0, .ref gn), (1, .ref gd), (2, .long p0), (4, .int 1)] := hl
  refine lv_iload hx hb dX1_list_29 (lv_at hl 0 rfl) ?_
  refine lv_aload hx hb dX1_list_31 (lv_at hl 2 rfl) ?_
  refine va_get (D := (dC, dI)) (ci := 3) (v := .int pls) (C := RX3) (T := TX3) (N := 9) hx hb hts in_X1_list_1_X3 hown hK hP 9 rfl rfl 3 (by decide) (hts _ wd_X1_list_1_1) (fun _ h9 => h9) rfl dX1_list_33 ?_
  refine lv_icmp_ge (tgt := 77) hx hb dX1_list_36 (by decide) (fun c_5 => ?_) (fun c_5 => ?_)
  · have c_5 : pls.toInt ≤ t0.toInt := i_le (a := pls) (b := t0) rfl rfl c_5
    refine lv_iconst (v := 0) hx hb dX1_list_77 (by decide) ?_
    refine lv_istore (lv' := [(8, .int 0), (6, .long r_3), (5, .ref pl), (0, .ref gn), (1, .ref gd), (2, .long p0), (4, .int 1)]) hx hb dX1_list_78 hl (by decide) rfl (fun ls hl => ?_)
    refine lv_iconst (v := 0) hx hb dX1_list_80 (by decide) ?_
    refine lv_istore (lv' := [(9, .int 0), (8, .int 0), (6, .long r_3), (5, .ref pl), (0, .ref gn), (1, .ref gd), (2, .long p0), (4, .int 1)]) hx hb dX1_list_81 hl (by decide) rfl (fun ls hl => ?_)
    refine lp_W (I := fun (a : Int32 × Int32 × (Nat → Int32)) H locs ls => (0 ≤ a.1.toInt ∧ a.1.toInt ≤ 40) ∧ (0 ≤ a.2.1.toInt ∧ a.2.1.toInt ≤ 480) ∧ va_P (dC, dI) vwCl [(gn, .inr (1, [.ref gno, .int gnl, .ref gns, .ref gnp])), (gnp, .inl (gnkp, 40, .inl P1)), (gns, .inl (gnks, 3, .inr (.inr (.inr (.inr gnS))))), (gr1, .inl (gnkr1, 480, .inl a.2.2)), (plf, .inl (plkf, 40, .inl plF)), (plo, .inl (plko, 40, .inl plO)), (plb, .inl (plkb, 40, .inr (.inl plB))), (pla, .inl (plka, 100, .inl plA)), (gd, .inr (0, [.ref pl, .int gdl, .long gdh, .long gdw, .int gdi, .int gde, .int gdc, .ref gdt, .int gdg, .ref gdu, .int gdn, .ref gdx])), (pl, .inr (3, [.int plw, .int pld, .int plc, .int pls, .long plm, .ref plf, .ref plo, .ref plb, .ref pla]))] H ∧ va_D A [(gn, .inr (1, [.ref gno, .int gnl, .ref gns, .ref gnp])), (gnp, .inl (gnkp, 40, .inl P1)), (gns, .inl (gnks, 3, .inr (.inr (.inr (.inr gnS))))), (gr1, .inl (gnkr1, 480, .inl a.2.2)), (plf, .inl (plkf, 40, .inl plF)), (plo, .inl (plko, 40, .inl plO)), (plb, .inl (plkb, 40, .inr (.inl plB))), (pla, .inl (plka, 100, .inl plA)), (gd, .inr (0, [.ref pl, .int gdl, .long gdh, .long gdw, .int gdi, .int gde, .int gdc, .ref gdt, .int gdg, .ref gdu, .int gdn, .ref gdx])), (pl, .inr (3, [.int plw, .int pld, .int plc, .int pls, .long plm, .ref plf, .ref plo, .ref plb, .ref pla]))] ∧ va_S A s.heap H locs ∧ lv_has ls 13 [(9, .int a.1), (8, .int a.2.1), (6, .long r_3), (5, .ref pl), (0, .ref gn), (1, .ref gd), (2, .long p0), (4, .int 1)]) (μ := fun a => (40 - a.1.toInt).toNat) ?_ ((0 : Int32), (0 : Int32), gR1) ⟨(by have k0 : (0 : Int32).toInt = 0 := (by decide); (try dsimp only); omega), (by have k0 : (0 : Int32).toInt = 0 := (by decide); (try dsimp only); omega), hP.sub [0, 1, 2, 3, 4, 5, 6, 7, 8, 9] rfl, hD.sub [0, 1, 2, 3, 4, 5, 6, 7, 8, 9] (by decide) rfl, hS, lv_sub hl [0, 1, 2, 3, 4, 5, 6, 7] rfl⟩
    intro a H locs ls hI ih83
    obtain ⟨f1, fd, R1⟩ := a
    obtain ⟨h_f1, h_fd, hP, hD, hS, hl⟩ := hI
    have h_f1 : 0 ≤ f1.toInt ∧ f1.toInt ≤ 40 := h_f1
    have h_fd : 0 ≤ fd.toInt ∧ fd.toInt ≤ 480 := h_fd
    have hP : va_P (dC, dI) vwCl [(gn, .inr (1, [.ref gno, .int gnl, .ref gns, .ref gnp])), (gnp, .inl (gnkp, 40, .inl P1)), (gns, .inl (gnks, 3, .inr (.inr (.inr (.inr gnS))))), (gr1, .inl (gnkr1, 480, .inl R1)), (plf, .inl (plkf, 40, .inl plF)), (plo, .inl (plko, 40, .inl plO)), (plb, .inl (plkb, 40, .inr (.inl plB))), (pla, .inl (plka, 100, .inl plA)), (gd, .inr (0, [.ref pl, .int gdl, .long gdh, .long gdw, .int gdi, .int gde, .int gdc, .ref gdt, .int gdg, .ref gdu, .int gdn, .ref gdx])), (pl, .inr (3, [.int plw, .int pld, .int plc, .int pls, .long plm, .ref plf, .ref plo, .ref plb, .ref pla]))] H := hP
    have hD : va_D A [(gn, .inr (1, [.ref gno, .int gnl, .ref gns, .ref gnp])), (gnp, .inl (gnkp, 40, .inl P1)), (gns, .inl (gnks, 3, .inr (.inr (.inr (.inr gnS))))), (gr1, .inl (gnkr1, 480, .inl R1)), (plf, .inl (plkf, 40, .inl plF)), (plo, .inl (plko, 40, .inl plO)), (plb, .inl (plkb, 40, .inr (.inl plB))), (pla, .inl (plka, 100, .inl plA)), (gd, .inr (0, [.ref pl, .int gdl, .long gdh, .long gdw, .int gdi, .int gde, .int gdc, .ref gdt, .int gdg, .ref gdu, .int gdn, .ref gdx])), (pl, .inr (3, [.int plw, .int pld, .int plc, .int pls, .long plm, .ref plf, .ref plo, .ref plb, .ref pla]))] := hD
    have hl : lv_has ls 13 [(9, .int f1), (8, .int fd), (6, .long r_3), (5, .ref pl), (0, .ref gn), (1, .ref gd), (2, .long p0), (4, .int 1)] := hl
    refine lv_iload hx hb dX1_list_83 (lv_at hl 0 rfl) ?_
    refine lv_aload hx hb dX1_list_85 (lv_at hl 3 rfl) ?_
    refine va_get (D := (dC, dI)) (ci := 3) (v := .int pls) (C := RX3) (T := TX3) (N := 9) hx hb hts in_X1_list_1_X3 hown hK hP 9 rfl rfl 3 (by decide) (hts _ wd_X1_list_1_1) (fun _ h9 => h9) rfl dX1_list_87 ?_
    refine lv_icmp_ge (tgt := 209) hx hb dX1_list_90 (by decide) (fun c_6 => ?_) (fun c_6 => ?_)
    · have c_6 : pls.toInt ≤ f1.toInt := i_le (a := pls) (b := f1) rfl rfl c_6
      refine lv_iload hx hb dX1_list_209 (lv_at hl 1 rfl) ?_
      have hP9 := hP.sub (ws' := [(gn, .inr (1, [.ref gno, .int gnl, .ref gns, .ref gnp])), (gnp, .inl (gnkp, 40, .inl P1)), (gns, .inl (gnks, 3, .inr (.inr (.inr (.inr gnS))))), (gr1, .inl (gnkr1, 480, .inl R1)), (gd, .inr (0, [.ref pl, .int gdl, .long gdh, .long gdw, .int gdi, .int gde, .int gdc, .ref gdt, .int gdg, .ref gdu, .int gdn, .ref gdx])), (pl, .inr (3, [.int plw, .int pld, .int plc, .int pls, .long plm, .ref plf, .ref plo, .ref plb, .ref pla])), (plf, .inl (plkf, 40, .inl plF)), (plo, .inl (plko, 40, .inl plO)), (plb, .inl (plkb, 40, .inr (.inl plB))), (pla, .inl (plka, 100, .inl plA))]) [0, 1, 2, 3, 8, 9, 4, 5, 6, 7] rfl
      have hD9 := hD.sub (ws' := [(gn, .inr (1, [.ref gno, .int gnl, .ref gns, .ref gnp])), (gnp, .inl (gnkp, 40, .inl P1)), (gns, .inl (gnks, 3, .inr (.inr (.inr (.inr gnS))))), (gr1, .inl (gnkr1, 480, .inl R1)), (gd, .inr (0, [.ref pl, .int gdl, .long gdh, .long gdw, .int gdi, .int gde, .int gdc, .ref gdt, .int gdg, .ref gdu, .int gdn, .ref gdx])), (pl, .inr (3, [.int plw, .int pld, .int plc, .int pls, .long plm, .ref plf, .ref plo, .ref plb, .ref pla])), (plf, .inl (plkf, 40, .inl plF)), (plo, .inl (plko, 40, .inl plO)), (plb, .inl (plkb, 40, .inr (.inl plB))), (pla, .inl (plka, 100, .inl plA))]) [0, 1, 2, 3, 8, 9, 4, 5, 6, 7] (by decide) rfl
      have hK9 := hK.sub (tys' := []) [] rfl
      refine W.widen (k := 0) (n := 0) (by omega) (by omega) ?_
      exact W.iret (v := fd) hx hb hr (fun t ht hW => ⟨⟨fd, (P1, R1), rfl, (by first | rfl | trivial | (dsimp only; omega) | omega | (left; rfl) | (right; rfl) | (dsimp only; first | (left; rfl) | (right; rfl))), by rw [ht]; exact hP9, va_K.moved hW.alike hK9, hD9⟩, hS.F ht⟩) hS.2.2 dX1_list_211
    · have c_6 : f1.toInt < pls.toInt := i_nle (a := pls) (b := f1) rfl rfl c_6
      refine lv_aload hx hb dX1_list_93 (lv_at hl 3 rfl) ?_
      refine lv_lload_n hx hb dX1_list_95 rfl (lv_at hl 6 rfl) ?_
      refine lv_iload hx hb dX1_list_96 (lv_at hl 0 rfl) ?_
      have hPc := hP.sub (ws' := [(pl, .inr (3, [.int plw, .int pld, .int plc, .int pls, .long plm, .ref plf, .ref plo, .ref plb, .ref pla])), (plb, .inl (plkb, 40, .inr (.inl plB)))]) [9, 6] rfl
      have hDc := hD.sub (ws' := [(pl, .inr (3, [.int plw, .int pld, .int plc, .int pls, .long plm, .ref plf, .ref plo, .ref plb, .ref pla])), (plb, .inl (plkb, 40, .inr (.inl plB)))]) [9, 6] (by decide) rfl
      have hKc := hK.sub (tys' := [(plkb, .long)]) [5] rfl
      have hFc := va_free (wc := [(pl, .inr (3, [.int plw, .int pld, .int plc, .int pls, .long plm, .ref plf, .ref plo, .ref plb, .ref pla])), (plb, .inl (plkb, 40, .inr (.inl plB)))]) hD hS hA [9, 6] rfl
      refine va_calli (va_runV (As := [.long p0, .int f1]) (rest := []) ⟨hx, hb, hml, hown, hts⟩ (c_X3_has l dC dI H.size pl plw pld plc pls plm plf plo plb pla plkb plB p0 f1 (by omega)) (cwV 2 hts g_X1_list_1_X3_has rfl rfl rfl (by decide +kernel) ⟨Nat.le_of_ble_eq_true rfl, Nat.le_of_ble_eq_true rfl⟩) ⟨fun a U g mk q => by obtain ⟨q0, q1, qP, qK, qD⟩ := q; exact ⟨q0, q1, qP, va_K.moved (u := U) (U := U.calling g mk a) (Vm.Alike.refl U.vm) qK, qD⟩, va_recv hKc hPc (ci := 3) (q0 := 0) rfl rfl, fun U hU hW => ⟨rfl, by rw [hU], by rw [hU]; exact hPc, va_K.moved hW.alike hKc, hDc.weaken (fun _ _ _ _ => trivial)⟩⟩ rfl rfl hl.1 rfl (lv_room (Nat.le_of_ble_eq_true rfl)) dX1_list_98 ⟨Nat.le_of_ble_eq_true rfl, Nat.le_of_ble_eq_true rfl⟩) hS (fun q _ h => hFc q h) hFc (fun r_7 u t H1 locs ht hvm hw_8 hB hz1 hk1 hS => ?_)
      obtain ⟨hP1, hK1, hD1⟩ := hB
      have hP1 : va_P (dC, dI) vwCl [(pl, .inr (3, [.int plw, .int pld, .int plc, .int pls, .long plm, .ref plf, .ref plo, .ref plb, .ref pla])), (plb, .inl (plkb, 40, .inr (.inl plB)))] t.heap := hP1
      rw [ht] at hP1
      try dsimp only at hw_8
      obtain ⟨hP, hD⟩ := va_join (wr := [(gn, .inr (1, [.ref gno, .int gnl, .ref gns, .ref gnp])), (gnp, .inl (gnkp, 40, .inl P1)), (gns, .inl (gnks, 3, .inr (.inr (.inr (.inr gnS))))), (gr1, .inl (gnkr1, 480, .inl R1)), (plf, .inl (plkf, 40, .inl plF)), (plo, .inl (plko, 40, .inl plO)), (pla, .inl (plka, 100, .inl plA)), (gd, .inr (0, [.ref pl, .int gdl, .long gdh, .long gdw, .int gdi, .int gde, .int gdc, .ref gdt, .int gdg, .ref gdu, .int gdn, .ref gdx]))]) (w1 := [(pl, .inr (3, [.int plw, .int pld, .int plc, .int pls, .long plm, .ref plf, .ref plo, .ref plb, .ref pla])), (plb, .inl (plkb, 40, .inr (.inl plB)))]) hP hD [9, 6] [0, 1, 2, 3, 4, 5, 7, 8] rfl rfl (by decide) (by decide) hk1 hFc hP1 hD1
      generalize H1 = H at hP hS ⊢
      have hP : va_P (dC, dI) vwCl [(gn, .inr (1, [.ref gno, .int gnl, .ref gns, .ref gnp])), (gnp, .inl (gnkp, 40, .inl P1)), (gns, .inl (gnks, 3, .inr (.inr (.inr (.inr gnS))))), (gr1, .inl (gnkr1, 480, .inl R1)), (plf, .inl (plkf, 40, .inl plF)), (plo, .inl (plko, 40, .inl plO)), (pla, .inl (plka, 100, .inl plA)), (gd, .inr (0, [.ref pl, .int gdl, .long gdh, .long gdw, .int gdi, .int gde, .int gdc, .ref gdt, .int gdg, .ref gdu, .int gdn, .ref gdx])), (pl, .inr (3, [.int plw, .int pld, .int plc, .int pls, .long plm, .ref plf, .ref plo, .ref plb, .ref pla])), (plb, .inl (plkb, 40, .inr (.inl plB)))] H := hP
      have hD : va_D A [(gn, .inr (1, [.ref gno, .int gnl, .ref gns, .ref gnp])), (gnp, .inl (gnkp, 40, .inl P1)), (gns, .inl (gnks, 3, .inr (.inr (.inr (.inr gnS))))), (gr1, .inl (gnkr1, 480, .inl R1)), (plf, .inl (plkf, 40, .inl plF)), (plo, .inl (plko, 40, .inl plO)), (pla, .inl (plka, 100, .inl plA)), (gd, .inr (0, [.ref pl, .int gdl, .long gdh, .long gdw, .int gdi, .int gde, .int gdc, .ref gdt, .int gdg, .ref gdu, .int gdn, .ref gdx])), (pl, .inr (3, [.int plw, .int pld, .int plc, .int pls, .long plm, .ref plf, .ref plo, .ref plb, .ref pla])), (plb, .inl (plkb, 40, .inr (.inl plB)))] := hD
      refine lv_if_eq (tgt := 116) hx hb dX1_list_101 (by decide) (fun c_9 => ?_) (fun c_9 => ?_)
      · have c_9 : r_7.toInt = 0 := i_eq (a := r_7) (b := 0) rfl (by decide) c_9
        refine lv_lconst (v := 0) hx hb dX1_list_116 (by decide) ?_
        refine lv_lstore (lv' := [(10, .long 0), (9, .int f1), (8, .int fd), (6, .long r_3), (5, .ref pl), (0, .ref gn), (1, .ref gd), (2, .long p0), (4, .int 1)]) hx hb dX1_list_117 hl (by decide) rfl (fun ls hl => ?_)
        refine lv_iconst (v := 0) hx hb dX1_list_119 (by decide) ?_
        refine lv_istore (lv' := [(12, .int 0), (10, .long 0), (9, .int f1), (8, .int fd), (6, .long r_3), (5, .ref pl), (0, .ref gn), (1, .ref gd), (2, .long p0), (4, .int 1)]) hx hb dX1_list_120 hl (by decide) rfl (fun ls hl => ?_)
        refine lp_W (I := fun (a : Int32 × Int32 × (Nat → Int32)) H locs ls => (0 ≤ a.1.toInt ∧ a.1.toInt ≤ 40) ∧ (0 ≤ a.2.1.toInt ∧ a.2.1.toInt ≤ 480) ∧ va_P (dC, dI) vwCl [(gn, .inr (1, [.ref gno, .int gnl, .ref gns, .ref gnp])), (gnp, .inl (gnkp, 40, .inl P1)), (gns, .inl (gnks, 3, .inr (.inr (.inr (.inr gnS))))), (gr1, .inl (gnkr1, 480, .inl a.2.2)), (plf, .inl (plkf, 40, .inl plF)), (plo, .inl (plko, 40, .inl plO)), (pla, .inl (plka, 100, .inl plA)), (gd, .inr (0, [.ref pl, .int gdl, .long gdh, .long gdw, .int gdi, .int gde, .int gdc, .ref gdt, .int gdg, .ref gdu, .int gdn, .ref gdx])), (pl, .inr (3, [.int plw, .int pld, .int plc, .int pls, .long plm, .ref plf, .ref plo, .ref plb, .ref pla])), (plb, .inl (plkb, 40, .inr (.inl plB)))] H ∧ va_D A [(gn, .inr (1, [.ref gno, .int gnl, .ref gns, .ref gnp])), (gnp, .inl (gnkp, 40, .inl P1)), (gns, .inl (gnks, 3, .inr (.inr (.inr (.inr gnS))))), (gr1, .inl (gnkr1, 480, .inl a.2.2)), (plf, .inl (plkf, 40, .inl plF)), (plo, .inl (plko, 40, .inl plO)), (pla, .inl (plka, 100, .inl plA)), (gd, .inr (0, [.ref pl, .int gdl, .long gdh, .long gdw, .int gdi, .int gde, .int gdc, .ref gdt, .int gdg, .ref gdu, .int gdn, .ref gdx])), (pl, .inr (3, [.int plw, .int pld, .int plc, .int pls, .long plm, .ref plf, .ref plo, .ref plb, .ref pla])), (plb, .inl (plkb, 40, .inr (.inl plB)))] ∧ va_S A s.heap H locs ∧ lv_has ls 13 [(12, .int a.1), (10, .long 0), (9, .int f1), (8, .int a.2.1), (6, .long r_3), (5, .ref pl), (0, .ref gn), (1, .ref gd), (2, .long p0), (4, .int 1)]) (μ := fun a => (40 - a.1.toInt).toNat) ?_ ((0 : Int32), fd, R1) ⟨(by have k0 : (0 : Int32).toInt = 0 := (by decide); (try dsimp only); omega), (by have k0 : (0 : Int32).toInt = 0 := (by decide); (try dsimp only); omega), hP.sub [0, 1, 2, 3, 4, 5, 6, 7, 8, 9] rfl, hD.sub [0, 1, 2, 3, 4, 5, 6, 7, 8, 9] (by decide) rfl, hS, lv_sub hl [0, 1, 2, 3, 4, 5, 6, 7, 8, 9] rfl⟩
        intro a H locs ls hI ih122
        obtain ⟨t2, fe, R2⟩ := a
        obtain ⟨h_t2, h_fe, hP, hD, hS, hl⟩ := hI
        have h_t2 : 0 ≤ t2.toInt ∧ t2.toInt ≤ 40 := h_t2
        have h_fe : 0 ≤ fe.toInt ∧ fe.toInt ≤ 480 := h_fe
        have hP : va_P (dC, dI) vwCl [(gn, .inr (1, [.ref gno, .int gnl, .ref gns, .ref gnp])), (gnp, .inl (gnkp, 40, .inl P1)), (gns, .inl (gnks, 3, .inr (.inr (.inr (.inr gnS))))), (gr1, .inl (gnkr1, 480, .inl R2)), (plf, .inl (plkf, 40, .inl plF)), (plo, .inl (plko, 40, .inl plO)), (pla, .inl (plka, 100, .inl plA)), (gd, .inr (0, [.ref pl, .int gdl, .long gdh, .long gdw, .int gdi, .int gde, .int gdc, .ref gdt, .int gdg, .ref gdu, .int gdn, .ref gdx])), (pl, .inr (3, [.int plw, .int pld, .int plc, .int pls, .long plm, .ref plf, .ref plo, .ref plb, .ref pla])), (plb, .inl (plkb, 40, .inr (.inl plB)))] H := hP
        have hD : va_D A [(gn, .inr (1, [.ref gno, .int gnl, .ref gns, .ref gnp])), (gnp, .inl (gnkp, 40, .inl P1)), (gns, .inl (gnks, 3, .inr (.inr (.inr (.inr gnS))))), (gr1, .inl (gnkr1, 480, .inl R2)), (plf, .inl (plkf, 40, .inl plF)), (plo, .inl (plko, 40, .inl plO)), (pla, .inl (plka, 100, .inl plA)), (gd, .inr (0, [.ref pl, .int gdl, .long gdh, .long gdw, .int gdi, .int gde, .int gdc, .ref gdt, .int gdg, .ref gdu, .int gdn, .ref gdx])), (pl, .inr (3, [.int plw, .int pld, .int plc, .int pls, .long plm, .ref plf, .ref plo, .ref plb, .ref pla])), (plb, .inl (plkb, 40, .inr (.inl plB)))] := hD
        have hl : lv_has ls 13 [(12, .int t2), (10, .long 0), (9, .int f1), (8, .int fe), (6, .long r_3), (5, .ref pl), (0, .ref gn), (1, .ref gd), (2, .long p0), (4, .int 1)] := hl
        refine lv_iload hx hb dX1_list_122 (lv_at hl 0 rfl) ?_
        refine lv_aload hx hb dX1_list_124 (lv_at hl 5 rfl) ?_
        refine va_get (D := (dC, dI)) (ci := 3) (v := .int pls) (C := RX3) (T := TX3) (N := 9) hx hb hts in_X1_list_1_X3 hown hK hP 8 rfl rfl 3 (by decide) (hts _ wd_X1_list_1_1) (fun _ h9 => h9) rfl dX1_list_126 ?_
        refine lv_icmp_ge (tgt := 203) hx hb dX1_list_129 (by decide) (fun c_10 => ?_) (fun c_10 => ?_)
        · have c_10 : pls.toInt ≤ t2.toInt := i_le (a := pls) (b := t2) rfl rfl c_10
          obtain ⟨x_11, ex_11⟩ : ∃ y9 : Int32, y9 = f1 + Int32.ofInt 1 := ⟨_, rfl⟩
          have zx_11 : x_11.toInt = f1.toInt + 1 := by rw [ex_11]; exact i_add rfl (show (Int32.ofInt 1).toInt = 1 by decide) (by omega) (by omega)
          refine lv_iinc (v := x_11) (lv' := [(9, .int x_11), (12, .int t2), (10, .long 0), (8, .int fe), (6, .long r_3), (5, .ref pl), (0, .ref gn), (1, .ref gd), (2, .long p0), (4, .int 1)]) hx hb dX1_list_203 hl (k := 2) rfl (by rw [ex_11]) (by decide) rfl (fun ls hl => ?_)
          refine lv_goto (tgt := 83) hx hb dX1_list_206 (by decide) ?_
          exact ih83 (x_11, fe, R2) _ _ _ ⟨(by (try dsimp only); omega), (by (try dsimp only); omega), hP.sub [0, 1, 2, 3, 4, 5, 9, 6, 7, 8] rfl, hD.sub [0, 1, 2, 3, 4, 5, 9, 6, 7, 8] (by decide) rfl, hS, lv_sub hl [0, 3, 4, 5, 6, 7, 8, 9] rfl⟩ (by (try dsimp only); omega)
        · have c_10 : t2.toInt < pls.toInt := i_nle (a := pls) (b := t2) rfl rfl c_10
          refine lv_lload hx hb dX1_list_132 (lv_at hl 1 rfl) ?_
          refine lv_lconst (v := 0) hx hb dX1_list_134 (by decide) ?_
          refine W.lcmp hx hb dX1_list_135 ?_
          refine lv_if_eq (tgt := 203) hx hb dX1_list_136 (by decide) (fun _ => ?_) (fun h => absurd (by decide) h)
          obtain ⟨x_13, ex_13⟩ : ∃ y9 : Int32, y9 = f1 + Int32.ofInt 1 := ⟨_, rfl⟩
          have zx_13 : x_13.toInt = f1.toInt + 1 := by rw [ex_13]; exact i_add rfl (show (Int32.ofInt 1).toInt = 1 by decide) (by omega) (by omega)
          refine lv_iinc (v := x_13) (lv' := [(9, .int x_13), (12, .int t2), (10, .long 0), (8, .int fe), (6, .long r_3), (5, .ref pl), (0, .ref gn), (1, .ref gd), (2, .long p0), (4, .int 1)]) hx hb dX1_list_203 hl (k := 2) rfl (by rw [ex_13]) (by decide) rfl (fun ls hl => ?_)
          refine lv_goto (tgt := 83) hx hb dX1_list_206 (by decide) ?_
          exact ih83 (x_13, fe, R2) _ _ _ ⟨(by (try dsimp only); omega), (by (try dsimp only); omega), hP.sub [0, 1, 2, 3, 4, 5, 9, 6, 7, 8] rfl, hD.sub [0, 1, 2, 3, 4, 5, 9, 6, 7, 8] (by decide) rfl, hS, lv_sub hl [0, 3, 4, 5, 6, 7, 8, 9] rfl⟩ (by (try dsimp only); omega)
      · have c_9 : r_7.toInt ≠ 0 := i_ne (a := r_7) (b := 0) rfl (by decide) c_9
        refine lv_lload hx hb dX1_list_104 (lv_at hl 2 rfl) ?_
        refine lv_aload_n hx hb dX1_list_106 rfl (lv_at hl 5 rfl) ?_
        refine lv_iload hx hb dX1_list_107 (lv_at hl 0 rfl) ?_
        have hPc := hP.sub (ws' := [(gd, .inr (0, [.ref pl, .int gdl, .long gdh, .long gdw, .int gdi, .int gde, .int gdc, .ref gdt, .int gdg, .ref gdu, .int gdn, .ref gdx])), (pl, .inr (3, [.int plw, .int pld, .int plc, .int pls, .long plm, .ref plf, .ref plo, .ref plb, .ref pla])), (plf, .inl (plkf, 40, .inl plF)), (plo, .inl (plko, 40, .inl plO)), (plb, .inl (plkb, 40, .inr (.inl plB))), (pla, .inl (plka, 100, .inl plA))]) [7, 8, 4, 5, 9, 6] rfl
        have hDc := hD.sub (ws' := [(gd, .inr (0, [.ref pl, .int gdl, .long gdh, .long gdw, .int gdi, .int gde, .int gdc, .ref gdt, .int gdg, .ref gdu, .int gdn, .ref gdx])), (pl, .inr (3, [.int plw, .int pld, .int plc, .int pls, .long plm, .ref plf, .ref plo, .ref plb, .ref pla])), (plf, .inl (plkf, 40, .inl plF)), (plo, .inl (plko, 40, .inl plO)), (plb, .inl (plkb, 40, .inr (.inl plB))), (pla, .inl (plka, 100, .inl plA))]) [7, 8, 4, 5, 9, 6] (by decide) rfl
        have hKc := hK.sub (tys' := [(plkf, .int), (plko, .int), (plkb, .long), (plka, .int)]) [3, 4, 5, 6] rfl
        have hFc := va_free (wc := [(gd, .inr (0, [.ref pl, .int gdl, .long gdh, .long gdw, .int gdi, .int gde, .int gdc, .ref gdt, .int gdg, .ref gdu, .int gdn, .ref gdx])), (pl, .inr (3, [.int plw, .int pld, .int plc, .int pls, .long plm, .ref plf, .ref plo, .ref plb, .ref pla])), (plf, .inl (plkf, 40, .inl plF)), (plo, .inl (plko, 40, .inl plO)), (plb, .inl (plkb, 40, .inr (.inl plB))), (pla, .inl (plka, 100, .inl plA))]) hD hS hA [7, 8, 4, 5, 9, 6] rfl
        refine va_calll (va_runV (As := [.int f1]) (rest := [.long r_3]) ⟨hx, hb, hml, hown, hts⟩ (c_X0_sidesByLaw l dC dI H.size gd gdl gdh gdw gdi gde gdc gdt gdg gdu gdn gdx pl plw pld plc pls plm plf plo plb pla plkf plF plko plO plkb plB plka plA f1 (by omega) hR_plf hR_plo) (cwV 1 hts g_X1_list_1_X0_sidesByLaw rfl rfl rfl (by decide +kernel) ⟨Nat.le_of_ble_eq_true rfl, Nat.le_of_ble_eq_true rfl⟩) ⟨fun a U g mk q => by obtain ⟨q0, q1, qP, qK, qD⟩ := q; exact ⟨q0, q1, qP, va_K.moved (u := U) (U := U.calling g mk a) (Vm.Alike.refl U.vm) qK, qD⟩, va_recv hKc hPc (ci := 0) (q0 := 0) rfl rfl, fun U hU hW => ⟨rfl, by rw [hU], by rw [hU]; exact hPc, va_K.moved hW.alike hKc, hDc.weaken (fun _ _ _ _ => trivial)⟩⟩ rfl rfl hl.1 rfl (lv_room (Nat.le_of_ble_eq_true rfl)) dX1_list_109 ⟨Nat.le_of_ble_eq_true rfl, Nat.le_of_ble_eq_true rfl⟩) hS (fun q _ h => hFc q h) hFc (fun r_14 u t H1 locs ht hvm hw_15 hB hz1 hk1 hS => ?_)
        obtain ⟨hP1, hK1, hD1⟩ := hB
        have hP1 : va_P (dC, dI) vwCl [(gd, .inr (0, [.ref pl, .int gdl, .long gdh, .long gdw, .int gdi, .int gde, .int gdc, .ref gdt, .int gdg, .ref gdu, .int gdn, .ref gdx])), (pl, .inr (3, [.int plw, .int pld, .int plc, .int pls, .long plm, .ref plf, .ref plo, .ref plb, .ref pla])), (plf, .inl (plkf, 40, .inl plF)), (plo, .inl (plko, 40, .inl plO)), (plb, .inl (plkb, 40, .inr (.inl plB))), (pla, .inl (plka, 100, .inl plA))] t.heap := hP1
        rw [ht] at hP1
        try dsimp only at hw_15
        obtain ⟨hP, hD⟩ := va_join (wr := [(gn, .inr (1, [.ref gno, .int gnl, .ref gns, .ref gnp])), (gnp, .inl (gnkp, 40, .inl P1)), (gns, .inl (gnks, 3, .inr (.inr (.inr (.inr gnS))))), (gr1, .inl (gnkr1, 480, .inl R1))]) (w1 := [(gd, .inr (0, [.ref pl, .int gdl, .long gdh, .long gdw, .int gdi, .int gde, .int gdc, .ref gdt, .int gdg, .ref gdu, .int gdn, .ref gdx])), (pl, .inr (3, [.int plw, .int pld, .int plc, .int pls, .long plm, .ref plf, .ref plo, .ref plb, .ref pla])), (plf, .inl (plkf, 40, .inl plF)), (plo, .inl (plko, 40, .inl plO)), (plb, .inl (plkb, 40, .inr (.inl plB))), (pla, .inl (plka, 100, .inl plA))]) hP hD [7, 8, 4, 5, 9, 6] [0, 1, 2, 3] rfl rfl (by decide) (by decide) hk1 hFc hP1 hD1
        generalize H1 = H at hP hS ⊢
        have hP : va_P (dC, dI) vwCl [(gn, .inr (1, [.ref gno, .int gnl, .ref gns, .ref gnp])), (gnp, .inl (gnkp, 40, .inl P1)), (gns, .inl (gnks, 3, .inr (.inr (.inr (.inr gnS))))), (gr1, .inl (gnkr1, 480, .inl R1)), (gd, .inr (0, [.ref pl, .int gdl, .long gdh, .long gdw, .int gdi, .int gde, .int gdc, .ref gdt, .int gdg, .ref gdu, .int gdn, .ref gdx])), (pl, .inr (3, [.int plw, .int pld, .int plc, .int pls, .long plm, .ref plf, .ref plo, .ref plb, .ref pla])), (plf, .inl (plkf, 40, .inl plF)), (plo, .inl (plko, 40, .inl plO)), (plb, .inl (plkb, 40, .inr (.inl plB))), (pla, .inl (plka, 100, .inl plA))] H := hP
        have hD : va_D A [(gn, .inr (1, [.ref gno, .int gnl, .ref gns, .ref gnp])), (gnp, .inl (gnkp, 40, .inl P1)), (gns, .inl (gnks, 3, .inr (.inr (.inr (.inr gnS))))), (gr1, .inl (gnkr1, 480, .inl R1)), (gd, .inr (0, [.ref pl, .int gdl, .long gdh, .long gdw, .int gdi, .int gde, .int gdc, .ref gdt, .int gdg, .ref gdu, .int gdn, .ref gdx])), (pl, .inr (3, [.int plw, .int pld, .int plc, .int pls, .long plm, .ref plf, .ref plo, .ref plb, .ref pla])), (plf, .inl (plkf, 40, .inl plF)), (plo, .inl (plko, 40, .inl plO)), (plb, .inl (plkb, 40, .inr (.inl plB))), (pla, .inl (plka, 100, .inl plA))] := hD
        refine lv_land hx hb dX1_list_112 ?_
        refine lv_topl (fun y_16 ey_16 => ?_)
        refine lv_goto (tgt := 117) hx hb dX1_list_113 (by decide) ?_
        refine lv_lstore (lv' := [(10, .long y_16), (9, .int f1), (8, .int fd), (6, .long r_3), (5, .ref pl), (0, .ref gn), (1, .ref gd), (2, .long p0), (4, .int 1)]) hx hb dX1_list_117 hl (by decide) rfl (fun ls hl => ?_)
        refine lv_iconst (v := 0) hx hb dX1_list_119 (by decide) ?_
        refine lv_istore (lv' := [(12, .int 0), (10, .long y_16), (9, .int f1), (8, .int fd), (6, .long r_3), (5, .ref pl), (0, .ref gn), (1, .ref gd), (2, .long p0), (4, .int 1)]) hx hb dX1_list_120 hl (by decide) rfl (fun ls hl => ?_)
        refine lp_W (I := fun (a : Int32 × Int32 × (Nat → Int32)) H locs ls => (0 ≤ a.1.toInt ∧ a.1.toInt ≤ 40) ∧ (0 ≤ a.2.1.toInt ∧ a.2.1.toInt ≤ 480) ∧ va_P (dC, dI) vwCl [(gn, .inr (1, [.ref gno, .int gnl, .ref gns, .ref gnp])), (gnp, .inl (gnkp, 40, .inl P1)), (gns, .inl (gnks, 3, .inr (.inr (.inr (.inr gnS))))), (gr1, .inl (gnkr1, 480, .inl a.2.2)), (gd, .inr (0, [.ref pl, .int gdl, .long gdh, .long gdw, .int gdi, .int gde, .int gdc, .ref gdt, .int gdg, .ref gdu, .int gdn, .ref gdx])), (pl, .inr (3, [.int plw, .int pld, .int plc, .int pls, .long plm, .ref plf, .ref plo, .ref plb, .ref pla])), (plf, .inl (plkf, 40, .inl plF)), (plo, .inl (plko, 40, .inl plO)), (plb, .inl (plkb, 40, .inr (.inl plB))), (pla, .inl (plka, 100, .inl plA))] H ∧ va_D A [(gn, .inr (1, [.ref gno, .int gnl, .ref gns, .ref gnp])), (gnp, .inl (gnkp, 40, .inl P1)), (gns, .inl (gnks, 3, .inr (.inr (.inr (.inr gnS))))), (gr1, .inl (gnkr1, 480, .inl a.2.2)), (gd, .inr (0, [.ref pl, .int gdl, .long gdh, .long gdw, .int gdi, .int gde, .int gdc, .ref gdt, .int gdg, .ref gdu, .int gdn, .ref gdx])), (pl, .inr (3, [.int plw, .int pld, .int plc, .int pls, .long plm, .ref plf, .ref plo, .ref plb, .ref pla])), (plf, .inl (plkf, 40, .inl plF)), (plo, .inl (plko, 40, .inl plO)), (plb, .inl (plkb, 40, .inr (.inl plB))), (pla, .inl (plka, 100, .inl plA))] ∧ va_S A s.heap H locs ∧ lv_has ls 13 [(12, .int a.1), (10, .long y_16), (9, .int f1), (8, .int a.2.1), (6, .long r_3), (5, .ref pl), (0, .ref gn), (1, .ref gd), (2, .long p0), (4, .int 1)]) (μ := fun a => (40 - a.1.toInt).toNat) ?_ ((0 : Int32), fd, R1) ⟨(by have k0 : (0 : Int32).toInt = 0 := (by decide); (try dsimp only); omega), (by have k0 : (0 : Int32).toInt = 0 := (by decide); (try dsimp only); omega), hP.sub [0, 1, 2, 3, 4, 5, 6, 7, 8, 9] rfl, hD.sub [0, 1, 2, 3, 4, 5, 6, 7, 8, 9] (by decide) rfl, hS, lv_sub hl [0, 1, 2, 3, 4, 5, 6, 7, 8, 9] rfl⟩
        intro a H locs ls hI ih122
        obtain ⟨t2, fe, R2⟩ := a
        obtain ⟨h_t2, h_fe, hP, hD, hS, hl⟩ := hI
        have h_t2 : 0 ≤ t2.toInt ∧ t2.toInt ≤ 40 := h_t2
        have h_fe : 0 ≤ fe.toInt ∧ fe.toInt ≤ 480 := h_fe
        have hP : va_P (dC, dI) vwCl [(gn, .inr (1, [.ref gno, .int gnl, .ref gns, .ref gnp])), (gnp, .inl (gnkp, 40, .inl P1)), (gns, .inl (gnks, 3, .inr (.inr (.inr (.inr gnS))))), (gr1, .inl (gnkr1, 480, .inl R2)), (gd, .inr (0, [.ref pl, .int gdl, .long gdh, .long gdw, .int gdi, .int gde, .int gdc, .ref gdt, .int gdg, .ref gdu, .int gdn, .ref gdx])), (pl, .inr (3, [.int plw, .int pld, .int plc, .int pls, .long plm, .ref plf, .ref plo, .ref plb, .ref pla])), (plf, .inl (plkf, 40, .inl plF)), (plo, .inl (plko, 40, .inl plO)), (plb, .inl (plkb, 40, .inr (.inl plB))), (pla, .inl (plka, 100, .inl plA))] H := hP
        have hD : va_D A [(gn, .inr (1, [.ref gno, .int gnl, .ref gns, .ref gnp])), (gnp, .inl (gnkp, 40, .inl P1)), (gns, .inl (gnks, 3, .inr (.inr (.inr (.inr gnS))))), (gr1, .inl (gnkr1, 480, .inl R2)), (gd, .inr (0, [.ref pl, .int gdl, .long gdh, .long gdw, .int gdi, .int gde, .int gdc, .ref gdt, .int gdg, .ref gdu, .int gdn, .ref gdx])), (pl, .inr (3, [.int plw, .int pld, .int plc, .int pls, .long plm, .ref plf, .ref plo, .ref plb, .ref pla])), (plf, .inl (plkf, 40, .inl plF)), (plo, .inl (plko, 40, .inl plO)), (plb, .inl (plkb, 40, .inr (.inl plB))), (pla, .inl (plka, 100, .inl plA))] := hD
        have hl : lv_has ls 13 [(12, .int t2), (10, .long y_16), (9, .int f1), (8, .int fe), (6, .long r_3), (5, .ref pl), (0, .ref gn), (1, .ref gd), (2, .long p0), (4, .int 1)] := hl
        refine lv_iload hx hb dX1_list_122 (lv_at hl 0 rfl) ?_
        refine lv_aload hx hb dX1_list_124 (lv_at hl 5 rfl) ?_
        refine va_get (D := (dC, dI)) (ci := 3) (v := .int pls) (C := RX3) (T := TX3) (N := 9) hx hb hts in_X1_list_1_X3 hown hK hP 5 rfl rfl 3 (by decide) (hts _ wd_X1_list_1_1) (fun _ h9 => h9) rfl dX1_list_126 ?_
        refine lv_icmp_ge (tgt := 203) hx hb dX1_list_129 (by decide) (fun c_17 => ?_) (fun c_17 => ?_)
        · have c_17 : pls.toInt ≤ t2.toInt := i_le (a := pls) (b := t2) rfl rfl c_17
          obtain ⟨x_18, ex_18⟩ : ∃ y9 : Int32, y9 = f1 + Int32.ofInt 1 := ⟨_, rfl⟩
          have zx_18 : x_18.toInt = f1.toInt + 1 := by rw [ex_18]; exact i_add rfl (show (Int32.ofInt 1).toInt = 1 by decide) (by omega) (by omega)
          refine lv_iinc (v := x_18) (lv' := [(9, .int x_18), (12, .int t2), (10, .long y_16), (8, .int fe), (6, .long r_3), (5, .ref pl), (0, .ref gn), (1, .ref gd), (2, .long p0), (4, .int 1)]) hx hb dX1_list_203 hl (k := 2) rfl (by rw [ex_18]) (by decide) rfl (fun ls hl => ?_)
          refine lv_goto (tgt := 83) hx hb dX1_list_206 (by decide) ?_
          exact ih83 (x_18, fe, R2) _ _ _ ⟨(by (try dsimp only); omega), (by (try dsimp only); omega), hP.sub [0, 1, 2, 3, 6, 7, 8, 9, 4, 5] rfl, hD.sub [0, 1, 2, 3, 6, 7, 8, 9, 4, 5] (by decide) rfl, hS, lv_sub hl [0, 3, 4, 5, 6, 7, 8, 9] rfl⟩ (by (try dsimp only); omega)
        · have c_17 : t2.toInt < pls.toInt := i_nle (a := pls) (b := t2) rfl rfl c_17
          refine lv_lload hx hb dX1_list_132 (lv_at hl 1 rfl) ?_
          refine lv_lconst (v := 0) hx hb dX1_list_134 (by decide) ?_
          refine W.lcmp hx hb dX1_list_135 ?_
          refine lv_if_eq (tgt := 203) hx hb dX1_list_136 (by decide) (fun c_19 => ?_) (fun c_19 => ?_)
          · have c_19 := (lg_cmp_eq y_16 0).mp c_19
            have c_19 : y_16.toInt = 0 := i_eqL (a := y_16) (b := 0) rfl (by decide) c_19
            obtain ⟨x_20, ex_20⟩ : ∃ y9 : Int32, y9 = f1 + Int32.ofInt 1 := ⟨_, rfl⟩
            have zx_20 : x_20.toInt = f1.toInt + 1 := by rw [ex_20]; exact i_add rfl (show (Int32.ofInt 1).toInt = 1 by decide) (by omega) (by omega)
            refine lv_iinc (v := x_20) (lv' := [(9, .int x_20), (12, .int t2), (10, .long y_16), (8, .int fe), (6, .long r_3), (5, .ref pl), (0, .ref gn), (1, .ref gd), (2, .long p0), (4, .int 1)]) hx hb dX1_list_203 hl (k := 2) rfl (by rw [ex_20]) (by decide) rfl (fun ls hl => ?_)
            refine lv_goto (tgt := 83) hx hb dX1_list_206 (by decide) ?_
            exact ih83 (x_20, fe, R2) _ _ _ ⟨(by (try dsimp only); omega), (by (try dsimp only); omega), hP.sub [0, 1, 2, 3, 6, 7, 8, 9, 4, 5] rfl, hD.sub [0, 1, 2, 3, 6, 7, 8, 9, 4, 5] (by decide) rfl, hS, lv_sub hl [0, 3, 4, 5, 6, 7, 8, 9] rfl⟩ (by (try dsimp only); omega)
          · have c_19 := fun h => c_19 ((lg_cmp_eq y_16 0).mpr h)
            have c_19 : y_16.toInt ≠ 0 := i_neL (a := y_16) (b := 0) rfl (by decide) c_19
            refine lv_aload hx hb dX1_list_139 (lv_at hl 5 rfl) ?_
            refine lv_lload hx hb dX1_list_141 (lv_at hl 1 rfl) ?_
            refine lv_iload hx hb dX1_list_143 (lv_at hl 0 rfl) ?_
            have hPc := hP.sub (ws' := [(pl, .inr (3, [.int plw, .int pld, .int plc, .int pls, .long plm, .ref plf, .ref plo, .ref plb, .ref pla])), (plb, .inl (plkb, 40, .inr (.inl plB)))]) [5, 8] rfl
            have hDc := hD.sub (ws' := [(pl, .inr (3, [.int plw, .int pld, .int plc, .int pls, .long plm, .ref plf, .ref plo, .ref plb, .ref pla])), (plb, .inl (plkb, 40, .inr (.inl plB)))]) [5, 8] (by decide) rfl
            have hKc := hK.sub (tys' := [(plkb, .long)]) [5] rfl
            have hFc := va_free (wc := [(pl, .inr (3, [.int plw, .int pld, .int plc, .int pls, .long plm, .ref plf, .ref plo, .ref plb, .ref pla])), (plb, .inl (plkb, 40, .inr (.inl plB)))]) hD hS hA [5, 8] rfl
            refine va_calli (va_runV (As := [.long y_16, .int t2]) (rest := []) ⟨hx, hb, hml, hown, hts⟩ (c_X3_has l dC dI H.size pl plw pld plc pls plm plf plo plb pla plkb plB y_16 t2 (by omega)) (cwV 2 hts g_X1_list_1_X3_has rfl rfl rfl (by decide +kernel) ⟨Nat.le_of_ble_eq_true rfl, Nat.le_of_ble_eq_true rfl⟩) ⟨fun a U g mk q => by obtain ⟨q0, q1, qP, qK, qD⟩ := q; exact ⟨q0, q1, qP, va_K.moved (u := U) (U := U.calling g mk a) (Vm.Alike.refl U.vm) qK, qD⟩, va_recv hKc hPc (ci := 3) (q0 := 0) rfl rfl, fun U hU hW => ⟨rfl, by rw [hU], by rw [hU]; exact hPc, va_K.moved hW.alike hKc, hDc.weaken (fun _ _ _ _ => trivial)⟩⟩ rfl rfl hl.1 rfl (lv_room (Nat.le_of_ble_eq_true rfl)) dX1_list_145 ⟨Nat.le_of_ble_eq_true rfl, Nat.le_of_ble_eq_true rfl⟩) hS (fun q _ h => hFc q h) hFc (fun r_21 u t H1 locs ht hvm hw_22 hB hz1 hk1 hS => ?_)
            obtain ⟨hP1, hK1, hD1⟩ := hB
            have hP1 : va_P (dC, dI) vwCl [(pl, .inr (3, [.int plw, .int pld, .int plc, .int pls, .long plm, .ref plf, .ref plo, .ref plb, .ref pla])), (plb, .inl (plkb, 40, .inr (.inl plB)))] t.heap := hP1
            rw [ht] at hP1
            try dsimp only at hw_22
            obtain ⟨hP, hD⟩ := va_join (wr := [(gn, .inr (1, [.ref gno, .int gnl, .ref gns, .ref gnp])), (gnp, .inl (gnkp, 40, .inl P1)), (gns, .inl (gnks, 3, .inr (.inr (.inr (.inr gnS))))), (gr1, .inl (gnkr1, 480, .inl R2)), (gd, .inr (0, [.ref pl, .int gdl, .long gdh, .long gdw, .int gdi, .int gde, .int gdc, .ref gdt, .int gdg, .ref gdu, .int gdn, .ref gdx])), (plf, .inl (plkf, 40, .inl plF)), (plo, .inl (plko, 40, .inl plO)), (pla, .inl (plka, 100, .inl plA))]) (w1 := [(pl, .inr (3, [.int plw, .int pld, .int plc, .int pls, .long plm, .ref plf, .ref plo, .ref plb, .ref pla])), (plb, .inl (plkb, 40, .inr (.inl plB)))]) hP hD [5, 8] [0, 1, 2, 3, 4, 6, 7, 9] rfl rfl (by decide) (by decide) hk1 hFc hP1 hD1
            generalize H1 = H at hP hS ⊢
            have hP : va_P (dC, dI) vwCl [(gn, .inr (1, [.ref gno, .int gnl, .ref gns, .ref gnp])), (gnp, .inl (gnkp, 40, .inl P1)), (gns, .inl (gnks, 3, .inr (.inr (.inr (.inr gnS))))), (gr1, .inl (gnkr1, 480, .inl R2)), (gd, .inr (0, [.ref pl, .int gdl, .long gdh, .long gdw, .int gdi, .int gde, .int gdc, .ref gdt, .int gdg, .ref gdu, .int gdn, .ref gdx])), (plf, .inl (plkf, 40, .inl plF)), (plo, .inl (plko, 40, .inl plO)), (pla, .inl (plka, 100, .inl plA)), (pl, .inr (3, [.int plw, .int pld, .int plc, .int pls, .long plm, .ref plf, .ref plo, .ref plb, .ref pla])), (plb, .inl (plkb, 40, .inr (.inl plB)))] H := hP
            have hD : va_D A [(gn, .inr (1, [.ref gno, .int gnl, .ref gns, .ref gnp])), (gnp, .inl (gnkp, 40, .inl P1)), (gns, .inl (gnks, 3, .inr (.inr (.inr (.inr gnS))))), (gr1, .inl (gnkr1, 480, .inl R2)), (gd, .inr (0, [.ref pl, .int gdl, .long gdh, .long gdw, .int gdi, .int gde, .int gdc, .ref gdt, .int gdg, .ref gdu, .int gdn, .ref gdx])), (plf, .inl (plkf, 40, .inl plF)), (plo, .inl (plko, 40, .inl plO)), (pla, .inl (plka, 100, .inl plA)), (pl, .inr (3, [.int plw, .int pld, .int plc, .int pls, .long plm, .ref plf, .ref plo, .ref plb, .ref pla])), (plb, .inl (plkb, 40, .inr (.inl plB)))] := hD
            refine lv_if_eq (tgt := 197) hx hb dX1_list_148 (by decide) (fun c_23 => ?_) (fun c_23 => ?_)
            · have c_23 : r_21.toInt = 0 := i_eq (a := r_21) (b := 0) rfl (by decide) c_23
              obtain ⟨x_24, ex_24⟩ : ∃ y9 : Int32, y9 = t2 + Int32.ofInt 1 := ⟨_, rfl⟩
              have zx_24 : x_24.toInt = t2.toInt + 1 := by rw [ex_24]; exact i_add rfl (show (Int32.ofInt 1).toInt = 1 by decide) (by omega) (by omega)
              refine lv_iinc (v := x_24) (lv' := [(12, .int x_24), (10, .long y_16), (9, .int f1), (8, .int fe), (6, .long r_3), (5, .ref pl), (0, .ref gn), (1, .ref gd), (2, .long p0), (4, .int 1)]) hx hb dX1_list_197 hl (k := 0) rfl (by rw [ex_24]) (by decide) rfl (fun ls hl => ?_)
              refine lv_goto (tgt := 122) hx hb dX1_list_200 (by decide) ?_
              exact ih122 (x_24, fe, R2) _ _ _ ⟨(by (try dsimp only); omega), (by (try dsimp only); omega), hP.sub [0, 1, 2, 3, 4, 8, 5, 6, 9, 7] rfl, hD.sub [0, 1, 2, 3, 4, 8, 5, 6, 9, 7] (by decide) rfl, hS, lv_sub hl [0, 1, 2, 3, 4, 5, 6, 7, 8, 9] rfl⟩ (by (try dsimp only); omega)
            · have c_23 : r_21.toInt ≠ 0 := i_ne (a := r_21) (b := 0) rfl (by decide) c_23
              refine lv_aload hx hb dX1_list_151 (lv_at hl 5 rfl) ?_
              refine lv_iload hx hb dX1_list_153 (lv_at hl 2 rfl) ?_
              refine lv_aload_n hx hb dX1_list_155 rfl (lv_at hl 6 rfl) ?_
              refine va_get (D := (dC, dI)) (ci := 1) (v := .ref gnp) (C := RX1) (T := TX1) (N := 4) hx hb hts in_X1_list_1_X1 hown hK hP 0 rfl rfl 3 (by decide) (hts _ wd_X1_list_1_2) (fun _ h9 => h9) rfl dX1_list_156 ?_
              refine lv_iload hx hb dX1_list_159 (lv_at hl 0 rfl) ?_
              refine va_iald hx hb hK hP 1 0 rfl rfl (i_in rfl (by omega) (by omega)) dX1_list_161 ?_
              refine lv_topi (fun v_25 ev_25 => ?_)
              have hPc := hP.sub (ws' := [(pl, .inr (3, [.int plw, .int pld, .int plc, .int pls, .long plm, .ref plf, .ref plo, .ref plb, .ref pla])), (plf, .inl (plkf, 40, .inl plF)), (plo, .inl (plko, 40, .inl plO))]) [8, 5, 6] rfl
              have hDc := hD.sub (ws' := [(pl, .inr (3, [.int plw, .int pld, .int plc, .int pls, .long plm, .ref plf, .ref plo, .ref plb, .ref pla])), (plf, .inl (plkf, 40, .inl plF)), (plo, .inl (plko, 40, .inl plO))]) [8, 5, 6] (by decide) rfl
              have hKc := hK.sub (tys' := [(plkf, .int), (plko, .int)]) [3, 4] rfl
              have hFc := va_free (wc := [(pl, .inr (3, [.int plw, .int pld, .int plc, .int pls, .long plm, .ref plf, .ref plo, .ref plb, .ref pla])), (plf, .inl (plkf, 40, .inl plF)), (plo, .inl (plko, 40, .inl plO))]) hD hS hA [8, 5, 6] rfl
              refine va_calli (va_runV (As := [.int f1, .int v_25]) (rest := []) ⟨hx, hb, hml, hown, hts⟩ (c_X3_joins l dC dI H.size pl plw pld plc pls plm plf plo plb pla plkf plF plko plO f1 v_25 (by omega) hR_plf hR_plo) (cwV 2 hts g_X1_list_1_X3_joins rfl rfl rfl (by decide +kernel) ⟨Nat.le_of_ble_eq_true rfl, Nat.le_of_ble_eq_true rfl⟩) ⟨fun a U g mk q => by obtain ⟨q0, q1, qP, qK, qD⟩ := q; exact ⟨q0, q1, qP, va_K.moved (u := U) (U := U.calling g mk a) (Vm.Alike.refl U.vm) qK, qD⟩, va_recv hKc hPc (ci := 3) (q0 := 0) rfl rfl, fun U hU hW => ⟨rfl, by rw [hU], by rw [hU]; exact hPc, va_K.moved hW.alike hKc, hDc.weaken (fun _ _ _ _ => trivial)⟩⟩ rfl rfl hl.1 rfl (lv_room (Nat.le_of_ble_eq_true rfl)) dX1_list_162 ⟨Nat.le_of_ble_eq_true rfl, Nat.le_of_ble_eq_true rfl⟩) hS (fun q _ h => hFc q h) hFc (fun r_26 u t H1 locs ht hvm hw_27 hB hz1 hk1 hS => ?_)
              obtain ⟨hP1, hK1, hD1⟩ := hB
              have hP1 : va_P (dC, dI) vwCl [(pl, .inr (3, [.int plw, .int pld, .int plc, .int pls, .long plm, .ref plf, .ref plo, .ref plb, .ref pla])), (plf, .inl (plkf, 40, .inl plF)), (plo, .inl (plko, 40, .inl plO))] t.heap := hP1
              rw [ht] at hP1
              try dsimp only at hw_27
              obtain ⟨hP, hD⟩ := va_join (wr := [(gn, .inr (1, [.ref gno, .int gnl, .ref gns, .ref gnp])), (gnp, .inl (gnkp, 40, .inl P1)), (gns, .inl (gnks, 3, .inr (.inr (.inr (.inr gnS))))), (gr1, .inl (gnkr1, 480, .inl R2)), (gd, .inr (0, [.ref pl, .int gdl, .long gdh, .long gdw, .int gdi, .int gde, .int gdc, .ref gdt, .int gdg, .ref gdu, .int gdn, .ref gdx])), (pla, .inl (plka, 100, .inl plA)), (plb, .inl (plkb, 40, .inr (.inl plB)))]) (w1 := [(pl, .inr (3, [.int plw, .int pld, .int plc, .int pls, .long plm, .ref plf, .ref plo, .ref plb, .ref pla])), (plf, .inl (plkf, 40, .inl plF)), (plo, .inl (plko, 40, .inl plO))]) hP hD [8, 5, 6] [0, 1, 2, 3, 4, 7, 9] rfl rfl (by decide) (by decide) hk1 hFc hP1 hD1
              generalize H1 = H at hP hS ⊢
              have hP : va_P (dC, dI) vwCl [(gn, .inr (1, [.ref gno, .int gnl, .ref gns, .ref gnp])), (gnp, .inl (gnkp, 40, .inl P1)), (gns, .inl (gnks, 3, .inr (.inr (.inr (.inr gnS))))), (gr1, .inl (gnkr1, 480, .inl R2)), (gd, .inr (0, [.ref pl, .int gdl, .long gdh, .long gdw, .int gdi, .int gde, .int gdc, .ref gdt, .int gdg, .ref gdu, .int gdn, .ref gdx])), (pla, .inl (plka, 100, .inl plA)), (plb, .inl (plkb, 40, .inr (.inl plB))), (pl, .inr (3, [.int plw, .int pld, .int plc, .int pls, .long plm, .ref plf, .ref plo, .ref plb, .ref pla])), (plf, .inl (plkf, 40, .inl plF)), (plo, .inl (plko, 40, .inl plO))] H := hP
              have hD : va_D A [(gn, .inr (1, [.ref gno, .int gnl, .ref gns, .ref gnp])), (gnp, .inl (gnkp, 40, .inl P1)), (gns, .inl (gnks, 3, .inr (.inr (.inr (.inr gnS))))), (gr1, .inl (gnkr1, 480, .inl R2)), (gd, .inr (0, [.ref pl, .int gdl, .long gdh, .long gdw, .int gdi, .int gde, .int gdc, .ref gdt, .int gdg, .ref gdu, .int gdn, .ref gdx])), (pla, .inl (plka, 100, .inl plA)), (plb, .inl (plkb, 40, .inr (.inl plB))), (pl, .inr (3, [.int plw, .int pld, .int plc, .int pls, .long plm, .ref plf, .ref plo, .ref plb, .ref pla])), (plf, .inl (plkf, 40, .inl plF)), (plo, .inl (plko, 40, .inl plO))] := hD
              refine lv_if_eq (tgt := 197) hx hb dX1_list_165 (by decide) (fun c_28 => ?_) (fun c_28 => ?_)
              · have c_28 : r_26.toInt = 0 := i_eq (a := r_26) (b := 0) rfl (by decide) c_28
                obtain ⟨x_29, ex_29⟩ : ∃ y9 : Int32, y9 = t2 + Int32.ofInt 1 := ⟨_, rfl⟩
                have zx_29 : x_29.toInt = t2.toInt + 1 := by rw [ex_29]; exact i_add rfl (show (Int32.ofInt 1).toInt = 1 by decide) (by omega) (by omega)
                refine lv_iinc (v := x_29) (lv' := [(12, .int x_29), (10, .long y_16), (9, .int f1), (8, .int fe), (6, .long r_3), (5, .ref pl), (0, .ref gn), (1, .ref gd), (2, .long p0), (4, .int 1)]) hx hb dX1_list_197 hl (k := 0) rfl (by rw [ex_29]) (by decide) rfl (fun ls hl => ?_)
                refine lv_goto (tgt := 122) hx hb dX1_list_200 (by decide) ?_
                exact ih122 (x_29, fe, R2) _ _ _ ⟨(by (try dsimp only); omega), (by (try dsimp only); omega), hP.sub [0, 1, 2, 3, 4, 7, 8, 9, 6, 5] rfl, hD.sub [0, 1, 2, 3, 4, 7, 8, 9, 6, 5] (by decide) rfl, hS, lv_sub hl [0, 1, 2, 3, 4, 5, 6, 7, 8, 9] rfl⟩ (by (try dsimp only); omega)
              · have c_28 : r_26.toInt ≠ 0 := i_ne (a := r_26) (b := 0) rfl (by decide) c_28
                refine lv_iload hx hb dX1_list_168 (lv_at hl 3 rfl) ?_
                refine lv_sipush (v := 480) hx hb dX1_list_170 (by decide) ?_
                refine lv_icmp_ge (tgt := 197) hx hb dX1_list_173 (by decide) (fun c_30 => ?_) (fun c_30 => ?_)
                · have c_30 : 480 ≤ fe.toInt := i_le (a := 480) (b := fe) (by decide) rfl c_30
                  obtain ⟨x_31, ex_31⟩ : ∃ y9 : Int32, y9 = t2 + Int32.ofInt 1 := ⟨_, rfl⟩
                  have zx_31 : x_31.toInt = t2.toInt + 1 := by rw [ex_31]; exact i_add rfl (show (Int32.ofInt 1).toInt = 1 by decide) (by omega) (by omega)
                  refine lv_iinc (v := x_31) (lv' := [(12, .int x_31), (10, .long y_16), (9, .int f1), (8, .int fe), (6, .long r_3), (5, .ref pl), (0, .ref gn), (1, .ref gd), (2, .long p0), (4, .int 1)]) hx hb dX1_list_197 hl (k := 0) rfl (by rw [ex_31]) (by decide) rfl (fun ls hl => ?_)
                  refine lv_goto (tgt := 122) hx hb dX1_list_200 (by decide) ?_
                  exact ih122 (x_31, fe, R2) _ _ _ ⟨(by (try dsimp only); omega), (by (try dsimp only); omega), hP.sub [0, 1, 2, 3, 4, 7, 8, 9, 6, 5] rfl, hD.sub [0, 1, 2, 3, 4, 7, 8, 9, 6, 5] (by decide) rfl, hS, lv_sub hl [0, 1, 2, 3, 4, 5, 6, 7, 8, 9] rfl⟩ (by (try dsimp only); omega)
                · have c_30 : fe.toInt < 480 := i_nle (a := 480) (b := fe) (by decide) rfl c_30
                  refine lv_aload_n hx hb dX1_list_176 rfl (lv_at hl 6 rfl) ?_
                  refine va_get (D := (dC, dI)) (ci := 1) (v := .ref gns) (C := RX1) (T := TX1) (N := 4) hx hb hts in_X1_list_1_X1 hown hK hP 0 rfl rfl 2 (by decide) (hts _ wd_X1_list_1_3) (fun _ h9 => h9) rfl dX1_list_177 ?_
                  refine lv_iload hx hb dX1_list_180 (lv_at hl 9 rfl) ?_
                  refine va_aldA (i := 1) hx hb hK hP 2 1 rfl rfl (vp_in_iff.mpr ⟨by decide, by decide⟩) dX1_list_182 ?_
                  refine W.eq (g2 := F0 m 183 ls (.ref gr1 :: [])) (by rw [show gnS (1 : Int32).toNatClampNeg = some gr1 from hS1]; rfl) ?_
                  refine lv_iload hx hb dX1_list_183 (lv_at hl 3 rfl) ?_
                  refine lv_bipush (v := 100) hx hb dX1_list_185 (by decide) ?_
                  refine lv_iload hx hb dX1_list_187 (lv_at hl 2 rfl) ?_
                  refine lv_imul hx hb dX1_list_189 ?_
                  refine lv_topi (fun x_32 ex_32 => ?_)
                  refine lv_iload hx hb dX1_list_190 (lv_at hl 0 rfl) ?_
                  refine lv_iadd hx hb dX1_list_192 ?_
                  refine lv_topi (fun x_33 ex_33 => ?_)
                  refine va_iast hx hb hK hP hD hS 3 2 rfl rfl (i_in rfl (by omega) (by omega)) dX1_list_193 (fun H locs hP hD hS => ?_)
                  have hP : va_P (dC, dI) vwCl [(gn, .inr (1, [.ref gno, .int gnl, .ref gns, .ref gnp])), (gnp, .inl (gnkp, 40, .inl P1)), (gns, .inl (gnks, 3, .inr (.inr (.inr (.inr gnS))))), (gr1, .inl (gnkr1, 480, .inl (upd R2 fe.toNatClampNeg x_33))), (gd, .inr (0, [.ref pl, .int gdl, .long gdh, .long gdw, .int gdi, .int gde, .int gdc, .ref gdt, .int gdg, .ref gdu, .int gdn, .ref gdx])), (pla, .inl (plka, 100, .inl plA)), (plb, .inl (plkb, 40, .inr (.inl plB))), (pl, .inr (3, [.int plw, .int pld, .int plc, .int pls, .long plm, .ref plf, .ref plo, .ref plb, .ref pla])), (plf, .inl (plkf, 40, .inl plF)), (plo, .inl (plko, 40, .inl plO))] H := hP
                  have hD : va_D A [(gn, .inr (1, [.ref gno, .int gnl, .ref gns, .ref gnp])), (gnp, .inl (gnkp, 40, .inl P1)), (gns, .inl (gnks, 3, .inr (.inr (.inr (.inr gnS))))), (gr1, .inl (gnkr1, 480, .inl (upd R2 fe.toNatClampNeg x_33))), (gd, .inr (0, [.ref pl, .int gdl, .long gdh, .long gdw, .int gdi, .int gde, .int gdc, .ref gdt, .int gdg, .ref gdu, .int gdn, .ref gdx])), (pla, .inl (plka, 100, .inl plA)), (plb, .inl (plkb, 40, .inr (.inl plB))), (pl, .inr (3, [.int plw, .int pld, .int plc, .int pls, .long plm, .ref plf, .ref plo, .ref plb, .ref pla])), (plf, .inl (plkf, 40, .inl plF)), (plo, .inl (plko, 40, .inl plO))] := hD
                  obtain ⟨f_34, ef_34⟩ : ∃ g, g = upd R2 fe.toNatClampNeg x_33 := ⟨_, rfl⟩
                  rw [← ef_34] at hP hD
                  obtain ⟨x_35, ex_35⟩ : ∃ y9 : Int32, y9 = fe + Int32.ofInt 1 := ⟨_, rfl⟩
                  have zx_35 : x_35.toInt = fe.toInt + 1 := by rw [ex_35]; exact i_add rfl (show (Int32.ofInt 1).toInt = 1 by decide) (by omega) (by omega)
                  refine lv_iinc (v := x_35) (lv' := [(8, .int x_35), (12, .int t2), (10, .long y_16), (9, .int f1), (6, .long r_3), (5, .ref pl), (0, .ref gn), (1, .ref gd), (2, .long p0), (4, .int 1)]) hx hb dX1_list_194 hl (k := 3) rfl (by rw [ex_35]) (by decide) rfl (fun ls hl => ?_)
                  obtain ⟨x_36, ex_36⟩ : ∃ y9 : Int32, y9 = t2 + Int32.ofInt 1 := ⟨_, rfl⟩
                  have zx_36 : x_36.toInt = t2.toInt + 1 := by rw [ex_36]; exact i_add rfl (show (Int32.ofInt 1).toInt = 1 by decide) (by omega) (by omega)
                  refine lv_iinc (v := x_36) (lv' := [(12, .int x_36), (8, .int x_35), (10, .long y_16), (9, .int f1), (6, .long r_3), (5, .ref pl), (0, .ref gn), (1, .ref gd), (2, .long p0), (4, .int 1)]) hx hb dX1_list_197 hl (k := 1) rfl (by rw [ex_36]) (by decide) rfl (fun ls hl => ?_)
                  refine lv_goto (tgt := 122) hx hb dX1_list_200 (by decide) ?_
                  exact ih122 (x_36, x_35, f_34) _ _ _ ⟨(by (try dsimp only); omega), (by (try dsimp only); omega), hP.sub [0, 1, 2, 3, 4, 7, 8, 9, 6, 5] rfl, hD.sub [0, 1, 2, 3, 4, 7, 8, 9, 6, 5] (by decide) rfl, hS, lv_sub hl [0, 2, 3, 1, 4, 5, 6, 7, 8, 9] rfl⟩ (by (try dsimp only); omega)
  · have c_5 : t0.toInt < pls.toInt := i_nle (a := pls) (b := t0) rfl rfl c_5
    refine lv_aload_n hx hb dX1_list_39 rfl (lv_at hl 3 rfl) ?_
    refine va_get (D := (dC, dI)) (ci := 1) (v := .ref gnp) (C := RX1) (T := TX1) (N := 4) hx hb hts in_X1_list_1_X1 hown hK hP 0 rfl rfl 3 (by decide) (hts _ wd_X1_list_1_2) (fun _ h9 => h9) rfl dX1_list_40 ?_
    refine lv_iload hx hb dX1_list_43 (lv_at hl 0 rfl) ?_
    refine lv_aload hx hb dX1_list_45 (lv_at hl 2 rfl) ?_
    refine lv_lload hx hb dX1_list_47 (lv_at hl 1 rfl) ?_
    refine lv_iload hx hb dX1_list_49 (lv_at hl 0 rfl) ?_
    have hPc := hP.sub (ws' := [(pl, .inr (3, [.int plw, .int pld, .int plc, .int pls, .long plm, .ref plf, .ref plo, .ref plb, .ref pla])), (plb, .inl (plkb, 40, .inr (.inl plB)))]) [9, 6] rfl
    have hDc := hD.sub (ws' := [(pl, .inr (3, [.int plw, .int pld, .int plc, .int pls, .long plm, .ref plf, .ref plo, .ref plb, .ref pla])), (plb, .inl (plkb, 40, .inr (.inl plB)))]) [9, 6] (by decide) rfl
    have hKc := hK.sub (tys' := [(plkb, .long)]) [5] rfl
    have hFc := va_free (wc := [(pl, .inr (3, [.int plw, .int pld, .int plc, .int pls, .long plm, .ref plf, .ref plo, .ref plb, .ref pla])), (plb, .inl (plkb, 40, .inr (.inl plB)))]) hD hS hA [9, 6] rfl
    refine va_calli (va_runV (As := [.long r_3, .int t0]) (rest := [.int t0, .ref gnp]) ⟨hx, hb, hml, hown, hts⟩ (c_X3_has l dC dI H.size pl plw pld plc pls plm plf plo plb pla plkb plB r_3 t0 (by omega)) (cwV 2 hts g_X1_list_1_X3_has rfl rfl rfl (by decide +kernel) ⟨Nat.le_of_ble_eq_true rfl, Nat.le_of_ble_eq_true rfl⟩) ⟨fun a U g mk q => by obtain ⟨q0, q1, qP, qK, qD⟩ := q; exact ⟨q0, q1, qP, va_K.moved (u := U) (U := U.calling g mk a) (Vm.Alike.refl U.vm) qK, qD⟩, va_recv hKc hPc (ci := 3) (q0 := 0) rfl rfl, fun U hU hW => ⟨rfl, by rw [hU], by rw [hU]; exact hPc, va_K.moved hW.alike hKc, hDc.weaken (fun _ _ _ _ => trivial)⟩⟩ rfl rfl hl.1 rfl (lv_room (Nat.le_of_ble_eq_true rfl)) dX1_list_51 ⟨Nat.le_of_ble_eq_true rfl, Nat.le_of_ble_eq_true rfl⟩) hS (fun q _ h => hFc q h) hFc (fun r_37 u t H1 locs ht hvm hw_38 hB hz1 hk1 hS => ?_)
    obtain ⟨hP1, hK1, hD1⟩ := hB
    have hP1 : va_P (dC, dI) vwCl [(pl, .inr (3, [.int plw, .int pld, .int plc, .int pls, .long plm, .ref plf, .ref plo, .ref plb, .ref pla])), (plb, .inl (plkb, 40, .inr (.inl plB)))] t.heap := hP1
    rw [ht] at hP1
    try dsimp only at hw_38
    obtain ⟨hP, hD⟩ := va_join (wr := [(gn, .inr (1, [.ref gno, .int gnl, .ref gns, .ref gnp])), (gnp, .inl (gnkp, 40, .inl P1)), (gns, .inl (gnks, 3, .inr (.inr (.inr (.inr gnS))))), (gr1, .inl (gnkr1, 480, .inl gR1)), (plf, .inl (plkf, 40, .inl plF)), (plo, .inl (plko, 40, .inl plO)), (pla, .inl (plka, 100, .inl plA)), (gd, .inr (0, [.ref pl, .int gdl, .long gdh, .long gdw, .int gdi, .int gde, .int gdc, .ref gdt, .int gdg, .ref gdu, .int gdn, .ref gdx]))]) (w1 := [(pl, .inr (3, [.int plw, .int pld, .int plc, .int pls, .long plm, .ref plf, .ref plo, .ref plb, .ref pla])), (plb, .inl (plkb, 40, .inr (.inl plB)))]) hP hD [9, 6] [0, 1, 2, 3, 4, 5, 7, 8] rfl rfl (by decide) (by decide) hk1 hFc hP1 hD1
    generalize H1 = H at hP hS ⊢
    have hP : va_P (dC, dI) vwCl [(gn, .inr (1, [.ref gno, .int gnl, .ref gns, .ref gnp])), (gnp, .inl (gnkp, 40, .inl P1)), (gns, .inl (gnks, 3, .inr (.inr (.inr (.inr gnS))))), (gr1, .inl (gnkr1, 480, .inl gR1)), (plf, .inl (plkf, 40, .inl plF)), (plo, .inl (plko, 40, .inl plO)), (pla, .inl (plka, 100, .inl plA)), (gd, .inr (0, [.ref pl, .int gdl, .long gdh, .long gdw, .int gdi, .int gde, .int gdc, .ref gdt, .int gdg, .ref gdu, .int gdn, .ref gdx])), (pl, .inr (3, [.int plw, .int pld, .int plc, .int pls, .long plm, .ref plf, .ref plo, .ref plb, .ref pla])), (plb, .inl (plkb, 40, .inr (.inl plB)))] H := hP
    have hD : va_D A [(gn, .inr (1, [.ref gno, .int gnl, .ref gns, .ref gnp])), (gnp, .inl (gnkp, 40, .inl P1)), (gns, .inl (gnks, 3, .inr (.inr (.inr (.inr gnS))))), (gr1, .inl (gnkr1, 480, .inl gR1)), (plf, .inl (plkf, 40, .inl plF)), (plo, .inl (plko, 40, .inl plO)), (pla, .inl (plka, 100, .inl plA)), (gd, .inr (0, [.ref pl, .int gdl, .long gdh, .long gdw, .int gdi, .int gde, .int gdc, .ref gdt, .int gdg, .ref gdu, .int gdn, .ref gdx])), (pl, .inr (3, [.int plw, .int pld, .int plc, .int pls, .long plm, .ref plf, .ref plo, .ref plb, .ref pla])), (plb, .inl (plkb, 40, .inr (.inl plB)))] := hD
    refine lv_if_eq (tgt := 69) hx hb dX1_list_54 (by decide) (fun c_39 => ?_) (fun c_39 => ?_)
    · have c_39 : r_37.toInt = 0 := i_eq (a := r_37) (b := 0) rfl (by decide) c_39
      refine lv_iconst (v := 0) hx hb dX1_list_69 (by decide) ?_
      refine va_iast hx hb hK hP hD hS 1 0 rfl rfl (i_in rfl (by omega) (by omega)) dX1_list_70 (fun H locs hP hD hS => ?_)
      have hP : va_P (dC, dI) vwCl [(gn, .inr (1, [.ref gno, .int gnl, .ref gns, .ref gnp])), (gnp, .inl (gnkp, 40, .inl (upd P1 t0.toNatClampNeg 0))), (gns, .inl (gnks, 3, .inr (.inr (.inr (.inr gnS))))), (gr1, .inl (gnkr1, 480, .inl gR1)), (plf, .inl (plkf, 40, .inl plF)), (plo, .inl (plko, 40, .inl plO)), (pla, .inl (plka, 100, .inl plA)), (gd, .inr (0, [.ref pl, .int gdl, .long gdh, .long gdw, .int gdi, .int gde, .int gdc, .ref gdt, .int gdg, .ref gdu, .int gdn, .ref gdx])), (pl, .inr (3, [.int plw, .int pld, .int plc, .int pls, .long plm, .ref plf, .ref plo, .ref plb, .ref pla])), (plb, .inl (plkb, 40, .inr (.inl plB)))] H := hP
      have hD : va_D A [(gn, .inr (1, [.ref gno, .int gnl, .ref gns, .ref gnp])), (gnp, .inl (gnkp, 40, .inl (upd P1 t0.toNatClampNeg 0))), (gns, .inl (gnks, 3, .inr (.inr (.inr (.inr gnS))))), (gr1, .inl (gnkr1, 480, .inl gR1)), (plf, .inl (plkf, 40, .inl plF)), (plo, .inl (plko, 40, .inl plO)), (pla, .inl (plka, 100, .inl plA)), (gd, .inr (0, [.ref pl, .int gdl, .long gdh, .long gdw, .int gdi, .int gde, .int gdc, .ref gdt, .int gdg, .ref gdu, .int gdn, .ref gdx])), (pl, .inr (3, [.int plw, .int pld, .int plc, .int pls, .long plm, .ref plf, .ref plo, .ref plb, .ref pla])), (plb, .inl (plkb, 40, .inr (.inl plB)))] := hD
      obtain ⟨f_40, ef_40⟩ : ∃ g, g = upd P1 t0.toNatClampNeg 0 := ⟨_, rfl⟩
      rw [← ef_40] at hP hD
      obtain ⟨x_41, ex_41⟩ : ∃ y9 : Int32, y9 = t0 + Int32.ofInt 1 := ⟨_, rfl⟩
      have zx_41 : x_41.toInt = t0.toInt + 1 := by rw [ex_41]; exact i_add rfl (show (Int32.ofInt 1).toInt = 1 by decide) (by omega) (by omega)
      refine lv_iinc (v := x_41) (lv' := [(8, .int x_41), (6, .long r_3), (5, .ref pl), (0, .ref gn), (1, .ref gd), (2, .long p0), (4, .int 1)]) hx hb dX1_list_71 hl (k := 0) rfl (by rw [ex_41]) (by decide) rfl (fun ls hl => ?_)
      refine lv_goto (tgt := 29) hx hb dX1_list_74 (by decide) ?_
      exact ih29 (x_41, f_40) _ _ _ ⟨(by (try dsimp only); omega), hP.sub [0, 1, 2, 3, 4, 5, 9, 6, 7, 8] rfl, hD.sub [0, 1, 2, 3, 4, 5, 9, 6, 7, 8] (by decide) rfl, hS, lv_sub hl [0, 1, 2, 3, 4, 5, 6] rfl⟩ (by (try dsimp only); omega)
    · have c_39 : r_37.toInt ≠ 0 := i_ne (a := r_37) (b := 0) rfl (by decide) c_39
      refine lv_aload hx hb dX1_list_57 (lv_at hl 2 rfl) ?_
      refine lv_iload hx hb dX1_list_59 (lv_at hl 0 rfl) ?_
      refine lv_lload hx hb dX1_list_61 (lv_at hl 1 rfl) ?_
      have hPc := hP.sub (ws' := [(pl, .inr (3, [.int plw, .int pld, .int plc, .int pls, .long plm, .ref plf, .ref plo, .ref plb, .ref pla])), (plf, .inl (plkf, 40, .inl plF)), (plb, .inl (plkb, 40, .inr (.inl plB)))]) [8, 4, 9] rfl
      have hDc := hD.sub (ws' := [(pl, .inr (3, [.int plw, .int pld, .int plc, .int pls, .long plm, .ref plf, .ref plo, .ref plb, .ref pla])), (plf, .inl (plkf, 40, .inl plF)), (plb, .inl (plkb, 40, .inr (.inl plB)))]) [8, 4, 9] (by decide) rfl
      have hKc := hK.sub (tys' := [(plkf, .int), (plkb, .long)]) [3, 5] rfl
      have hFc := va_free (wc := [(pl, .inr (3, [.int plw, .int pld, .int plc, .int pls, .long plm, .ref plf, .ref plo, .ref plb, .ref pla])), (plf, .inl (plkf, 40, .inl plF)), (plb, .inl (plkb, 40, .inr (.inl plB)))]) hD hS hA [8, 4, 9] rfl
      refine va_calli (va_runV (As := [.int t0, .long r_3]) (rest := [.int t0, .ref gnp]) ⟨hx, hb, hml, hown, hts⟩ (c_X3_partBeside l dC dI H.size pl plw pld plc pls plm plf plo plb pla plkf plF plkb plB t0 r_3 (by omega) hR_plf) (cwV 2 hts g_X1_list_1_X3_partBeside rfl rfl rfl (by decide +kernel) ⟨Nat.le_of_ble_eq_true rfl, Nat.le_of_ble_eq_true rfl⟩) ⟨fun a U g mk q => by obtain ⟨q0, q1, qP, qK, qD⟩ := q; exact ⟨q0, q1, qP, va_K.moved (u := U) (U := U.calling g mk a) (Vm.Alike.refl U.vm) qK, qD⟩, va_recv hKc hPc (ci := 3) (q0 := 0) rfl rfl, fun U hU hW => ⟨rfl, by rw [hU], by rw [hU]; exact hPc, va_K.moved hW.alike hKc, hDc.weaken (fun _ _ _ _ => trivial)⟩⟩ rfl rfl hl.1 rfl (lv_room (Nat.le_of_ble_eq_true rfl)) dX1_list_63 ⟨Nat.le_of_ble_eq_true rfl, Nat.le_of_ble_eq_true rfl⟩) hS (fun q _ h => hFc q h) hFc (fun r_42 u t H1 locs ht hvm hw_43 hB hz1 hk1 hS => ?_)
      obtain ⟨hP1, hK1, hD1⟩ := hB
      have hP1 : va_P (dC, dI) vwCl [(pl, .inr (3, [.int plw, .int pld, .int plc, .int pls, .long plm, .ref plf, .ref plo, .ref plb, .ref pla])), (plf, .inl (plkf, 40, .inl plF)), (plb, .inl (plkb, 40, .inr (.inl plB)))] t.heap := hP1
      rw [ht] at hP1
      try dsimp only at hw_43
      obtain ⟨hP, hD⟩ := va_join (wr := [(gn, .inr (1, [.ref gno, .int gnl, .ref gns, .ref gnp])), (gnp, .inl (gnkp, 40, .inl P1)), (gns, .inl (gnks, 3, .inr (.inr (.inr (.inr gnS))))), (gr1, .inl (gnkr1, 480, .inl gR1)), (plo, .inl (plko, 40, .inl plO)), (pla, .inl (plka, 100, .inl plA)), (gd, .inr (0, [.ref pl, .int gdl, .long gdh, .long gdw, .int gdi, .int gde, .int gdc, .ref gdt, .int gdg, .ref gdu, .int gdn, .ref gdx]))]) (w1 := [(pl, .inr (3, [.int plw, .int pld, .int plc, .int pls, .long plm, .ref plf, .ref plo, .ref plb, .ref pla])), (plf, .inl (plkf, 40, .inl plF)), (plb, .inl (plkb, 40, .inr (.inl plB)))]) hP hD [8, 4, 9] [0, 1, 2, 3, 5, 6, 7] rfl rfl (by decide) (by decide) hk1 hFc hP1 hD1
      generalize H1 = H at hP hS ⊢
      have hP : va_P (dC, dI) vwCl [(gn, .inr (1, [.ref gno, .int gnl, .ref gns, .ref gnp])), (gnp, .inl (gnkp, 40, .inl P1)), (gns, .inl (gnks, 3, .inr (.inr (.inr (.inr gnS))))), (gr1, .inl (gnkr1, 480, .inl gR1)), (plo, .inl (plko, 40, .inl plO)), (pla, .inl (plka, 100, .inl plA)), (gd, .inr (0, [.ref pl, .int gdl, .long gdh, .long gdw, .int gdi, .int gde, .int gdc, .ref gdt, .int gdg, .ref gdu, .int gdn, .ref gdx])), (pl, .inr (3, [.int plw, .int pld, .int plc, .int pls, .long plm, .ref plf, .ref plo, .ref plb, .ref pla])), (plf, .inl (plkf, 40, .inl plF)), (plb, .inl (plkb, 40, .inr (.inl plB)))] H := hP
      have hD : va_D A [(gn, .inr (1, [.ref gno, .int gnl, .ref gns, .ref gnp])), (gnp, .inl (gnkp, 40, .inl P1)), (gns, .inl (gnks, 3, .inr (.inr (.inr (.inr gnS))))), (gr1, .inl (gnkr1, 480, .inl gR1)), (plo, .inl (plko, 40, .inl plO)), (pla, .inl (plka, 100, .inl plA)), (gd, .inr (0, [.ref pl, .int gdl, .long gdh, .long gdw, .int gdi, .int gde, .int gdc, .ref gdt, .int gdg, .ref gdu, .int gdn, .ref gdx])), (pl, .inr (3, [.int plw, .int pld, .int plc, .int pls, .long plm, .ref plf, .ref plo, .ref plb, .ref pla])), (plf, .inl (plkf, 40, .inl plF)), (plb, .inl (plkb, 40, .inr (.inl plB)))] := hD
      refine lv_goto (tgt := 70) hx hb dX1_list_66 (by decide) ?_
      refine va_iast hx hb hK hP hD hS 1 0 rfl rfl (i_in rfl (by omega) (by omega)) dX1_list_70 (fun H locs hP hD hS => ?_)
      have hP : va_P (dC, dI) vwCl [(gn, .inr (1, [.ref gno, .int gnl, .ref gns, .ref gnp])), (gnp, .inl (gnkp, 40, .inl (upd P1 t0.toNatClampNeg r_42))), (gns, .inl (gnks, 3, .inr (.inr (.inr (.inr gnS))))), (gr1, .inl (gnkr1, 480, .inl gR1)), (plo, .inl (plko, 40, .inl plO)), (pla, .inl (plka, 100, .inl plA)), (gd, .inr (0, [.ref pl, .int gdl, .long gdh, .long gdw, .int gdi, .int gde, .int gdc, .ref gdt, .int gdg, .ref gdu, .int gdn, .ref gdx])), (pl, .inr (3, [.int plw, .int pld, .int plc, .int pls, .long plm, .ref plf, .ref plo, .ref plb, .ref pla])), (plf, .inl (plkf, 40, .inl plF)), (plb, .inl (plkb, 40, .inr (.inl plB)))] H := hP
      have hD : va_D A [(gn, .inr (1, [.ref gno, .int gnl, .ref gns, .ref gnp])), (gnp, .inl (gnkp, 40, .inl (upd P1 t0.toNatClampNeg r_42))), (gns, .inl (gnks, 3, .inr (.inr (.inr (.inr gnS))))), (gr1, .inl (gnkr1, 480, .inl gR1)), (plo, .inl (plko, 40, .inl plO)), (pla, .inl (plka, 100, .inl plA)), (gd, .inr (0, [.ref pl, .int gdl, .long gdh, .long gdw, .int gdi, .int gde, .int gdc, .ref gdt, .int gdg, .ref gdu, .int gdn, .ref gdx])), (pl, .inr (3, [.int plw, .int pld, .int plc, .int pls, .long plm, .ref plf, .ref plo, .ref plb, .ref pla])), (plf, .inl (plkf, 40, .inl plF)), (plb, .inl (plkb, 40, .inr (.inl plB)))] := hD
      obtain ⟨f_44, ef_44⟩ : ∃ g, g = upd P1 t0.toNatClampNeg r_42 := ⟨_, rfl⟩
      rw [← ef_44] at hP hD
      obtain ⟨x_45, ex_45⟩ : ∃ y9 : Int32, y9 = t0 + Int32.ofInt 1 := ⟨_, rfl⟩
      have zx_45 : x_45.toInt = t0.toInt + 1 := by rw [ex_45]; exact i_add rfl (show (Int32.ofInt 1).toInt = 1 by decide) (by omega) (by omega)
      refine lv_iinc (v := x_45) (lv' := [(8, .int x_45), (6, .long r_3), (5, .ref pl), (0, .ref gn), (1, .ref gd), (2, .long p0), (4, .int 1)]) hx hb dX1_list_71 hl (k := 0) rfl (by rw [ex_45]) (by decide) rfl (fun ls hl => ?_)
      refine lv_goto (tgt := 29) hx hb dX1_list_74 (by decide) ?_
      exact ih29 (x_45, f_44) _ _ _ ⟨(by (try dsimp only); omega), hP.sub [0, 1, 2, 3, 8, 4, 9, 5, 6, 7] rfl, hD.sub [0, 1, 2, 3, 8, 4, 9, 5, 6, 7] (by decide) rfl, hS, lv_sub hl [0, 1, 2, 3, 4, 5, 6] rfl⟩ (by (try dsimp only); omega)

def wz_X1_listed_1 : List Cond := .code yX1_listed cX1_listed 4 (some .int) :: ([Cond.fieldLink RX1 21 "HedgeMaze$Gardeners" "lists" "[[I"] ++ wsX10)
theorem wd_X1_listed_1_0 : Cond.fieldLink RX1 21 "HedgeMaze$Gardeners" "lists" "[[I" ∈ wz_X1_listed_1 := List.mem_of_getElem? (i := 1) rfl
theorem in_X1_listed_1_X1 : ∀ w ∈ wsX10, w ∈ wz_X1_listed_1 := fun _ h => List.mem_cons_of_mem _ (List.mem_append_right _ h)
set_option maxHeartbeats 4000000 in
set_option maxRecDepth 100000 in
theorem c_X1_listed_1 (l : Launch) (dC : Nat → ClassId) (dI : Nat → Nat → Nat) (sz : Nat) (gn : Nat) (gno : Nat) (gnl : Int32) (gns : Nat) (gnp : Nat) (gnks : ClassId) (gnS : Nat → Option Nat) (gr1 : Nat) (gnkr1 : ClassId) (gR1 : Nat → Int32) (p1 : Int32) (hS1 : gnS 1 = some gr1) : Met l yX1_listed wz_X1_listed_1 ({ frames := 0, cells := 0, slots := 0, locals := 0 }) (va_Pc [.ref gn, .int 1, .int p1] (fun U => U.heap.size = sz ∧ va_P (dC, dI) vwCl [(gn, .inr (1, [.ref gno, .int gnl, .ref gns, .ref gnp])), (gns, .inl (gnks, 3, .inr (.inr (.inr (.inr gnS))))), (gr1, .inl (gnkr1, 480, .inl gR1))] U.heap ∧ va_K (dC, dI) vwCl [(gnks, .array .int), (gnkr1, .int)] U ∧ va_D (fun _ => True) [(gn, .inr (1, [.ref gno, .int gnl, .ref gns, .ref gnp])), (gns, .inl (gnks, 3, .inr (.inr (.inr (.inr gnS))))), (gr1, .inl (gnkr1, 480, .inl gR1))])) (va_Qi (fun (r : Int32) (u : Unit) => True) (fun (u : Unit) (t : State) => va_P (dC, dI) vwCl [(gn, .inr (1, [.ref gno, .int gnl, .ref gns, .ref gnp])), (gns, .inl (gnks, 3, .inr (.inr (.inr (.inr gnS))))), (gr1, .inl (gnkr1, 480, .inl gR1))] t.heap ∧ va_K (dC, dI) vwCl [] t ∧ va_D (va_A [(gn, .inr (1, [.ref gno, .int gnl, .ref gns, .ref gnp])), (gns, .inl (gnks, 3, .inr (.inr (.inr (.inr gnS))))), (gr1, .inl (gnkr1, 480, .inl gR1))] sz) [(gn, .inr (1, [.ref gno, .int gnl, .ref gns, .ref gnp])), (gns, .inl (gnks, 3, .inr (.inr (.inr (.inr gnS))))), (gr1, .inl (gnkr1, 480, .inl gR1))]) (va_A [(gn, .inr (1, [.ref gno, .int gnl, .ref gns, .ref gnp])), (gns, .inl (gnks, 3, .inr (.inr (.inr (.inr gnS))))), (gr1, .inl (gnkr1, 480, .inl gR1))] sz)) 0 0 (va_A [(gn, .inr (1, [.ref gno, .int gnl, .ref gns, .ref gnp])), (gns, .inl (gnks, 3, .inr (.inr (.inr (.inr gnS))))), (gr1, .inl (gnkr1, 480, .inl gR1))] sz) := by
  refine Met.ofW (cc := cX1_listed) (maxL := 4) (ret := (some .int)) (by decide) rfl ?_
  intro p e s m args below meth c s₁ B hml hv
  obtain ⟨rfl, hsz, hP, hK, hD0⟩ := hv
  have hx := B.exec
  have hb := B.bytes
  have hr := B.returns
  have hts := atoms_spec (ws := wz_X1_listed_1) B.pre
  have hown : s.vm.findClass RX1 = some m.cls := findClass_of_methodNamed B.named
  have hlocks := B.notSynchronized
  subst hsz
  have hD := hD0.self (sz := s.heap.size)
  generalize hAe : va_A [(gn, .inr (1, [.ref gno, .int gnl, .ref gns, .ref gnp])), (gns, .inl (gnks, 3, .inr (.inr (.inr (.inr gnS))))), (gr1, .inl (gnkr1, 480, .inl gR1))] s.heap.size = A at hD ⊢
  have hA : ∀ q : Nat, s.heap.size ≤ q → A q := fun q h => by rw [← hAe]; exact Or.inr h
  have hS : va_S A s.heap s.heap [] := va_S.rf
  have hP : va_P (dC, dI) vwCl [(gn, .inr (1, [.ref gno, .int gnl, .ref gns, .ref gnp])), (gns, .inl (gnks, 3, .inr (.inr (.inr (.inr gnS))))), (gr1, .inl (gnkr1, 480, .inl gR1))] s.heap := hP
  have hl := lv_entry ([.ref gn, .int 1, .int p1]) (n := 4) (Nat.le_of_ble_eq_true rfl)
  rw [lg_entry_eq]
  generalize (lg_sl ([.ref gn, .int 1, .int p1]) ++ List.replicate (4 - (lg_sl ([.ref gn, .int 1, .int p1])).length) Slot.unset).toArray = ls at hl ⊢
  have hl : lv_has ls 4 [(0, .ref gn), (1, .int 1), (2, .int p1)] := hl
  refine lv_iload_n hx hb dX1_listed_0 rfl (lv_at hl 1 rfl) ?_
  refine lv_if_lt (tgt := 24) hx hb dX1_listed_1 (by decide) (fun h => absurd h (by decide)) (fun _ => ?_)
  refine lv_iload_n hx hb dX1_listed_4 rfl (lv_at hl 1 rfl) ?_
  refine lv_iconst (v := 3) hx hb dX1_listed_5 (by decide) ?_
  refine lv_icmp_ge (tgt := 24) hx hb dX1_listed_6 (by decide) (fun h => absurd h (by decide)) (fun _ => ?_)
  refine lv_iload_n hx hb dX1_listed_9 rfl (lv_at hl 2 rfl) ?_
  refine lv_if_lt (tgt := 24) hx hb dX1_listed_10 (by decide) (fun c_3 => ?_) (fun c_3 => ?_)
  · have c_3 : p1.toInt < 0 := i_lt (a := p1) (b := 0) rfl (by decide) c_3
    refine lv_iconst (v := 0) hx hb dX1_listed_24 (by decide) ?_
    refine lv_istore_n (lv' := [(3, .int 0), (0, .ref gn), (1, .int 1), (2, .int p1)]) hx hb dX1_listed_25 rfl hl (by decide) rfl (fun ls hl => ?_)
    refine lv_iload_n hx hb dX1_listed_26 rfl (lv_at hl 0 rfl) ?_
    refine lv_if_eq (tgt := 41) hx hb dX1_listed_27 (by decide) (fun _ => ?_) (fun h => absurd (by decide) h)
    refine lv_iconst (v := -1) hx hb dX1_listed_41 (by decide) ?_
    have hP9 := hP.sub (ws' := [(gn, .inr (1, [.ref gno, .int gnl, .ref gns, .ref gnp])), (gns, .inl (gnks, 3, .inr (.inr (.inr (.inr gnS))))), (gr1, .inl (gnkr1, 480, .inl gR1))]) [0, 1, 2] rfl
    have hD9 := hD.sub (ws' := [(gn, .inr (1, [.ref gno, .int gnl, .ref gns, .ref gnp])), (gns, .inl (gnks, 3, .inr (.inr (.inr (.inr gnS))))), (gr1, .inl (gnkr1, 480, .inl gR1))]) [0, 1, 2] (by decide) rfl
    have hK9 := hK.sub (tys' := []) [] rfl
    refine W.widen (k := 0) (n := 0) (by omega) (by omega) ?_
    exact W.iret (v := -1) hx hb hr (fun t ht hW => ⟨⟨(-1), (), rfl, trivial, by rw [ht]; exact hP9, va_K.moved hW.alike hK9, hD9⟩, hS.F ht⟩) hS.2.2 dX1_listed_42
  · have c_3 : 0 ≤ p1.toInt := i_nlt (a := p1) (b := 0) rfl (by decide) c_3
    refine lv_iload_n hx hb dX1_listed_13 rfl (lv_at hl 2 rfl) ?_
    refine lv_sipush (v := 480) hx hb dX1_listed_14 (by decide) ?_
    refine lv_icmp_ge (tgt := 24) hx hb dX1_listed_17 (by decide) (fun c_5 => ?_) (fun c_5 => ?_)
    · have c_5 : 480 ≤ p1.toInt := i_le (a := 480) (b := p1) (by decide) rfl c_5
      refine lv_iconst (v := 0) hx hb dX1_listed_24 (by decide) ?_
      refine lv_istore_n (lv' := [(3, .int 0), (0, .ref gn), (1, .int 1), (2, .int p1)]) hx hb dX1_listed_25 rfl hl (by decide) rfl (fun ls hl => ?_)
      refine lv_iload_n hx hb dX1_listed_26 rfl (lv_at hl 0 rfl) ?_
      refine lv_if_eq (tgt := 41) hx hb dX1_listed_27 (by decide) (fun _ => ?_) (fun h => absurd (by decide) h)
      refine lv_iconst (v := -1) hx hb dX1_listed_41 (by decide) ?_
      have hP9 := hP.sub (ws' := [(gn, .inr (1, [.ref gno, .int gnl, .ref gns, .ref gnp])), (gns, .inl (gnks, 3, .inr (.inr (.inr (.inr gnS))))), (gr1, .inl (gnkr1, 480, .inl gR1))]) [0, 1, 2] rfl
      have hD9 := hD.sub (ws' := [(gn, .inr (1, [.ref gno, .int gnl, .ref gns, .ref gnp])), (gns, .inl (gnks, 3, .inr (.inr (.inr (.inr gnS))))), (gr1, .inl (gnkr1, 480, .inl gR1))]) [0, 1, 2] (by decide) rfl
      have hK9 := hK.sub (tys' := []) [] rfl
      refine W.widen (k := 0) (n := 0) (by omega) (by omega) ?_
      exact W.iret (v := -1) hx hb hr (fun t ht hW => ⟨⟨(-1), (), rfl, trivial, by rw [ht]; exact hP9, va_K.moved hW.alike hK9, hD9⟩, hS.F ht⟩) hS.2.2 dX1_listed_42
    · have c_5 : p1.toInt < 480 := i_nle (a := 480) (b := p1) (by decide) rfl c_5
      refine lv_iconst (v := 1) hx hb dX1_listed_20 (by decide) ?_
      refine lv_goto (tgt := 25) hx hb dX1_listed_21 (by decide) ?_
      refine lv_istore_n (lv' := [(3, .int 1), (0, .ref gn), (1, .int 1), (2, .int p1)]) hx hb dX1_listed_25 rfl hl (by decide) rfl (fun ls hl => ?_)
      refine lv_iload_n hx hb dX1_listed_26 rfl (lv_at hl 0 rfl) ?_
      refine lv_if_eq (tgt := 41) hx hb dX1_listed_27 (by decide) (fun h => absurd h (by decide)) (fun _ => ?_)
      refine lv_aload_n hx hb dX1_listed_30 rfl (lv_at hl 1 rfl) ?_
      refine va_get (D := (dC, dI)) (ci := 1) (v := .ref gns) (C := RX1) (T := TX1) (N := 4) hx hb hts in_X1_listed_1_X1 hown hK hP 0 rfl rfl 2 (by decide) (hts _ wd_X1_listed_1_0) (fun _ h9 => h9) rfl dX1_listed_31 ?_
      refine lv_iload_n hx hb dX1_listed_34 rfl (lv_at hl 2 rfl) ?_
      refine va_aldA (i := 1) hx hb hK hP 1 0 rfl rfl (vp_in_iff.mpr ⟨by decide, by decide⟩) dX1_listed_35 ?_
      refine W.eq (g2 := F0 m 36 ls (.ref gr1 :: [])) (by rw [show gnS (1 : Int32).toNatClampNeg = some gr1 from hS1]; rfl) ?_
      refine lv_iload_n hx hb dX1_listed_36 rfl (lv_at hl 3 rfl) ?_
      refine va_iald hx hb hK hP 2 1 rfl rfl (i_in rfl (by omega) (by omega)) dX1_listed_37 ?_
      refine lv_topi (fun v_8 ev_8 => ?_)
      refine lv_goto (tgt := 42) hx hb dX1_listed_38 (by decide) ?_
      have hP9 := hP.sub (ws' := [(gn, .inr (1, [.ref gno, .int gnl, .ref gns, .ref gnp])), (gns, .inl (gnks, 3, .inr (.inr (.inr (.inr gnS))))), (gr1, .inl (gnkr1, 480, .inl gR1))]) [0, 1, 2] rfl
      have hD9 := hD.sub (ws' := [(gn, .inr (1, [.ref gno, .int gnl, .ref gns, .ref gnp])), (gns, .inl (gnks, 3, .inr (.inr (.inr (.inr gnS))))), (gr1, .inl (gnkr1, 480, .inl gR1))]) [0, 1, 2] (by decide) rfl
      have hK9 := hK.sub (tys' := []) [] rfl
      refine W.widen (k := 0) (n := 0) (by omega) (by omega) ?_
      exact W.iret (v := v_8) hx hb hr (fun t ht hW => ⟨⟨v_8, (), rfl, trivial, by rw [ht]; exact hP9, va_K.moved hW.alike hK9, hD9⟩, hS.F ht⟩) hS.2.2 dX1_listed_42

def wz_X1_list_2 : List Cond := .code yX1_list cX1_list 13 (some .int) :: ([Cond.fieldLink RX1 27 "HedgeMaze$Garden" "plan" "LHedgeMaze$Plan;", Cond.fieldLink RX1 37 "HedgeMaze$Plan" "sideCount" "I", Cond.fieldLink RX1 24 "HedgeMaze$Gardeners" "parts" "[I", Cond.fieldLink RX1 21 "HedgeMaze$Gardeners" "lists" "[[I", Cond.methodLink RX1 33 yX0_openWith, Cond.instanceMethod yX0_openWith, Cond.selects RX0 yX0_openWith yX0_openWith, Cond.initialized RX0, Cond.code yX0_openWith cX0_openWith 3 (some .long), Cond.fieldLink RX0 12 "HedgeMaze$Garden" "plan" "LHedgeMaze$Plan;", Cond.fieldLink RX0 75 "HedgeMaze$Plan" "allSides" "J", Cond.fieldLink RX0 26 "HedgeMaze$Garden" "walls" "J", Cond.constantLong RX0 78 (-1), Cond.methodLink RX1 42 yX3_has, Cond.instanceMethod yX3_has, Cond.selects RX3 yX3_has yX3_has, Cond.initialized RX3, Cond.code yX3_has cX3_has 4 (some .boolean), Cond.methodLink RX3 58 yX3_bitOf, Cond.instanceMethod yX3_bitOf, Cond.selects RX3 yX3_bitOf yX3_bitOf, Cond.code yX3_bitOf cX3_bitOf 3 (some .long), Cond.fieldLink RX3 21 "HedgeMaze$Plan" "sideCount" "I", Cond.fieldLink RX3 35 "HedgeMaze$Plan" "bits" "[J", Cond.methodLink RX1 50 yX0_sidesByLaw, Cond.instanceMethod yX0_sidesByLaw, Cond.selects RX0 yX0_sidesByLaw yX0_sidesByLaw, Cond.code yX0_sidesByLaw cX0_sidesByLaw 2 (some .long), Cond.fieldLink RX0 29 "HedgeMaze$Garden" "isNear" "Z", Cond.methodLink RX0 93 yX3_sidesNear, Cond.instanceMethod yX3_sidesNear, Cond.selects RX3 yX3_sidesNear yX3_sidesNear, Cond.code yX3_sidesNear cX3_sidesNear 5 (some .long), Cond.constantLong RX3 65 (-1), Cond.fieldLink RX3 28 "HedgeMaze$Plan" "first" "[I", Cond.fieldLink RX3 32 "HedgeMaze$Plan" "other" "[I", Cond.methodLink RX3 62 yX3_sideAt, Cond.instanceMethod yX3_sideAt, Cond.selects RX3 yX3_sideAt yX3_sideAt, Cond.code yX3_sideAt cX3_sideAt 4 (some .int), Cond.fieldLink RX3 39 "HedgeMaze$Plan" "around" "[I", Cond.methodLink RX1 54 yX3_joins, Cond.instanceMethod yX3_joins, Cond.selects RX3 yX3_joins yX3_joins, Cond.code yX3_joins cX3_joins 3 (some .boolean), Cond.methodLink RX3 79 yX3_allCells, Cond.instanceMethod yX3_allCells, Cond.selects RX3 yX3_allCells yX3_allCells, Cond.code yX3_allCells cX3_allCells 1 (some .int), Cond.fieldLink RX3 18 "HedgeMaze$Plan" "cellCount" "I", Cond.methodLink RX1 46 yX3_partBeside, Cond.instanceMethod yX3_partBeside, Cond.selects RX3 yX3_partBeside yX3_partBeside, Cond.code yX3_partBeside cX3_partBeside 4 (some .int), Cond.methodLink RX3 75 yX3_spread, Cond.instanceMethod yX3_spread, Cond.selects RX3 yX3_spread yX3_spread, Cond.code yX3_spread cX3_spread 9 (some .int), Cond.methodLink RX3 42 Lib.Math.min.name, Cond.static Lib.Math.min.name, Cond.initialized "java/lang/Math", Cond.code Lib.Math.min.name Lib.Math.min.code 2 (some .int), Cond.methodLink RX3 71 yX3_grow, Cond.instanceMethod yX3_grow, Cond.selects RX3 yX3_grow yX3_grow, Cond.code yX3_grow cX3_grow 6 (some .int), Cond.fieldLink RX3 9 "HedgeMaze$Plan" "wide" "I"] ++ wsX00 ++ wsX30 ++ wsX10)
theorem wd_X1_list_2_0 : Cond.fieldLink RX1 27 "HedgeMaze$Garden" "plan" "LHedgeMaze$Plan;" ∈ wz_X1_list_2 := List.mem_of_getElem? (i := 1) rfl
theorem wd_X1_list_2_1 : Cond.fieldLink RX1 37 "HedgeMaze$Plan" "sideCount" "I" ∈ wz_X1_list_2 := List.mem_of_getElem? (i := 2) rfl
theorem wd_X1_list_2_2 : Cond.fieldLink RX1 24 "HedgeMaze$Gardeners" "parts" "[I" ∈ wz_X1_list_2 := List.mem_of_getElem? (i := 3) rfl
theorem wd_X1_list_2_3 : Cond.fieldLink RX1 21 "HedgeMaze$Gardeners" "lists" "[[I" ∈ wz_X1_list_2 := List.mem_of_getElem? (i := 4) rfl
theorem in_X1_list_2_X0 : ∀ w ∈ wsX00, w ∈ wz_X1_list_2 := fun _ h => List.mem_cons_of_mem _ (List.mem_append_left _ (List.mem_append_left _ (List.mem_append_right _ h)))
theorem in_X1_list_2_X3 : ∀ w ∈ wsX30, w ∈ wz_X1_list_2 := fun _ h => List.mem_cons_of_mem _ (List.mem_append_left _ (List.mem_append_right _ h))
theorem in_X1_list_2_X1 : ∀ w ∈ wsX10, w ∈ wz_X1_list_2 := fun _ h => List.mem_cons_of_mem _ (List.mem_append_right _ h)
set_option maxRecDepth 20000 in
theorem g_X1_list_2_X0_openWith : GoodIn wz_X1_list_2 (wsV RX1 33 RX0 yX0_openWith wz_X0_openWith) := goodIn_r _ [5, 6, 7, 8, 9, 10, 11, 12, 13, 68, 69, 70, 71, 72, 73, 74, 75, 76, 77, 78, 79, 80, 81, 82, 83, 84, 85, 86, 87, 88] rfl (by decide +kernel)
set_option maxRecDepth 20000 in
theorem g_X1_list_2_X3_has : GoodIn wz_X1_list_2 (wsV RX1 42 RX3 yX3_has wz_X3_has) := goodIn_r _ [14, 15, 16, 17, 18, 19, 20, 21, 17, 22, 23, 24, 80, 81, 82, 83, 84, 85, 86, 87, 88] rfl (by decide +kernel)
set_option maxRecDepth 20000 in
theorem g_X1_list_2_X0_sidesByLaw : GoodIn wz_X1_list_2 (wsV RX1 50 RX0 yX0_sidesByLaw wz_X0_sidesByLaw) := goodIn_r _ [25, 26, 27, 8, 28, 29, 10, 11, 30, 31, 32, 17, 33, 23, 24, 34, 35, 36, 37, 38, 39, 40, 41, 19, 20, 21, 22, 68, 69, 70, 71, 72, 73, 74, 75, 76, 77, 78, 79, 80, 81, 82, 83, 84, 85, 86, 87, 88] rfl (by decide +kernel)
set_option maxRecDepth 20000 in
theorem g_X1_list_2_X3_joins : GoodIn wz_X1_list_2 (wsV RX1 54 RX3 yX3_joins wz_X3_joins) := goodIn_r _ [42, 43, 44, 17, 45, 23, 35, 36, 46, 47, 48, 17, 49, 50, 80, 81, 82, 83, 84, 85, 86, 87, 88] rfl (by decide +kernel)
set_option maxRecDepth 20000 in
theorem g_X1_list_2_X3_partBeside : GoodIn wz_X1_list_2 (wsV RX1 46 RX3 yX3_partBeside wz_X3_partBeside) := goodIn_r _ [51, 52, 53, 17, 54, 23, 35, 24, 34, 46, 47, 48, 17, 49, 50, 55, 56, 57, 58, 59, 60, 61, 62, 63, 64, 65, 66, 67, 80, 81, 82, 83, 84, 85, 86, 87, 88] rfl (by decide +kernel)
set_option maxHeartbeats 4000000 in
set_option maxRecDepth 100000 in
theorem c_X1_list_2 (l : Launch) (dC : Nat → ClassId) (dI : Nat → Nat → Nat) (sz : Nat) (gn : Nat) (gno : Nat) (gnl : Int32) (gns : Nat) (gnp : Nat) (gnkp : ClassId) (gnP : Nat → Int32) (gnks : ClassId) (gnS : Nat → Option Nat) (gr2 : Nat) (gnkr2 : ClassId) (gR2 : Nat → Int32) (gd : Nat) (gdl : Int32) (gdh : Int64) (gdw : Int64) (gdi : Int32) (gde : Int32) (gdc : Int32) (gdt : Nat) (gdg : Int32) (gdu : Nat) (gdn : Int32) (gdx : Nat) (pl : Nat) (plw : Int32) (pld : Int32) (plc : Int32) (pls : Int32) (plm : Int64) (plf : Nat) (plo : Nat) (plb : Nat) (pla : Nat) (plkf : ClassId) (plF : Nat → Int32) (plko : ClassId) (plO : Nat → Int32) (plkb : ClassId) (plB : Nat → Int64) (plka : ClassId) (plA : Nat → Int32) (p0 : Int64) (hS2 : gnS 2 = some gr2) (h_pls : 0 ≤ pls.toInt ∧ pls.toInt ≤ 40) (hR_plf : RG plF 40 0 24) (hR_plo : RG plO 40 0 24) : Met l yX1_list wz_X1_list_2 ({ frames := 3, cells := 0, slots := 0, locals := 91 }) (va_Pc [.ref gn, .ref gd, .long p0, .int 2] (fun U => U.heap.size = sz ∧ va_P (dC, dI) vwCl [(gn, .inr (1, [.ref gno, .int gnl, .ref gns, .ref gnp])), (gnp, .inl (gnkp, 40, .inl gnP)), (gns, .inl (gnks, 3, .inr (.inr (.inr (.inr gnS))))), (gr2, .inl (gnkr2, 480, .inl gR2)), (gd, .inr (0, [.ref pl, .int gdl, .long gdh, .long gdw, .int gdi, .int gde, .int gdc, .ref gdt, .int gdg, .ref gdu, .int gdn, .ref gdx])), (pl, .inr (3, [.int plw, .int pld, .int plc, .int pls, .long plm, .ref plf, .ref plo, .ref plb, .ref pla])), (plf, .inl (plkf, 40, .inl plF)), (plo, .inl (plko, 40, .inl plO)), (plb, .inl (plkb, 40, .inr (.inl plB))), (pla, .inl (plka, 100, .inl plA))] U.heap ∧ va_K (dC, dI) vwCl [(gnkp, .int), (gnks, .array .int), (gnkr2, .int), (plkf, .int), (plko, .int), (plkb, .long), (plka, .int)] U ∧ va_D (fun _ => True) [(gn, .inr (1, [.ref gno, .int gnl, .ref gns, .ref gnp])), (gnp, .inl (gnkp, 40, .inl gnP)), (gns, .inl (gnks, 3, .inr (.inr (.inr (.inr gnS))))), (gr2, .inl (gnkr2, 480, .inl gR2)), (gd, .inr (0, [.ref pl, .int gdl, .long gdh, .long gdw, .int gdi, .int gde, .int gdc, .ref gdt, .int gdg, .ref gdu, .int gdn, .ref gdx])), (pl, .inr (3, [.int plw, .int pld, .int plc, .int pls, .long plm, .ref plf, .ref plo, .ref plb, .ref pla])), (plf, .inl (plkf, 40, .inl plF)), (plo, .inl (plko, 40, .inl plO)), (plb, .inl (plkb, 40, .inr (.inl plB))), (pla, .inl (plka, 100, .inl plA))])) (va_Qi (fun (r : Int32) (u : (Nat → Int32) × (Nat → Int32)) => (0 ≤ r.toInt ∧ r.toInt ≤ 480)) (fun (u : (Nat → Int32) × (Nat → Int32)) (t : State) => va_P (dC, dI) vwCl [(gn, .inr (1, [.ref gno, .int gnl, .ref gns, .ref gnp])), (gnp, .inl (gnkp, 40, .inl u.1)), (gns, .inl (gnks, 3, .inr (.inr (.inr (.inr gnS))))), (gr2, .inl (gnkr2, 480, .inl u.2)), (gd, .inr (0, [.ref pl, .int gdl, .long gdh, .long gdw, .int gdi, .int gde, .int gdc, .ref gdt, .int gdg, .ref gdu, .int gdn, .ref gdx])), (pl, .inr (3, [.int plw, .int pld, .int plc, .int pls, .long plm, .ref plf, .ref plo, .ref plb, .ref pla])), (plf, .inl (plkf, 40, .inl plF)), (plo, .inl (plko, 40, .inl plO)), (plb, .inl (plkb, 40, .inr (.inl plB))), (pla, .inl (plka, 100, .inl plA))] t.heap ∧ va_K (dC, dI) vwCl [] t ∧ va_D (va_A [(gn, .inr (1, [.ref gno, .int gnl, .ref gns, .ref gnp])), (gnp, .inl (gnkp, 40, .inl gnP)), (gns, .inl (gnks, 3, .inr (.inr (.inr (.inr gnS))))), (gr2, .inl (gnkr2, 480, .inl gR2)), (gd, .inr (0, [.ref pl, .int gdl, .long gdh, .long gdw, .int gdi, .int gde, .int gdc, .ref gdt, .int gdg, .ref gdu, .int gdn, .ref gdx])), (pl, .inr (3, [.int plw, .int pld, .int plc, .int pls, .long plm, .ref plf, .ref plo, .ref plb, .ref pla])), (plf, .inl (plkf, 40, .inl plF)), (plo, .inl (plko, 40, .inl plO)), (plb, .inl (plkb, 40, .inr (.inl plB))), (pla, .inl (plka, 100, .inl plA))] sz) [(gn, .inr (1, [.ref gno, .int gnl, .ref gns, .ref gnp])), (gnp, .inl (gnkp, 40, .inl u.1)), (gns, .inl (gnks, 3, .inr (.inr (.inr (.inr gnS))))), (gr2, .inl (gnkr2, 480, .inl u.2)), (gd, .inr (0, [.ref pl, .int gdl, .long gdh, .long gdw, .int gdi, .int gde, .int gdc, .ref gdt, .int gdg, .ref gdu, .int gdn, .ref gdx])), (pl, .inr (3, [.int plw, .int pld, .int plc, .int pls, .long plm, .ref plf, .ref plo, .ref plb, .ref pla])), (plf, .inl (plkf, 40, .inl plF)), (plo, .inl (plko, 40, .inl plO)), (plb, .inl (plkb, 40, .inr (.inl plB))), (pla, .inl (plka, 100, .inl plA))]) (va_A [(gn, .inr (1, [.ref gno, .int gnl, .ref gns, .ref gnp])), (gnp, .inl (gnkp, 40, .inl gnP)), (gns, .inl (gnks, 3, .inr (.inr (.inr (.inr gnS))))), (gr2, .inl (gnkr2, 480, .inl gR2)), (gd, .inr (0, [.ref pl, .int gdl, .long gdh, .long gdw, .int gdi, .int gde, .int gdc, .ref gdt, .int gdg, .ref gdu, .int gdn, .ref gdx])), (pl, .inr (3, [.int plw, .int pld, .int plc, .int pls, .long plm, .ref plf, .ref plo, .ref plb, .ref pla])), (plf, .inl (plkf, 40, .inl plF)), (plo, .inl (plko, 40, .inl plO)), (plb, .inl (plkb, 40, .inr (.inl plB))), (pla, .inl (plka, 100, .inl plA))] sz)) 0 0 (va_A [(gn, .inr (1, [.ref gno, .int gnl, .ref gns, .ref gnp])), (gnp, .inl (gnkp, 40, .inl gnP)), (gns, .inl (gnks, 3, .inr (.inr (.inr (.inr gnS))))), (gr2, .inl (gnkr2, 480, .inl gR2)), (gd, .inr (0, [.ref pl, .int gdl, .long gdh, .long gdw, .int gdi, .int gde, .int gdc, .ref gdt, .int gdg, .ref gdu, .int gdn, .ref gdx])), (pl, .inr (3, [.int plw, .int pld, .int plc, .int pls, .long plm, .ref plf, .ref plo, .ref plb, .ref pla])), (plf, .inl (plkf, 40, .inl plF)), (plo, .inl (plko, 40, .inl plO)), (plb, .inl (plkb, 40, .inr (.inl plB))), (pla, .inl (plka, 100, .inl plA))] sz) := by
  refine Met.ofW (cc := cX1_list) (maxL := 13) (ret := (some .int)) (by decide) rfl ?_
  intro p e s m args below meth c s₁ B hml hv
  obtain ⟨rfl, hsz, hP, hK, hD0⟩ := hv
  have hx := B.exec
  have hb := B.bytes
  have hr := B.returns
  have hts := atoms_spec (ws := wz_X1_list_2) B.pre
  have hown : s.vm.findClass RX1 = some m.cls := findClass_of_methodNamed B.named
  have hlocks := B.notSynchronized
  subst hsz
  have hD := hD0.self (sz := s.heap.size)
  generalize hAe : va_A [(gn, .inr (1, [.ref gno, .int gnl, .ref gns, .ref gnp])), (gnp, .inl (gnkp, 40, .inl gnP)), (gns, .inl (gnks, 3, .inr (.inr (.inr (.inr gnS))))), (gr2, .inl (gnkr2, 480, .inl gR2)), (gd, .inr (0, [.ref pl, .int gdl, .long gdh, .long gdw, .int gdi, .int gde, .int gdc, .ref gdt, .int gdg, .ref gdu, .int gdn, .ref gdx])), (pl, .inr (3, [.int plw, .int pld, .int plc, .int pls, .long plm, .ref plf, .ref plo, .ref plb, .ref pla])), (plf, .inl (plkf, 40, .inl plF)), (plo, .inl (plko, 40, .inl plO)), (plb, .inl (plkb, 40, .inr (.inl plB))), (pla, .inl (plka, 100, .inl plA))] s.heap.size = A at hD ⊢
  have hA : ∀ q : Nat, s.heap.size ≤ q → A q := fun q h => by rw [← hAe]; exact Or.inr h
  have hS : va_S A s.heap s.heap [] := va_S.rf
  have hP : va_P (dC, dI) vwCl [(gn, .inr (1, [.ref gno, .int gnl, .ref gns, .ref gnp])), (gnp, .inl (gnkp, 40, .inl gnP)), (gns, .inl (gnks, 3, .inr (.inr (.inr (.inr gnS))))), (gr2, .inl (gnkr2, 480, .inl gR2)), (gd, .inr (0, [.ref pl, .int gdl, .long gdh, .long gdw, .int gdi, .int gde, .int gdc, .ref gdt, .int gdg, .ref gdu, .int gdn, .ref gdx])), (pl, .inr (3, [.int plw, .int pld, .int plc, .int pls, .long plm, .ref plf, .ref plo, .ref plb, .ref pla])), (plf, .inl (plkf, 40, .inl plF)), (plo, .inl (plko, 40, .inl plO)), (plb, .inl (plkb, 40, .inr (.inl plB))), (pla, .inl (plka, 100, .inl plA))] s.heap := hP
  have hl := lv_entry ([.ref gn, .ref gd, .long p0, .int 2]) (n := 13) (Nat.le_of_ble_eq_true rfl)
  rw [lg_entry_eq]
  generalize (lg_sl ([.ref gn, .ref gd, .long p0, .int 2]) ++ List.replicate (13 - (lg_sl ([.ref gn, .ref gd, .long p0, .int 2])).length) Slot.unset).toArray = ls at hl ⊢
  have hl : lv_has ls 13 [(0, .ref gn), (1, .ref gd), (2, .long p0), (4, .int 2)] := hl
  refine lv_iload hx hb dX1_list_0 (lv_at hl 3 rfl) ?_
  refine lv_if_lt (tgt := 11) hx hb dX1_list_2 (by decide) (fun h => absurd h (by decide)) (fun _ => ?_)
  refine lv_iload hx hb dX1_list_5 (lv_at hl 3 rfl) ?_
  refine lv_iconst (v := 3) hx hb dX1_list_7 (by decide) ?_
  refine lv_icmp_lt (tgt := 13) hx hb dX1_list_8 (by decide) (fun _ => ?_) (fun h => absurd (by decide) h)
  refine lv_aload_n hx hb dX1_list_13 rfl (lv_at hl 1 rfl) ?_
  refine va_get (D := (dC, dI)) (ci := 0) (v := .ref pl) (C := RX0) (T := TX0) (N := 12) hx hb hts in_X1_list_2_X0 hown hK hP 4 rfl rfl 0 (by decide) (hts _ wd_X1_list_2_0) (fun _ h9 => h9) rfl dX1_list_14 ?_
  refine lv_astore (lv' := [(5, .ref pl), (0, .ref gn), (1, .ref gd), (2, .long p0), (4, .int 2)]) hx hb dX1_list_17 hl (by decide) rfl (fun ls hl => ?_)
  refine lv_aload_n hx hb dX1_list_19 rfl (lv_at hl 2 rfl) ?_
  refine lv_lload_n hx hb dX1_list_20 rfl (lv_at hl 3 rfl) ?_
  have hPc := hP.sub (ws' := [(gd, .inr (0, [.ref pl, .int gdl, .long gdh, .long gdw, .int gdi, .int gde, .int gdc, .ref gdt, .int gdg, .ref gdu, .int gdn, .ref gdx])), (pl, .inr (3, [.int plw, .int pld, .int plc, .int pls, .long plm, .ref plf, .ref plo, .ref plb, .ref pla]))]) [4, 5] rfl
  have hDc := hD.sub (ws' := [(gd, .inr (0, [.ref pl, .int gdl, .long gdh, .long gdw, .int gdi, .int gde, .int gdc, .ref gdt, .int gdg, .ref gdu, .int gdn, .ref gdx])), (pl, .inr (3, [.int plw, .int pld, .int plc, .int pls, .long plm, .ref plf, .ref plo, .ref plb, .ref pla]))]) [4, 5] (by decide) rfl
  have hKc := hK.sub (tys' := []) [] rfl
  have hFc := va_free (wc := [(gd, .inr (0, [.ref pl, .int gdl, .long gdh, .long gdw, .int gdi, .int gde, .int gdc, .ref gdt, .int gdg, .ref gdu, .int gdn, .ref gdx])), (pl, .inr (3, [.int plw, .int pld, .int plc, .int pls, .long plm, .ref plf, .ref plo, .ref plb, .ref pla]))]) hD hS hA [4, 5] rfl
  refine va_calll (va_runV (As := [.long p0]) (rest := []) ⟨hx, hb, hml, hown, hts⟩ (c_X0_openWith l dC dI s.heap.size gd gdl gdh gdw gdi gde gdc gdt gdg gdu gdn gdx pl plw pld plc pls plm plf plo plb pla p0 ) (cwV 1 hts g_X1_list_2_X0_openWith rfl rfl rfl (by decide +kernel) ⟨Nat.le_of_ble_eq_true rfl, Nat.le_of_ble_eq_true rfl⟩) ⟨fun a U g mk q => by obtain ⟨q0, q1, qP, qK, qD⟩ := q; exact ⟨q0, q1, qP, va_K.moved (u := U) (U := U.calling g mk a) (Vm.Alike.refl U.vm) qK, qD⟩, va_recv hKc hPc (ci := 0) (q0 := 0) rfl rfl, fun U hU hW => ⟨rfl, by rw [hU], by rw [hU]; exact hPc, va_K.moved hW.alike hKc, hDc.weaken (fun _ _ _ _ => trivial)⟩⟩ rfl rfl hl.1 rfl (lv_room (Nat.le_of_ble_eq_true rfl)) dX1_list_21 ⟨Nat.le_of_ble_eq_true rfl, Nat.le_of_ble_eq_true rfl⟩) hS (fun q _ h => hFc q h) hFc (fun r_3 u t H1 locs ht hvm hw_4 hB hz1 hk1 hS => ?_)
  obtain ⟨hP1, hK1, hD1⟩ := hB
  have hP1 : va_P (dC, dI) vwCl [(gd, .inr (0, [.ref pl, .int gdl, .long gdh, .long gdw, .int gdi, .int gde, .int gdc, .ref gdt, .int gdg, .ref gdu, .int gdn, .ref gdx])), (pl, .inr (3, [.int plw, .int pld, .int plc, .int pls, .long plm, .ref plf, .ref plo, .ref plb, .ref pla]))] t.heap := hP1
  rw [ht] at hP1
  try dsimp only at hw_4
  obtain ⟨hP, hD⟩ := va_join (wr := [(gn, .inr (1, [.ref gno, .int gnl, .ref gns, .ref gnp])), (gnp, .inl (gnkp, 40, .inl gnP)), (gns, .inl (gnks, 3, .inr (.inr (.inr (.inr gnS))))), (gr2, .inl (gnkr2, 480, .inl gR2)), (plf, .inl (plkf, 40, .inl plF)), (plo, .inl (plko, 40, .inl plO)), (plb, .inl (plkb, 40, .inr (.inl plB))), (pla, .inl (plka, 100, .inl plA))]) (w1 := [(gd, .inr (0, [.ref pl, .int gdl, .long gdh, .long gdw, .int gdi, .int gde, .int gdc, .ref gdt, .int gdg, .ref gdu, .int gdn, .ref gdx])), (pl, .inr (3, [.int plw, .int pld, .int plc, .int pls, .long plm, .ref plf, .ref plo, .ref plb, .ref pla]))]) hP hD [4, 5] [0, 1, 2, 3, 6, 7, 8, 9] rfl rfl (by decide) (by decide) hk1 hFc hP1 hD1
  generalize H1 = H at hP hS ⊢
  have hP : va_P (dC, dI) vwCl [(gn, .inr (1, [.ref gno, .int gnl, .ref gns, .ref gnp])), (gnp, .inl (gnkp, 40, .inl gnP)), (gns, .inl (gnks, 3, .inr (.inr (.inr (.inr gnS))))), (gr2, .inl (gnkr2, 480, .inl gR2)), (plf, .inl (plkf, 40, .inl plF)), (plo, .inl (plko, 40, .inl plO)), (plb, .inl (plkb, 40, .inr (.inl plB))), (pla, .inl (plka, 100, .inl plA)), (gd, .inr (0, [.ref pl, .int gdl, .long gdh, .long gdw, .int gdi, .int gde, .int gdc, .ref gdt, .int gdg, .ref gdu, .int gdn, .ref gdx])), (pl, .inr (3, [.int plw, .int pld, .int plc, .int pls, .long plm, .ref plf, .ref plo, .ref plb, .ref pla]))] H := hP
  have hD : va_D A [(gn, .inr (1, [.ref gno, .int gnl, .ref gns, .ref gnp])), (gnp, .inl (gnkp, 40, .inl gnP)), (gns, .inl (gnks, 3, .inr (.inr (.inr (.inr gnS))))), (gr2, .inl (gnkr2, 480, .inl gR2)), (plf, .inl (plkf, 40, .inl plF)), (plo, .inl (plko, 40, .inl plO)), (plb, .inl (plkb, 40, .inr (.inl plB))), (pla, .inl (plka, 100, .inl plA)), (gd, .inr (0, [.ref pl, .int gdl, .long gdh, .long gdw, .int gdi, .int gde, .int gdc, .ref gdt, .int gdg, .ref gdu, .int gdn, .ref gdx])), (pl, .inr (3, [.int plw, .int pld, .int plc, .int pls, .long plm, .ref plf, .ref plo, .ref plb, .ref pla]))] := hD
  refine lv_lstore (lv' := [(6, .long r_3), (5, .ref pl), (0, .ref gn), (1, .ref gd), (2, .long p0), (4, .int 2)]) hx hb dX1_list_24 hl (by decide) rfl (fun ls hl => ?_)
  refine lv_iconst (v := 0) hx hb dX1_list_26 (by decide) ?_
  refine lv_istore (lv' := [(8, .int 0), (6, .long r_3), (5, .ref pl), (0, .ref gn), (1, .ref gd), (2, .long p0), (4, .int 2)]) hx hb dX1_list_27 hl (by decide) rfl (fun ls hl => ?_)
  refine lp_W (I := fun (a : Int32 × (Nat → Int32)) H locs ls => (0 ≤ a.1.toInt ∧ a.1.toInt ≤ 40) ∧ va_P (dC, dI) vwCl [(gn, .inr (1, [.ref gno, .int gnl, .ref gns, .ref gnp])), (gnp, .inl (gnkp, 40, .inl a.2)), (gns, .inl (gnks, 3, .inr (.inr (.inr (.inr gnS))))), (gr2, .inl (gnkr2, 480, .inl gR2)), (plf, .inl (plkf, 40, .inl plF)), (plo, .inl (plko, 40, .inl plO)), (plb, .inl (plkb, 40, .inr (.inl plB))), (pla, .inl (plka, 100, .inl plA)), (gd, .inr (0, [.ref pl, .int gdl, .long gdh, .long gdw, .int gdi, .int gde, .int gdc, .ref gdt, .int gdg, .ref gdu, .int gdn, .ref gdx])), (pl, .inr (3, [.int plw, .int pld, .int plc, .int pls, .long plm, .ref plf, .ref plo, .ref plb, .ref pla]))] H ∧ va_D A [(gn, .inr (1, [.ref gno, .int gnl, .ref gns, .ref gnp])), (gnp, .inl (gnkp, 40, .inl a.2)), (gns, .inl (gnks, 3, .inr (.inr (.inr (.inr gnS))))), (gr2, .inl (gnkr2, 480, .inl gR2)), (plf, .inl (plkf, 40, .inl plF)), (plo, .inl (plko, 40, .inl plO)), (plb, .inl (plkb, 40, .inr (.inl plB))), (pla, .inl (plka, 100, .inl plA)), (gd, .inr (0, [.ref pl, .int gdl, .long gdh, .long gdw, .int gdi, .int gde, .int gdc, .ref gdt, .int gdg, .ref gdu, .int gdn, .ref gdx])), (pl, .inr (3, [.int plw, .int pld, .int plc, .int pls, .long plm, .ref plf, .ref plo, .ref plb, .ref pla]))] ∧ va_S A s.heap H locs ∧ lv_has ls 13 [(8, .int a.1), (6, .long r_3), (5, .ref pl), (0, .ref gn), (1, .ref gd), (2, .long p0), (4, .int 2)]) (μ := fun a => (40 - a.1.toInt).toNat) ?_ ((0 : Int32), gnP) ⟨(by have k0 : (0 : Int32).toInt = 0 := (by decide); (try dsimp only); omega), hP.sub [0, 1, 2, 3, 4, 5, 6, 7, 8, 9] rfl, hD.sub [0, 1, 2, 3, 4, 5, 6, 7, 8, 9] (by decide) rfl, hS, lv_sub hl [0, 1, 2, 3, 4, 5, 6] rfl⟩
  intro a H locs ls hI ih29
  obtain ⟨t0, P1⟩ := a
  obtain ⟨h_t0, hP, hD, hS, hl⟩ := hI
  have h_t0 : 0 ≤ t0.toInt ∧ t0.toInt ≤ 40 := h_t0
  have hP : va_P (dC, dI) vwCl [(gn, .inr (1, [.ref gno, .int gnl, .ref gns, .ref gnp])), (gnp, .inl (gnkp, 40, .inl P1)), (gns, .inl (gnks, 3, .inr (.inr (.inr (.inr gnS))))), (gr2, .inl (gnkr2, 480, .inl gR2)), (plf, .inl (plkf, 40, .inl plF)), (plo, .inl (plko, 40, .inl plO)), (plb, .inl (plkb, 40, .inr (.inl plB))), (pla, .inl (plka, 100, .inl plA)), (gd, .inr (0, [.ref pl, .int gdl, .long gdh, .long gdw, .int gdi, .int gde, .int gdc, .ref gdt, .int gdg, .ref gdu, .int gdn, .ref gdx])), (pl, .inr (3, [.int plw, .int pld, .int plc, .int pls, .long plm, .ref plf, .ref plo, .ref plb, .ref pla]))] H := hP
  have hD : va_D A [(gn, .inr (1, [.ref gno, .int gnl, .ref gns, .ref gnp])), (gnp, .inl (gnkp, 40, .inl P1)), (gns, .inl (gnks, 3, .inr (.inr (.inr (.inr gnS))))), (gr2, .inl (gnkr2, 480, .inl gR2)), (plf, .inl (plkf, 40, .inl plF)), (plo, .inl (plko, 40, .inl plO)), (plb, .inl (plkb, 40, .inr (.inl plB))), (pla, .inl (plka, 100, .inl plA)), (gd, .inr (0, [.ref pl, .int gdl, .long gdh, .long gdw, .int gdi, .int gde, .int gdc, .ref gdt, .int gdg, .ref gdu, .int gdn, .ref gdx])), (pl, .inr (3, [.int plw, .int pld, .int plc, .int pls, .long plm, .ref plf, .ref plo, .ref plb, .ref pla]))] := hD
  have hl : lv_has ls 13 [(8, .int t0), (6, .long r_3), (5, .ref pl), (0, .ref gn), (1, .ref gd), (2, .long p0), (4, .int 2)] := hl
  refine lv_iload hx hb dX1_list_29 (lv_at hl 0 rfl) ?_
  refine lv_aload hx hb dX1_list_31 (lv_at hl 2 rfl) ?_
  refine va_get (D := (dC, dI)) (ci := 3) (v := .int pls) (C := RX3) (T := TX3) (N := 9) hx hb hts in_X1_list_2_X3 hown hK hP 9 rfl rfl 3 (by decide) (hts _ wd_X1_list_2_1) (fun _ h9 => h9) rfl dX1_list_33 ?_
  refine lv_icmp_ge (tgt := 77) hx hb dX1_list_36 (by decide) (fun c_5 => ?_) (fun c_5 => ?_)
  · have c_5 : pls.toInt ≤ t0.toInt := i_le (a := pls) (b := t0) rfl rfl c_5
    refine lv_iconst (v := 0) hx hb dX1_list_77 (by decide) ?_
    refine lv_istore (lv' := [(8, .int 0), (6, .long r_3), (5, .ref pl), (0, .ref gn), (1, .ref gd), (2, .long p0), (4, .int 2)]) hx hb dX1_list_78 hl (by decide) rfl (fun ls hl => ?_)
    refine lv_iconst (v := 0) hx hb dX1_list_80 (by decide) ?_
    refine lv_istore (lv' := [(9, .int 0), (8, .int 0), (6, .long r_3), (5, .ref pl), (0, .ref gn), (1, .ref gd), (2, .long p0), (4, .int 2)]) hx hb dX1_list_81 hl (by decide) rfl (fun ls hl => ?_)
    refine lp_W (I := fun (a : Int32 × Int32 × (Nat → Int32)) H locs ls => (0 ≤ a.1.toInt ∧ a.1.toInt ≤ 40) ∧ (0 ≤ a.2.1.toInt ∧ a.2.1.toInt ≤ 480) ∧ va_P (dC, dI) vwCl [(gn, .inr (1, [.ref gno, .int gnl, .ref gns, .ref gnp])), (gnp, .inl (gnkp, 40, .inl P1)), (gns, .inl (gnks, 3, .inr (.inr (.inr (.inr gnS))))), (gr2, .inl (gnkr2, 480, .inl a.2.2)), (plf, .inl (plkf, 40, .inl plF)), (plo, .inl (plko, 40, .inl plO)), (plb, .inl (plkb, 40, .inr (.inl plB))), (pla, .inl (plka, 100, .inl plA)), (gd, .inr (0, [.ref pl, .int gdl, .long gdh, .long gdw, .int gdi, .int gde, .int gdc, .ref gdt, .int gdg, .ref gdu, .int gdn, .ref gdx])), (pl, .inr (3, [.int plw, .int pld, .int plc, .int pls, .long plm, .ref plf, .ref plo, .ref plb, .ref pla]))] H ∧ va_D A [(gn, .inr (1, [.ref gno, .int gnl, .ref gns, .ref gnp])), (gnp, .inl (gnkp, 40, .inl P1)), (gns, .inl (gnks, 3, .inr (.inr (.inr (.inr gnS))))), (gr2, .inl (gnkr2, 480, .inl a.2.2)), (plf, .inl (plkf, 40, .inl plF)), (plo, .inl (plko, 40, .inl plO)), (plb, .inl (plkb, 40, .inr (.inl plB))), (pla, .inl (plka, 100, .inl plA)), (gd, .inr (0, [.ref pl, .int gdl, .long gdh, .long gdw, .int gdi, .int gde, .int gdc, .ref gdt, .int gdg, .ref gdu, .int gdn, .ref gdx])), (pl, .inr (3, [.int plw, .int pld, .int plc, .int pls, .long plm, .ref plf, .ref plo, .ref plb, .ref pla]))] ∧ va_S A s.heap H locs ∧ lv_has ls 13 [(9, .int a.1), (8, .int a.2.1), (6, .long r_3), (5, .ref pl), (0, .ref gn), (1, .ref gd), (2, .long p0), (4, .int 2)]) (μ := fun a => (40 - a.1.toInt).toNat) ?_ ((0 : Int32), (0 : Int32), gR2) ⟨(by have k0 : (0 : Int32).toInt = 0 := (by decide); (try dsimp only); omega), (by have k0 : (0 : Int32).toInt = 0 := (by decide); (try dsimp only); omega), hP.sub [0, 1, 2, 3, 4, 5, 6, 7, 8, 9] rfl, hD.sub [0, 1, 2, 3, 4, 5, 6, 7, 8, 9] (by decide) rfl, hS, lv_sub hl [0, 1, 2, 3, 4, 5, 6, 7] rfl⟩
    intro a H locs ls hI ih83
    obtain ⟨f1, fd, R1⟩ := a
    obtain ⟨h_f1, h_fd, hP, hD, hS, hl⟩ := hI
    have h_f1 : 0 ≤ f1.toInt ∧ f1.toInt ≤ 40 := h_f1
    have h_fd : 0 ≤ fd.toInt ∧ fd.toInt ≤ 480 := h_fd
    have hP : va_P (dC, dI) vwCl [(gn, .inr (1, [.ref gno, .int gnl, .ref gns, .ref gnp])), (gnp, .inl (gnkp, 40, .inl P1)), (gns, .inl (gnks, 3, .inr (.inr (.inr (.inr gnS))))), (gr2, .inl (gnkr2, 480, .inl R1)), (plf, .inl (plkf, 40, .inl plF)), (plo, .inl (plko, 40, .inl plO)), (plb, .inl (plkb, 40, .inr (.inl plB))), (pla, .inl (plka, 100, .inl plA)), (gd, .inr (0, [.ref pl, .int gdl, .long gdh, .long gdw, .int gdi, .int gde, .int gdc, .ref gdt, .int gdg, .ref gdu, .int gdn, .ref gdx])), (pl, .inr (3, [.int plw, .int pld, .int plc, .int pls, .long plm, .ref plf, .ref plo, .ref plb, .ref pla]))] H := hP
    have hD : va_D A [(gn, .inr (1, [.ref gno, .int gnl, .ref gns, .ref gnp])), (gnp, .inl (gnkp, 40, .inl P1)), (gns, .inl (gnks, 3, .inr (.inr (.inr (.inr gnS))))), (gr2, .inl (gnkr2, 480, .inl R1)), (plf, .inl (plkf, 40, .inl plF)), (plo, .inl (plko, 40, .inl plO)), (plb, .inl (plkb, 40, .inr (.inl plB))), (pla, .inl (plka, 100, .inl plA)), (gd, .inr (0, [.ref pl, .int gdl, .long gdh, .long gdw, .int gdi, .int gde, .int gdc, .ref gdt, .int gdg, .ref gdu, .int gdn, .ref gdx])), (pl, .inr (3, [.int plw, .int pld, .int plc, .int pls, .long plm, .ref plf, .ref plo, .ref plb, .ref pla]))] := hD
    have hl : lv_has ls 13 [(9, .int f1), (8, .int fd), (6, .long r_3), (5, .ref pl), (0, .ref gn), (1, .ref gd), (2, .long p0), (4, .int 2)] := hl
    refine lv_iload hx hb dX1_list_83 (lv_at hl 0 rfl) ?_
    refine lv_aload hx hb dX1_list_85 (lv_at hl 3 rfl) ?_
    refine va_get (D := (dC, dI)) (ci := 3) (v := .int pls) (C := RX3) (T := TX3) (N := 9) hx hb hts in_X1_list_2_X3 hown hK hP 9 rfl rfl 3 (by decide) (hts _ wd_X1_list_2_1) (fun _ h9 => h9) rfl dX1_list_87 ?_
    refine lv_icmp_ge (tgt := 209) hx hb dX1_list_90 (by decide) (fun c_6 => ?_) (fun c_6 => ?_)
    · have c_6 : pls.toInt ≤ f1.toInt := i_le (a := pls) (b := f1) rfl rfl c_6
      refine lv_iload hx hb dX1_list_209 (lv_at hl 1 rfl) ?_
      have hP9 := hP.sub (ws' := [(gn, .inr (1, [.ref gno, .int gnl, .ref gns, .ref gnp])), (gnp, .inl (gnkp, 40, .inl P1)), (gns, .inl (gnks, 3, .inr (.inr (.inr (.inr gnS))))), (gr2, .inl (gnkr2, 480, .inl R1)), (gd, .inr (0, [.ref pl, .int gdl, .long gdh, .long gdw, .int gdi, .int gde, .int gdc, .ref gdt, .int gdg, .ref gdu, .int gdn, .ref gdx])), (pl, .inr (3, [.int plw, .int pld, .int plc, .int pls, .long plm, .ref plf, .ref plo, .ref plb, .ref pla])), (plf, .inl (plkf, 40, .inl plF)), (plo, .inl (plko, 40, .inl plO)), (plb, .inl (plkb, 40, .inr (.inl plB))), (pla, .inl (plka, 100, .inl plA))]) [0, 1, 2, 3, 8, 9, 4, 5, 6, 7] rfl
      have hD9 := hD.sub (ws' := [(gn, .inr (1, [.ref gno, .int gnl, .ref gns, .ref gnp])), (gnp, .inl (gnkp, 40, .inl P1)), (gns, .inl (gnks, 3, .inr (.inr (.inr (.inr gnS))))), (gr2, .inl (gnkr2, 480, .inl R1)), (gd, .inr (0, [.ref pl, .int gdl, .long gdh, .long gdw, .int gdi, .int gde, .int gdc, .ref gdt, .int gdg, .ref gdu, .int gdn, .ref gdx])), (pl, .inr (3, [.int plw, .int pld, .int plc, .int pls, .long plm, .ref plf, .ref plo, .ref plb, .ref pla])), (plf, .inl (plkf, 40, .inl plF)), (plo, .inl (plko, 40, .inl plO)), (plb, .inl (plkb, 40, .inr (.inl plB))), (pla, .inl (plka, 100, .inl plA))]) [0, 1, 2, 3, 8, 9, 4, 5, 6, 7] (by decide) rfl
      have hK9 := hK.sub (tys' := []) [] rfl
      refine W.widen (k := 0) (n := 0) (by omega) (by omega) ?_
      exact W.iret (v := fd) hx hb hr (fun t ht hW => ⟨⟨fd, (P1, R1), rfl, (by first | rfl | trivial | (dsimp only; omega) | omega | (left; rfl) | (right; rfl) | (dsimp only; first | (left; rfl) | (right; rfl))), by rw [ht]; exact hP9, va_K.moved hW.alike hK9, hD9⟩, hS.F ht⟩) hS.2.2 dX1_list_211
    · have c_6 : f1.toInt < pls.toInt := i_nle (a := pls) (b := f1) rfl rfl c_6
      refine lv_aload hx hb dX1_list_93 (lv_at hl 3 rfl) ?_
      refine lv_lload_n hx hb dX1_list_95 rfl (lv_at hl 6 rfl) ?_
      refine lv_iload hx hb dX1_list_96 (lv_at hl 0 rfl) ?_
      have hPc := hP.sub (ws' := [(pl, .inr (3, [.int plw, .int pld, .int plc, .int pls, .long plm, .ref plf, .ref plo, .ref plb, .ref pla])), (plb, .inl (plkb, 40, .inr (.inl plB)))]) [9, 6] rfl
      have hDc := hD.sub (ws' := [(pl, .inr (3, [.int plw, .int pld, .int plc, .int pls, .long plm, .ref plf, .ref plo, .ref plb, .ref pla])), (plb, .inl (plkb, 40, .inr (.inl plB)))]) [9, 6] (by decide) rfl
      have hKc := hK.sub (tys' := [(plkb, .long)]) [5] rfl
      have hFc := va_free (wc := [(pl, .inr (3, [.int plw, .int pld, .int plc, .int pls, .long plm, .ref plf, .ref plo, .ref plb, .ref pla])), (plb, .inl (plkb, 40, .inr (.inl plB)))]) hD hS hA [9, 6] rfl
      refine va_calli (va_runV (As := [.long p0, .int f1]) (rest := []) ⟨hx, hb, hml, hown, hts⟩ (c_X3_has l dC dI H.size pl plw pld plc pls plm plf plo plb pla plkb plB p0 f1 (by omega)) (cwV 2 hts g_X1_list_2_X3_has rfl rfl rfl (by decide +kernel) ⟨Nat.le_of_ble_eq_true rfl, Nat.le_of_ble_eq_true rfl⟩) ⟨fun a U g mk q => by obtain ⟨q0, q1, qP, qK, qD⟩ := q; exact ⟨q0, q1, qP, va_K.moved (u := U) (U := U.calling g mk a) (Vm.Alike.refl U.vm) qK, qD⟩, va_recv hKc hPc (ci := 3) (q0 := 0) rfl rfl, fun U hU hW => ⟨rfl, by rw [hU], by rw [hU]; exact hPc, va_K.moved hW.alike hKc, hDc.weaken (fun _ _ _ _ => trivial)⟩⟩ rfl rfl hl.1 rfl (lv_room (Nat.le_of_ble_eq_true rfl)) dX1_list_98 ⟨Nat.le_of_ble_eq_true rfl, Nat.le_of_ble_eq_true rfl⟩) hS (fun q _ h => hFc q h) hFc (fun r_7 u t H1 locs ht hvm hw_8 hB hz1 hk1 hS => ?_)
      obtain ⟨hP1, hK1, hD1⟩ := hB
      have hP1 : va_P (dC, dI) vwCl [(pl, .inr (3, [.int plw, .int pld, .int plc, .int pls, .long plm, .ref plf, .ref plo, .ref plb, .ref pla])), (plb, .inl (plkb, 40, .inr (.inl plB)))] t.heap := hP1
      rw [ht] at hP1
      try dsimp only at hw_8
      obtain ⟨hP, hD⟩ := va_join (wr := [(gn, .inr (1, [.ref gno, .int gnl, .ref gns, .ref gnp])), (gnp, .inl (gnkp, 40, .inl P1)), (gns, .inl (gnks, 3, .inr (.inr (.inr (.inr gnS))))), (gr2, .inl (gnkr2, 480, .inl R1)), (plf, .inl (plkf, 40, .inl plF)), (plo, .inl (plko, 40, .inl plO)), (pla, .inl (plka, 100, .inl plA)), (gd, .inr (0, [.ref pl, .int gdl, .long gdh, .long gdw, .int gdi, .int gde, .int gdc, .ref gdt, .int gdg, .ref gdu, .int gdn, .ref gdx]))]) (w1 := [(pl, .inr (3, [.int plw, .int pld, .int plc, .int pls, .long plm, .ref plf, .ref plo, .ref plb, .ref pla])), (plb, .inl (plkb, 40, .inr (.inl plB)))]) hP hD [9, 6] [0, 1, 2, 3, 4, 5, 7, 8] rfl rfl (by decide) (by decide) hk1 hFc hP1 hD1
      generalize H1 = H at hP hS ⊢
      have hP : va_P (dC, dI) vwCl [(gn, .inr (1, [.ref gno, .int gnl, .ref gns, .ref gnp])), (gnp, .inl (gnkp, 40, .inl P1)), (gns, .inl (gnks, 3, .inr (.inr (.inr (.inr gnS))))), (gr2, .inl (gnkr2, 480, .inl R1)), (plf, .inl (plkf, 40, .inl plF)), (plo, .inl (plko, 40, .inl plO)), (pla, .inl (plka, 100, .inl plA)), (gd, .inr (0, [.ref pl, .int gdl, .long gdh, .long gdw, .int gdi, .int gde, .int gdc, .ref gdt, .int gdg, .ref gdu, .int gdn, .ref gdx])), (pl, .inr (3, [.int plw, .int pld, .int plc, .int pls, .long plm, .ref plf, .ref plo, .ref plb, .ref pla])), (plb, .inl (plkb, 40, .inr (.inl plB)))] H := hP
      have hD : va_D A [(gn, .inr (1, [.ref gno, .int gnl, .ref gns, .ref gnp])), (gnp, .inl (gnkp, 40, .inl P1)), (gns, .inl (gnks, 3, .inr (.inr (.inr (.inr gnS))))), (gr2, .inl (gnkr2, 480, .inl R1)), (plf, .inl (plkf, 40, .inl plF)), (plo, .inl (plko, 40, .inl plO)), (pla, .inl (plka, 100, .inl plA)), (gd, .inr (0, [.ref pl, .int gdl, .long gdh, .long gdw, .int gdi, .int gde, .int gdc, .ref gdt, .int gdg, .ref gdu, .int gdn, .ref gdx])), (pl, .inr (3, [.int plw, .int pld, .int plc, .int pls, .long plm, .ref plf, .ref plo, .ref plb, .ref pla])), (plb, .inl (plkb, 40, .inr (.inl plB)))] := hD
      refine lv_if_eq (tgt := 116) hx hb dX1_list_101 (by decide) (fun c_9 => ?_) (fun c_9 => ?_)
      · have c_9 : r_7.toInt = 0 := i_eq (a := r_7) (b := 0) rfl (by decide) c_9
        refine lv_lconst (v := 0) hx hb dX1_list_116 (by decide) ?_
        refine lv_lstore (lv' := [(10, .long 0), (9, .int f1), (8, .int fd), (6, .long r_3), (5, .ref pl), (0, .ref gn), (1, .ref gd), (2, .long p0), (4, .int 2)]) hx hb dX1_list_117 hl (by decide) rfl (fun ls hl => ?_)
        refine lv_iconst (v := 0) hx hb dX1_list_119 (by decide) ?_
        refine lv_istore (lv' := [(12, .int 0), (10, .long 0), (9, .int f1), (8, .int fd), (6, .long r_3), (5, .ref pl), (0, .ref gn), (1, .ref gd), (2, .long p0), (4, .int 2)]) hx hb dX1_list_120 hl (by decide) rfl (fun ls hl => ?_)
        refine lp_W (I := fun (a : Int32 × Int32 × (Nat → Int32)) H locs ls => (0 ≤ a.1.toInt ∧ a.1.toInt ≤ 40) ∧ (0 ≤ a.2.1.toInt ∧ a.2.1.toInt ≤ 480) ∧ va_P (dC, dI) vwCl [(gn, .inr (1, [.ref gno, .int gnl, .ref gns, .ref gnp])), (gnp, .inl (gnkp, 40, .inl P1)), (gns, .inl (gnks, 3, .inr (.inr (.inr (.inr gnS))))), (gr2, .inl (gnkr2, 480, .inl a.2.2)), (plf, .inl (plkf, 40, .inl plF)), (plo, .inl (plko, 40, .inl plO)), (pla, .inl (plka, 100, .inl plA)), (gd, .inr (0, [.ref pl, .int gdl, .long gdh, .long gdw, .int gdi, .int gde, .int gdc, .ref gdt, .int gdg, .ref gdu, .int gdn, .ref gdx])), (pl, .inr (3, [.int plw, .int pld, .int plc, .int pls, .long plm, .ref plf, .ref plo, .ref plb, .ref pla])), (plb, .inl (plkb, 40, .inr (.inl plB)))] H ∧ va_D A [(gn, .inr (1, [.ref gno, .int gnl, .ref gns, .ref gnp])), (gnp, .inl (gnkp, 40, .inl P1)), (gns, .inl (gnks, 3, .inr (.inr (.inr (.inr gnS))))), (gr2, .inl (gnkr2, 480, .inl a.2.2)), (plf, .inl (plkf, 40, .inl plF)), (plo, .inl (plko, 40, .inl plO)), (pla, .inl (plka, 100, .inl plA)), (gd, .inr (0, [.ref pl, .int gdl, .long gdh, .long gdw, .int gdi, .int gde, .int gdc, .ref gdt, .int gdg, .ref gdu, .int gdn, .ref gdx])), (pl, .inr (3, [.int plw, .int pld, .int plc, .int pls, .long plm, .ref plf, .ref plo, .ref plb, .ref pla])), (plb, .inl (plkb, 40, .inr (.inl plB)))] ∧ va_S A s.heap H locs ∧ lv_has ls 13 [(12, .int a.1), (10, .long 0), (9, .int f1), (8, .int a.2.1), (6, .long r_3), (5, .ref pl), (0, .ref gn), (1, .ref gd), (2, .long p0), (4, .int 2)]) (μ := fun a => (40 - a.1.toInt).toNat) ?_ ((0 : Int32), fd, R1) ⟨(by have k0 : (0 : Int32).toInt = 0 := (by decide); (try dsimp only); omega), (by have k0 : (0 : Int32).toInt = 0 := (by decide); (try dsimp only); omega), hP.sub [0, 1, 2, 3, 4, 5, 6, 7, 8, 9] rfl, hD.sub [0, 1, 2, 3, 4, 5, 6, 7, 8, 9] (by decide) rfl, hS, lv_sub hl [0, 1, 2, 3, 4, 5, 6, 7, 8, 9] rfl⟩
        intro a H locs ls hI ih122
        obtain ⟨t2, fe, R2⟩ := a
        obtain ⟨h_t2, h_fe, hP, hD, hS, hl⟩ := hI
        have h_t2 : 0 ≤ t2.toInt ∧ t2.toInt ≤ 40 := h_t2
        have h_fe : 0 ≤ fe.toInt ∧ fe.toInt ≤ 480 := h_fe
        have hP : va_P (dC, dI) vwCl [(gn, .inr (1, [.ref gno, .int gnl, .ref gns, .ref gnp])), (gnp, .inl (gnkp, 40, .inl P1)), (gns, .inl (gnks, 3, .inr (.inr (.inr (.inr gnS))))), (gr2, .inl (gnkr2, 480, .inl R2)), (plf, .inl (plkf, 40, .inl plF)), (plo, .inl (plko, 40, .inl plO)), (pla, .inl (plka, 100, .inl plA)), (gd, .inr (0, [.ref pl, .int gdl, .long gdh, .long gdw, .int gdi, .int gde, .int gdc, .ref gdt, .int gdg, .ref gdu, .int gdn, .ref gdx])), (pl, .inr (3, [.int plw, .int pld, .int plc, .int pls, .long plm, .ref plf, .ref plo, .ref plb, .ref pla])), (plb, .inl (plkb, 40, .inr (.inl plB)))] H := hP
        have hD : va_D A [(gn, .inr (1, [.ref gno, .int gnl, .ref gns, .ref gnp])), (gnp, .inl (gnkp, 40, .inl P1)), (gns, .inl (gnks, 3, .inr (.inr (.inr (.inr gnS))))), (gr2, .inl (gnkr2, 480, .inl R2)), (plf, .inl (plkf, 40, .inl plF)), (plo, .inl (plko, 40, .inl plO)), (pla, .inl (plka, 100, .inl plA)), (gd, .inr (0, [.ref pl, .int gdl, .long gdh, .long gdw, .int gdi, .int gde, .int gdc, .ref gdt, .int gdg, .ref gdu, .int gdn, .ref gdx])), (pl, .inr (3, [.int plw, .int pld, .int plc, .int pls, .long plm, .ref plf, .ref plo, .ref plb, .ref pla])), (plb, .inl (plkb, 40, .inr (.inl plB)))] := hD
        have hl : lv_has ls 13 [(12, .int t2), (10, .long 0), (9, .int f1), (8, .int fe), (6, .long r_3), (5, .ref pl), (0, .ref gn), (1, .ref gd), (2, .long p0), (4, .int 2)] := hl
        refine lv_iload hx hb dX1_list_122 (lv_at hl 0 rfl) ?_
        refine lv_aload hx hb dX1_list_124 (lv_at hl 5 rfl) ?_
        refine va_get (D := (dC, dI)) (ci := 3) (v := .int pls) (C := RX3) (T := TX3) (N := 9) hx hb hts in_X1_list_2_X3 hown hK hP 8 rfl rfl 3 (by decide) (hts _ wd_X1_list_2_1) (fun _ h9 => h9) rfl dX1_list_126 ?_
        refine lv_icmp_ge (tgt := 203) hx hb dX1_list_129 (by decide) (fun c_10 => ?_) (fun c_10 => ?_)
        · have c_10 : pls.toInt ≤ t2.toInt := i_le (a := pls) (b := t2) rfl rfl c_10
          obtain ⟨x_11, ex_11⟩ : ∃ y9 : Int32, y9 = f1 + Int32.ofInt 1 := ⟨_, rfl⟩
          have zx_11 : x_11.toInt = f1.toInt + 1 := by rw [ex_11]; exact i_add rfl (show (Int32.ofInt 1).toInt = 1 by decide) (by omega) (by omega)
          refine lv_iinc (v := x_11) (lv' := [(9, .int x_11), (12, .int t2), (10, .long 0), (8, .int fe), (6, .long r_3), (5, .ref pl), (0, .ref gn), (1, .ref gd), (2, .long p0), (4, .int 2)]) hx hb dX1_list_203 hl (k := 2) rfl (by rw [ex_11]) (by decide) rfl (fun ls hl => ?_)
          refine lv_goto (tgt := 83) hx hb dX1_list_206 (by decide) ?_
          exact ih83 (x_11, fe, R2) _ _ _ ⟨(by (try dsimp only); omega), (by (try dsimp only); omega), hP.sub [0, 1, 2, 3, 4, 5, 9, 6, 7, 8] rfl, hD.sub [0, 1, 2, 3, 4, 5, 9, 6, 7, 8] (by decide) rfl, hS, lv_sub hl [0, 3, 4, 5, 6, 7, 8, 9] rfl⟩ (by (try dsimp only); omega)
        · have c_10 : t2.toInt < pls.toInt := i_nle (a := pls) (b := t2) rfl rfl c_10
          refine lv_lload hx hb dX1_list_132 (lv_at hl 1 rfl) ?_
          refine lv_lconst (v := 0) hx hb dX1_list_134 (by decide) ?_
          refine W.lcmp hx hb dX1_list_135 ?_
          refine lv_if_eq (tgt := 203) hx hb dX1_list_136 (by decide) (fun _ => ?_) (fun h => absurd (by decide) h)
          obtain ⟨x_13, ex_13⟩ : ∃ y9 : Int32, y9 = f1 + Int32.ofInt 1 := ⟨_, rfl⟩
          have zx_13 : x_13.toInt = f1.toInt + 1 := by rw [ex_13]; exact i_add rfl (show (Int32.ofInt 1).toInt = 1 by decide) (by omega) (by omega)
          refine lv_iinc (v := x_13) (lv' := [(9, .int x_13), (12, .int t2), (10, .long 0), (8, .int fe), (6, .long r_3), (5, .ref pl), (0, .ref gn), (1, .ref gd), (2, .long p0), (4, .int 2)]) hx hb dX1_list_203 hl (k := 2) rfl (by rw [ex_13]) (by decide) rfl (fun ls hl => ?_)
          refine lv_goto (tgt := 83) hx hb dX1_list_206 (by decide) ?_
          exact ih83 (x_13, fe, R2) _ _ _ ⟨(by (try dsimp only); omega), (by (try dsimp only); omega), hP.sub [0, 1, 2, 3, 4, 5, 9, 6, 7, 8] rfl, hD.sub [0, 1, 2, 3, 4, 5, 9, 6, 7, 8] (by decide) rfl, hS, lv_sub hl [0, 3, 4, 5, 6, 7, 8, 9] rfl⟩ (by (try dsimp only); omega)
      · have c_9 : r_7.toInt ≠ 0 := i_ne (a := r_7) (b := 0) rfl (by decide) c_9
        refine lv_lload hx hb dX1_list_104 (lv_at hl 2 rfl) ?_
        refine lv_aload_n hx hb dX1_list_106 rfl (lv_at hl 5 rfl) ?_
        refine lv_iload hx hb dX1_list_107 (lv_at hl 0 rfl) ?_
        have hPc := hP.sub (ws' := [(gd, .inr (0, [.ref pl, .int gdl, .long gdh, .long gdw, .int gdi, .int gde, .int gdc, .ref gdt, .int gdg, .ref gdu, .int gdn, .ref gdx])), (pl, .inr (3, [.int plw, .int pld, .int plc, .int pls, .long plm, .ref plf, .ref plo, .ref plb, .ref pla])), (plf, .inl (plkf, 40, .inl plF)), (plo, .inl (plko, 40, .inl plO)), (plb, .inl (plkb, 40, .inr (.inl plB))), (pla, .inl (plka, 100, .inl plA))]) [7, 8, 4, 5, 9, 6] rfl
        have hDc := hD.sub (ws' := [(gd, .inr (0, [.ref pl, .int gdl, .long gdh, .long gdw, .int gdi, .int gde, .int gdc, .ref gdt, .int gdg, .ref gdu, .int gdn, .ref gdx])), (pl, .inr (3, [.int plw, .int pld, .int plc, .int pls, .long plm, .ref plf, .ref plo, .ref plb, .ref pla])), (plf, .inl (plkf, 40, .inl plF)), (plo, .inl (plko, 40, .inl plO)), (plb, .inl (plkb, 40, .inr (.inl plB))), (pla, .inl (plka, 100, .inl plA))]) [7, 8, 4, 5, 9, 6] (by decide) rfl
        have hKc := hK.sub (tys' := [(plkf, .int), (plko, .int), (plkb, .long), (plka, .int)]) [3, 4, 5, 6] rfl
        have hFc := va_free (wc := [(gd, .inr (0, [.ref pl, .int gdl, .long gdh, .long gdw, .int gdi, .int gde, .int gdc, .ref gdt, .int gdg, .ref gdu, .int gdn, .ref gdx])), (pl, .inr (3, [.int plw, .int pld, .int plc, .int pls, .long plm, .ref plf, .ref plo, .ref plb, .ref pla])), (plf, .inl (plkf, 40, .inl plF)), (plo, .inl (plko, 40, .inl plO)), (plb, .inl (plkb, 40, .inr (.inl plB))), (pla, .inl (plka, 100, .inl plA))]) hD hS hA [7, 8, 4, 5, 9, 6] rfl
        refine va_calll (va_runV (As := [.int f1]) (rest := [.long r_3]) ⟨hx, hb, hml, hown, hts⟩ (c_X0_sidesByLaw l dC dI H.size gd gdl gdh gdw gdi gde gdc gdt gdg gdu gdn gdx pl plw pld plc pls plm plf plo plb pla plkf plF plko plO plkb plB plka plA f1 (by omega) hR_plf hR_plo) (cwV 1 hts g_X1_list_2_X0_sidesByLaw rfl rfl rfl (by decide +kernel) ⟨Nat.le_of_ble_eq_true rfl, Nat.le_of_ble_eq_true rfl⟩) ⟨fun a U g mk q => by obtain ⟨q0, q1, qP, qK, qD⟩ := q; exact ⟨q0, q1, qP, va_K.moved (u := U) (U := U.calling g mk a) (Vm.Alike.refl U.vm) qK, qD⟩, va_recv hKc hPc (ci := 0) (q0 := 0) rfl rfl, fun U hU hW => ⟨rfl, by rw [hU], by rw [hU]; exact hPc, va_K.moved hW.alike hKc, hDc.weaken (fun _ _ _ _ => trivial)⟩⟩ rfl rfl hl.1 rfl (lv_room (Nat.le_of_ble_eq_true rfl)) dX1_list_109 ⟨Nat.le_of_ble_eq_true rfl, Nat.le_of_ble_eq_true rfl⟩) hS (fun q _ h => hFc q h) hFc (fun r_14 u t H1 locs ht hvm hw_15 hB hz1 hk1 hS => ?_)
        obtain ⟨hP1, hK1, hD1⟩ := hB
        have hP1 : va_P (dC, dI) vwCl [(gd, .inr (0, [.ref pl, .int gdl, .long gdh, .long gdw, .int gdi, .int gde, .int gdc, .ref gdt, .int gdg, .ref gdu, .int gdn, .ref gdx])), (pl, .inr (3, [.int plw, .int pld, .int plc, .int pls, .long plm, .ref plf, .ref plo, .ref plb, .ref pla])), (plf, .inl (plkf, 40, .inl plF)), (plo, .inl (plko, 40, .inl plO)), (plb, .inl (plkb, 40, .inr (.inl plB))), (pla, .inl (plka, 100, .inl plA))] t.heap := hP1
        rw [ht] at hP1
        try dsimp only at hw_15
        obtain ⟨hP, hD⟩ := va_join (wr := [(gn, .inr (1, [.ref gno, .int gnl, .ref gns, .ref gnp])), (gnp, .inl (gnkp, 40, .inl P1)), (gns, .inl (gnks, 3, .inr (.inr (.inr (.inr gnS))))), (gr2, .inl (gnkr2, 480, .inl R1))]) (w1 := [(gd, .inr (0, [.ref pl, .int gdl, .long gdh, .long gdw, .int gdi, .int gde, .int gdc, .ref gdt, .int gdg, .ref gdu, .int gdn, .ref gdx])), (pl, .inr (3, [.int plw, .int pld, .int plc, .int pls, .long plm, .ref plf, .ref plo, .ref plb, .ref pla])), (plf, .inl (plkf, 40, .inl plF)), (plo, .inl (plko, 40, .inl plO)), (plb, .inl (plkb, 40, .inr (.inl plB))), (pla, .inl (plka, 100, .inl plA))]) hP hD [7, 8, 4, 5, 9, 6] [0, 1, 2, 3] rfl rfl (by decide) (by decide) hk1 hFc hP1 hD1
        generalize H1 = H at hP hS ⊢
        have hP : va_P (dC, dI) vwCl [(gn, .inr (1, [.ref gno, .int gnl, .ref gns, .ref gnp])), (gnp, .inl (gnkp, 40, .inl P1)), (gns, .inl (gnks, 3, .inr (.inr (.inr (.inr gnS))))), (gr2, .inl (gnkr2, 480, .inl R1)), (gd, .inr (0, [.ref pl, .int gdl, .long gdh, .long gdw, .int gdi, .int gde, .int gdc, .ref gdt, .int gdg, .ref gdu, .int gdn, .ref gdx])), (pl, .inr (3, [.int plw, .int pld, .int plc, .int pls, .long plm, .ref plf, .ref plo, .ref plb, .ref pla])), (plf, .inl (plkf, 40, .inl plF)), (plo, .inl (plko, 40, .inl plO)), (plb, .inl (plkb, 40, .inr (.inl plB))), (pla, .inl (plka, 100, .inl plA))] H := hP
        have hD : va_D A [(gn, .inr (1, [.ref gno, .int gnl, .ref gns, .ref gnp])), (gnp, .inl (gnkp, 40, .inl P1)), (gns, .inl (gnks, 3, .inr (.inr (.inr (.inr gnS))))), (gr2, .inl (gnkr2, 480, .inl R1)), (gd, .inr (0, [.ref pl, .int gdl, .long gdh, .long gdw, .int gdi, .int gde, .int gdc, .ref gdt, .int gdg, .ref gdu, .int gdn, .ref gdx])), (pl, .inr (3, [.int plw, .int pld, .int plc, .int pls, .long plm, .ref plf, .ref plo, .ref plb, .ref pla])), (plf, .inl (plkf, 40, .inl plF)), (plo, .inl (plko, 40, .inl plO)), (plb, .inl (plkb, 40, .inr (.inl plB))), (pla, .inl (plka, 100, .inl plA))] := hD
        refine lv_land hx hb dX1_list_112 ?_
        refine lv_topl (fun y_16 ey_16 => ?_)
        refine lv_goto (tgt := 117) hx hb dX1_list_113 (by decide) ?_
        refine lv_lstore (lv' := [(10, .long y_16), (9, .int f1), (8, .int fd), (6, .long r_3), (5, .ref pl), (0, .ref gn), (1, .ref gd), (2, .long p0), (4, .int 2)]) hx hb dX1_list_117 hl (by decide) rfl (fun ls hl => ?_)
        refine lv_iconst (v := 0) hx hb dX1_list_119 (by decide) ?_
        refine lv_istore (lv' := [(12, .int 0), (10, .long y_16), (9, .int f1), (8, .int fd), (6, .long r_3), (5, .ref pl), (0, .ref gn), (1, .ref gd), (2, .long p0), (4, .int 2)]) hx hb dX1_list_120 hl (by decide) rfl (fun ls hl => ?_)
        refine lp_W (I := fun (a : Int32 × Int32 × (Nat → Int32)) H locs ls => (0 ≤ a.1.toInt ∧ a.1.toInt ≤ 40) ∧ (0 ≤ a.2.1.toInt ∧ a.2.1.toInt ≤ 480) ∧ va_P (dC, dI) vwCl [(gn, .inr (1, [.ref gno, .int gnl, .ref gns, .ref gnp])), (gnp, .inl (gnkp, 40, .inl P1)), (gns, .inl (gnks, 3, .inr (.inr (.inr (.inr gnS))))), (gr2, .inl (gnkr2, 480, .inl a.2.2)), (gd, .inr (0, [.ref pl, .int gdl, .long gdh, .long gdw, .int gdi, .int gde, .int gdc, .ref gdt, .int gdg, .ref gdu, .int gdn, .ref gdx])), (pl, .inr (3, [.int plw, .int pld, .int plc, .int pls, .long plm, .ref plf, .ref plo, .ref plb, .ref pla])), (plf, .inl (plkf, 40, .inl plF)), (plo, .inl (plko, 40, .inl plO)), (plb, .inl (plkb, 40, .inr (.inl plB))), (pla, .inl (plka, 100, .inl plA))] H ∧ va_D A [(gn, .inr (1, [.ref gno, .int gnl, .ref gns, .ref gnp])), (gnp, .inl (gnkp, 40, .inl P1)), (gns, .inl (gnks, 3, .inr (.inr (.inr (.inr gnS))))), (gr2, .inl (gnkr2, 480, .inl a.2.2)), (gd, .inr (0, [.ref pl, .int gdl, .long gdh, .long gdw, .int gdi, .int gde, .int gdc, .ref gdt, .int gdg, .ref gdu, .int gdn, .ref gdx])), (pl, .inr (3, [.int plw, .int pld, .int plc, .int pls, .long plm, .ref plf, .ref plo, .ref plb, .ref pla])), (plf, .inl (plkf, 40, .inl plF)), (plo, .inl (plko, 40, .inl plO)), (plb, .inl (plkb, 40, .inr (.inl plB))), (pla, .inl (plka, 100, .inl plA))] ∧ va_S A s.heap H locs ∧ lv_has ls 13 [(12, .int a.1), (10, .long y_16), (9, .int f1), (8, .int a.2.1), (6, .long r_3), (5, .ref pl), (0, .ref gn), (1, .ref gd), (2, .long p0), (4, .int 2)]) (μ := fun a => (40 - a.1.toInt).toNat) ?_ ((0 : Int32), fd, R1) ⟨(by have k0 : (0 : Int32).toInt = 0 := (by decide); (try dsimp only); omega), (by have k0 : (0 : Int32).toInt = 0 := (by decide); (try dsimp only); omega), hP.sub [0, 1, 2, 3, 4, 5, 6, 7, 8, 9] rfl, hD.sub [0, 1, 2, 3, 4, 5, 6, 7, 8, 9] (by decide) rfl, hS, lv_sub hl [0, 1, 2, 3, 4, 5, 6, 7, 8, 9] rfl⟩
        intro a H locs ls hI ih122
        obtain ⟨t2, fe, R2⟩ := a
        obtain ⟨h_t2, h_fe, hP, hD, hS, hl⟩ := hI
        have h_t2 : 0 ≤ t2.toInt ∧ t2.toInt ≤ 40 := h_t2
        have h_fe : 0 ≤ fe.toInt ∧ fe.toInt ≤ 480 := h_fe
        have hP : va_P (dC, dI) vwCl [(gn, .inr (1, [.ref gno, .int gnl, .ref gns, .ref gnp])), (gnp, .inl (gnkp, 40, .inl P1)), (gns, .inl (gnks, 3, .inr (.inr (.inr (.inr gnS))))), (gr2, .inl (gnkr2, 480, .inl R2)), (gd, .inr (0, [.ref pl, .int gdl, .long gdh, .long gdw, .int gdi, .int gde, .int gdc, .ref gdt, .int gdg, .ref gdu, .int gdn, .ref gdx])), (pl, .inr (3, [.int plw, .int pld, .int plc, .int pls, .long plm, .ref plf, .ref plo, .ref plb, .ref pla])), (plf, .inl (plkf, 40, .inl plF)), (plo, .inl (plko, 40, .inl plO)), (plb, .inl (plkb, 40, .inr (.inl plB))), (pla, .inl (plka, 100, .inl plA))] H := hP
        have hD : va_D A [(gn, .inr (1, [.ref gno, .int gnl, .ref gns, .ref gnp])), (gnp, .inl (gnkp, 40, .inl P1)), (gns, .inl (gnks, 3, .inr (.inr (.inr (.inr gnS))))), (gr2, .inl (gnkr2, 480, .inl R2)), (gd, .inr (0, [.ref pl, .int gdl, .long gdh, .long gdw, .int gdi, .int gde, .int gdc, .ref gdt, .int gdg, .ref gdu, .int gdn, .ref gdx])), (pl, .inr (3, [.int plw, .int pld, .int plc, .int pls, .long plm, .ref plf, .ref plo, .ref plb, .ref pla])), (plf, .inl (plkf, 40, .inl plF)), (plo, .inl (plko, 40, .inl plO)), (plb, .inl (plkb, 40, .inr (.inl plB))), (pla, .inl (plka, 100, .inl plA))] := hD
        have hl : lv_has ls 13 [(12, .int t2), (10, .long y_16), (9, .int f1), (8, .int fe), (6, .long r_3), (5, .ref pl), (0, .ref gn), (1, .ref gd), (2, .long p0), (4, .int 2)] := hl
        refine lv_iload hx hb dX1_list_122 (lv_at hl 0 rfl) ?_
        refine lv_aload hx hb dX1_list_124 (lv_at hl 5 rfl) ?_
        refine va_get (D := (dC, dI)) (ci := 3) (v := .int pls) (C := RX3) (T := TX3) (N := 9) hx hb hts in_X1_list_2_X3 hown hK hP 5 rfl rfl 3 (by decide) (hts _ wd_X1_list_2_1) (fun _ h9 => h9) rfl dX1_list_126 ?_
        refine lv_icmp_ge (tgt := 203) hx hb dX1_list_129 (by decide) (fun c_17 => ?_) (fun c_17 => ?_)
        · have c_17 : pls.toInt ≤ t2.toInt := i_le (a := pls) (b := t2) rfl rfl c_17
          obtain ⟨x_18, ex_18⟩ : ∃ y9 : Int32, y9 = f1 + Int32.ofInt 1 := ⟨_, rfl⟩
          have zx_18 : x_18.toInt = f1.toInt + 1 := by rw [ex_18]; exact i_add rfl (show (Int32.ofInt 1).toInt = 1 by decide) (by omega) (by omega)
          refine lv_iinc (v := x_18) (lv' := [(9, .int x_18), (12, .int t2), (10, .long y_16), (8, .int fe), (6, .long r_3), (5, .ref pl), (0, .ref gn), (1, .ref gd), (2, .long p0), (4, .int 2)]) hx hb dX1_list_203 hl (k := 2) rfl (by rw [ex_18]) (by decide) rfl (fun ls hl => ?_)
          refine lv_goto (tgt := 83) hx hb dX1_list_206 (by decide) ?_
          exact ih83 (x_18, fe, R2) _ _ _ ⟨(by (try dsimp only); omega), (by (try dsimp only); omega), hP.sub [0, 1, 2, 3, 6, 7, 8, 9, 4, 5] rfl, hD.sub [0, 1, 2, 3, 6, 7, 8, 9, 4, 5] (by decide) rfl, hS, lv_sub hl [0, 3, 4, 5, 6, 7, 8, 9] rfl⟩ (by (try dsimp only); omega)
        · have c_17 : t2.toInt < pls.toInt := i_nle (a := pls) (b := t2) rfl rfl c_17
          refine lv_lload hx hb dX1_list_132 (lv_at hl 1 rfl) ?_
          refine lv_lconst (v := 0) hx hb dX1_list_134 (by decide) ?_
          refine W.lcmp hx hb dX1_list_135 ?_
          refine lv_if_eq (tgt := 203) hx hb dX1_list_136 (by decide) (fun c_19 => ?_) (fun c_19 => ?_)
          · have c_19 := (lg_cmp_eq y_16 0).mp c_19
            have c_19 : y_16.toInt = 0 := i_eqL (a := y_16) (b := 0) rfl (by decide) c_19
            obtain ⟨x_20, ex_20⟩ : ∃ y9 : Int32, y9 = f1 + Int32.ofInt 1 := ⟨_, rfl⟩
            have zx_20 : x_20.toInt = f1.toInt + 1 := by rw [ex_20]; exact i_add rfl (show (Int32.ofInt 1).toInt = 1 by decide) (by omega) (by omega)
            refine lv_iinc (v := x_20) (lv' := [(9, .int x_20), (12, .int t2), (10, .long y_16), (8, .int fe), (6, .long r_3), (5, .ref pl), (0, .ref gn), (1, .ref gd), (2, .long p0), (4, .int 2)]) hx hb dX1_list_203 hl (k := 2) rfl (by rw [ex_20]) (by decide) rfl (fun ls hl => ?_)
            refine lv_goto (tgt := 83) hx hb dX1_list_206 (by decide) ?_
            exact ih83 (x_20, fe, R2) _ _ _ ⟨(by (try dsimp only); omega), (by (try dsimp only); omega), hP.sub [0, 1, 2, 3, 6, 7, 8, 9, 4, 5] rfl, hD.sub [0, 1, 2, 3, 6, 7, 8, 9, 4, 5] (by decide) rfl, hS, lv_sub hl [0, 3, 4, 5, 6, 7, 8, 9] rfl⟩ (by (try dsimp only); omega)
          · have c_19 := fun h => c_19 ((lg_cmp_eq y_16 0).mpr h)
            have c_19 : y_16.toInt ≠ 0 := i_neL (a := y_16) (b := 0) rfl (by decide) c_19
            refine lv_aload hx hb dX1_list_139 (lv_at hl 5 rfl) ?_
            refine lv_lload hx hb dX1_list_141 (lv_at hl 1 rfl) ?_
            refine lv_iload hx hb dX1_list_143 (lv_at hl 0 rfl) ?_
            have hPc := hP.sub (ws' := [(pl, .inr (3, [.int plw, .int pld, .int plc, .int pls, .long plm, .ref plf, .ref plo, .ref plb, .ref pla])), (plb, .inl (plkb, 40, .inr (.inl plB)))]) [5, 8] rfl
            have hDc := hD.sub (ws' := [(pl, .inr (3, [.int plw, .int pld, .int plc, .int pls, .long plm, .ref plf, .ref plo, .ref plb, .ref pla])), (plb, .inl (plkb, 40, .inr (.inl plB)))]) [5, 8] (by decide) rfl
            have hKc := hK.sub (tys' := [(plkb, .long)]) [5] rfl
            have hFc := va_free (wc := [(pl, .inr (3, [.int plw, .int pld, .int plc, .int pls, .long plm, .ref plf, .ref plo, .ref plb, .ref pla])), (plb, .inl (plkb, 40, .inr (.inl plB)))]) hD hS hA [5, 8] rfl
            refine va_calli (va_runV (As := [.long y_16, .int t2]) (rest := []) ⟨hx, hb, hml, hown, hts⟩ (c_X3_has l dC dI H.size pl plw pld plc pls plm plf plo plb pla plkb plB y_16 t2 (by omega)) (cwV 2 hts g_X1_list_2_X3_has rfl rfl rfl (by decide +kernel) ⟨Nat.le_of_ble_eq_true rfl, Nat.le_of_ble_eq_true rfl⟩) ⟨fun a U g mk q => by obtain ⟨q0, q1, qP, qK, qD⟩ := q; exact ⟨q0, q1, qP, va_K.moved (u := U) (U := U.calling g mk a) (Vm.Alike.refl U.vm) qK, qD⟩, va_recv hKc hPc (ci := 3) (q0 := 0) rfl rfl, fun U hU hW => ⟨rfl, by rw [hU], by rw [hU]; exact hPc, va_K.moved hW.alike hKc, hDc.weaken (fun _ _ _ _ => trivial)⟩⟩ rfl rfl hl.1 rfl (lv_room (Nat.le_of_ble_eq_true rfl)) dX1_list_145 ⟨Nat.le_of_ble_eq_true rfl, Nat.le_of_ble_eq_true rfl⟩) hS (fun q _ h => hFc q h) hFc (fun r_21 u t H1 locs ht hvm hw_22 hB hz1 hk1 hS => ?_)
            obtain ⟨hP1, hK1, hD1⟩ := hB
            have hP1 : va_P (dC, dI) vwCl [(pl, .inr (3, [.int plw, .int pld, .int plc, .int pls, .long plm, .ref plf, .ref plo, .ref plb, .ref pla])), (plb, .inl (plkb, 40, .inr (.inl plB)))] t.heap := hP1
            rw [ht] at hP1
            try dsimp only at hw_22
            obtain ⟨hP, hD⟩ := va_join (wr := [(gn, .inr (1, [.ref gno, .int gnl, .ref gns, .ref gnp])), (gnp, .inl (gnkp, 40, .inl P1)), (gns, .inl (gnks, 3, .inr (.inr (.inr (.inr gnS))))), (gr2, .inl (gnkr2, 480, .inl R2)), (gd, .inr (0, [.ref pl, .int gdl, .long gdh, .long gdw, .int gdi, .int gde, .int gdc, .ref gdt, .int gdg, .ref gdu, .int gdn, .ref gdx])), (plf, .inl (plkf, 40, .inl plF)), (plo, .inl (plko, 40, .inl plO)), (pla, .inl (plka, 100, .inl plA))]) (w1 := [(pl, .inr (3, [.int plw, .int pld, .int plc, .int pls, .long plm, .ref plf, .ref plo, .ref plb, .ref pla])), (plb, .inl (plkb, 40, .inr (.inl plB)))]) hP hD [5, 8] [0, 1, 2, 3, 4, 6, 7, 9] rfl rfl (by decide) (by decide) hk1 hFc hP1 hD1
            generalize H1 = H at hP hS ⊢
            have hP : va_P (dC, dI) vwCl [(gn, .inr (1, [.ref gno, .int gnl, .ref gns, .ref gnp])), (gnp, .inl (gnkp, 40, .inl P1)), (gns, .inl (gnks, 3, .inr (.inr (.inr (.inr gnS))))), (gr2, .inl (gnkr2, 480, .inl R2)), (gd, .inr (0, [.ref pl, .int gdl, .long gdh, .long gdw, .int gdi, .int gde, .int gdc, .ref gdt, .int gdg, .ref gdu, .int gdn, .ref gdx])), (plf, .inl (plkf, 40, .inl plF)), (plo, .inl (plko, 40, .inl plO)), (pla, .inl (plka, 100, .inl plA)), (pl, .inr (3, [.int plw, .int pld, .int plc, .int pls, .long plm, .ref plf, .ref plo, .ref plb, .ref pla])), (plb, .inl (plkb, 40, .inr (.inl plB)))] H := hP
            have hD : va_D A [(gn, .inr (1, [.ref gno, .int gnl, .ref gns, .ref gnp])), (gnp, .inl (gnkp, 40, .inl P1)), (gns, .inl (gnks, 3, .inr (.inr (.inr (.inr gnS))))), (gr2, .inl (gnkr2, 480, .inl R2)), (gd, .inr (0, [.ref pl, .int gdl, .long gdh, .long gdw, .int gdi, .int gde, .int gdc, .ref gdt, .int gdg, .ref gdu, .int gdn, .ref gdx])), (plf, .inl (plkf, 40, .inl plF)), (plo, .inl (plko, 40, .inl plO)), (pla, .inl (plka, 100, .inl plA)), (pl, .inr (3, [.int plw, .int pld, .int plc, .int pls, .long plm, .ref plf, .ref plo, .ref plb, .ref pla])), (plb, .inl (plkb, 40, .inr (.inl plB)))] := hD
            refine lv_if_eq (tgt := 197) hx hb dX1_list_148 (by decide) (fun c_23 => ?_) (fun c_23 => ?_)
            · have c_23 : r_21.toInt = 0 := i_eq (a := r_21) (b := 0) rfl (by decide) c_23
              obtain ⟨x_24, ex_24⟩ : ∃ y9 : Int32, y9 = t2 + Int32.ofInt 1 := ⟨_, rfl⟩
              have zx_24 : x_24.toInt = t2.toInt + 1 := by rw [ex_24]; exact i_add rfl (show (Int32.ofInt 1).toInt = 1 by decide) (by omega) (by omega)
              refine lv_iinc (v := x_24) (lv' := [(12, .int x_24), (10, .long y_16), (9, .int f1), (8, .int fe), (6, .long r_3), (5, .ref pl), (0, .ref gn), (1, .ref gd), (2, .long p0), (4, .int 2)]) hx hb dX1_list_197 hl (k := 0) rfl (by rw [ex_24]) (by decide) rfl (fun ls hl => ?_)
              refine lv_goto (tgt := 122) hx hb dX1_list_200 (by decide) ?_
              exact ih122 (x_24, fe, R2) _ _ _ ⟨(by (try dsimp only); omega), (by (try dsimp only); omega), hP.sub [0, 1, 2, 3, 4, 8, 5, 6, 9, 7] rfl, hD.sub [0, 1, 2, 3, 4, 8, 5, 6, 9, 7] (by decide) rfl, hS, lv_sub hl [0, 1, 2, 3, 4, 5, 6, 7, 8, 9] rfl⟩ (by (try dsimp only); omega)
            · have c_23 : r_21.toInt ≠ 0 := i_ne (a := r_21) (b := 0) rfl (by decide) c_23
              refine lv_aload hx hb dX1_list_151 (lv_at hl 5 rfl) ?_
              refine lv_iload hx hb dX1_list_153 (lv_at hl 2 rfl) ?_
              refine lv_aload_n hx hb dX1_list_155 rfl (lv_at hl 6 rfl) ?_
              refine va_get (D := (dC, dI)) (ci := 1) (v := .ref gnp) (C := RX1) (T := TX1) (N := 4) hx hb hts in_X1_list_2_X1 hown hK hP 0 rfl rfl 3 (by decide) (hts _ wd_X1_list_2_2) (fun _ h9 => h9) rfl dX1_list_156 ?_
              refine lv_iload hx hb dX1_list_159 (lv_at hl 0 rfl) ?_
              refine va_iald hx hb hK hP 1 0 rfl rfl (i_in rfl (by omega) (by omega)) dX1_list_161 ?_
              refine lv_topi (fun v_25 ev_25 => ?_)
              have hPc := hP.sub (ws' := [(pl, .inr (3, [.int plw, .int pld, .int plc, .int pls, .long plm, .ref plf, .ref plo, .ref plb, .ref pla])), (plf, .inl (plkf, 40, .inl plF)), (plo, .inl (plko, 40, .inl plO))]) [8, 5, 6] rfl
              have hDc := hD.sub (ws' := [(pl, .inr (3, [.int plw, .int pld, .int plc, .int pls, .long plm, .ref plf, .ref plo, .ref plb, .ref pla])), (plf, .inl (plkf, 40, .inl plF)), (plo, .inl (plko, 40, .inl plO))]) [8, 5, 6] (by decide) rfl
              have hKc := hK.sub (tys' := [(plkf, .int), (plko, .int)]) [3, 4] rfl
              have hFc := va_free (wc := [(pl, .inr (3, [.int plw, .int pld, .int plc, .int pls, .long plm, .ref plf, .ref plo, .ref plb, .ref pla])), (plf, .inl (plkf, 40, .inl plF)), (plo, .inl (plko, 40, .inl plO))]) hD hS hA [8, 5, 6] rfl
              refine va_calli (va_runV (As := [.int f1, .int v_25]) (rest := []) ⟨hx, hb, hml, hown, hts⟩ (c_X3_joins l dC dI H.size pl plw pld plc pls plm plf plo plb pla plkf plF plko plO f1 v_25 (by omega) hR_plf hR_plo) (cwV 2 hts g_X1_list_2_X3_joins rfl rfl rfl (by decide +kernel) ⟨Nat.le_of_ble_eq_true rfl, Nat.le_of_ble_eq_true rfl⟩) ⟨fun a U g mk q => by obtain ⟨q0, q1, qP, qK, qD⟩ := q; exact ⟨q0, q1, qP, va_K.moved (u := U) (U := U.calling g mk a) (Vm.Alike.refl U.vm) qK, qD⟩, va_recv hKc hPc (ci := 3) (q0 := 0) rfl rfl, fun U hU hW => ⟨rfl, by rw [hU], by rw [hU]; exact hPc, va_K.moved hW.alike hKc, hDc.weaken (fun _ _ _ _ => trivial)⟩⟩ rfl rfl hl.1 rfl (lv_room (Nat.le_of_ble_eq_true rfl)) dX1_list_162 ⟨Nat.le_of_ble_eq_true rfl, Nat.le_of_ble_eq_true rfl⟩) hS (fun q _ h => hFc q h) hFc (fun r_26 u t H1 locs ht hvm hw_27 hB hz1 hk1 hS => ?_)
              obtain ⟨hP1, hK1, hD1⟩ := hB
              have hP1 : va_P (dC, dI) vwCl [(pl, .inr (3, [.int plw, .int pld, .int plc, .int pls, .long plm, .ref plf, .ref plo, .ref plb, .ref pla])), (plf, .inl (plkf, 40, .inl plF)), (plo, .inl (plko, 40, .inl plO))] t.heap := hP1
              rw [ht] at hP1
              try dsimp only at hw_27
              obtain ⟨hP, hD⟩ := va_join (wr := [(gn, .inr (1, [.ref gno, .int gnl, .ref gns, .ref gnp])), (gnp, .inl (gnkp, 40, .inl P1)), (gns, .inl (gnks, 3, .inr (.inr (.inr (.inr gnS))))), (gr2, .inl (gnkr2, 480, .inl R2)), (gd, .inr (0, [.ref pl, .int gdl, .long gdh, .long gdw, .int gdi, .int gde, .int gdc, .ref gdt, .int gdg, .ref gdu, .int gdn, .ref gdx])), (pla, .inl (plka, 100, .inl plA)), (plb, .inl (plkb, 40, .inr (.inl plB)))]) (w1 := [(pl, .inr (3, [.int plw, .int pld, .int plc, .int pls, .long plm, .ref plf, .ref plo, .ref plb, .ref pla])), (plf, .inl (plkf, 40, .inl plF)), (plo, .inl (plko, 40, .inl plO))]) hP hD [8, 5, 6] [0, 1, 2, 3, 4, 7, 9] rfl rfl (by decide) (by decide) hk1 hFc hP1 hD1
              generalize H1 = H at hP hS ⊢
              have hP : va_P (dC, dI) vwCl [(gn, .inr (1, [.ref gno, .int gnl, .ref gns, .ref gnp])), (gnp, .inl (gnkp, 40, .inl P1)), (gns, .inl (gnks, 3, .inr (.inr (.inr (.inr gnS))))), (gr2, .inl (gnkr2, 480, .inl R2)), (gd, .inr (0, [.ref pl, .int gdl, .long gdh, .long gdw, .int gdi, .int gde, .int gdc, .ref gdt, .int gdg, .ref gdu, .int gdn, .ref gdx])), (pla, .inl (plka, 100, .inl plA)), (plb, .inl (plkb, 40, .inr (.inl plB))), (pl, .inr (3, [.int plw, .int pld, .int plc, .int pls, .long plm, .ref plf, .ref plo, .ref plb, .ref pla])), (plf, .inl (plkf, 40, .inl plF)), (plo, .inl (plko, 40, .inl plO))] H := hP
              have hD : va_D A [(gn, .inr (1, [.ref gno, .int gnl, .ref gns, .ref gnp])), (gnp, .inl (gnkp, 40, .inl P1)), (gns, .inl (gnks, 3, .inr (.inr (.inr (.inr gnS))))), (gr2, .inl (gnkr2, 480, .inl R2)), (gd, .inr (0, [.ref pl, .int gdl, .long gdh, .long gdw, .int gdi, .int gde, .int gdc, .ref gdt, .int gdg, .ref gdu, .int gdn, .ref gdx])), (pla, .inl (plka, 100, .inl plA)), (plb, .inl (plkb, 40, .inr (.inl plB))), (pl, .inr (3, [.int plw, .int pld, .int plc, .int pls, .long plm, .ref plf, .ref plo, .ref plb, .ref pla])), (plf, .inl (plkf, 40, .inl plF)), (plo, .inl (plko, 40, .inl plO))] := hD
              refine lv_if_eq (tgt := 197) hx hb dX1_list_165 (by decide) (fun c_28 => ?_) (fun c_28 => ?_)
              · have c_28 : r_26.toInt = 0 := i_eq (a := r_26) (b := 0) rfl (by decide) c_28
                obtain ⟨x_29, ex_29⟩ : ∃ y9 : Int32, y9 = t2 + Int32.ofInt 1 := ⟨_, rfl⟩
                have zx_29 : x_29.toInt = t2.toInt + 1 := by rw [ex_29]; exact i_add rfl (show (Int32.ofInt 1).toInt = 1 by decide) (by omega) (by omega)
                refine lv_iinc (v := x_29) (lv' := [(12, .int x_29), (10, .long y_16), (9, .int f1), (8, .int fe), (6, .long r_3), (5, .ref pl), (0, .ref gn), (1, .ref gd), (2, .long p0), (4, .int 2)]) hx hb dX1_list_197 hl (k := 0) rfl (by rw [ex_29]) (by decide) rfl (fun ls hl => ?_)
                refine lv_goto (tgt := 122) hx hb dX1_list_200 (by decide) ?_
                exact ih122 (x_29, fe, R2) _ _ _ ⟨(by (try dsimp only); omega), (by (try dsimp only); omega), hP.sub [0, 1, 2, 3, 4, 7, 8, 9, 6, 5] rfl, hD.sub [0, 1, 2, 3, 4, 7, 8, 9, 6, 5] (by decide) rfl, hS, lv_sub hl [0, 1, 2, 3, 4, 5, 6, 7, 8, 9] rfl⟩ (by (try dsimp only); omega)
              · have c_28 : r_26.toInt ≠ 0 := i_ne (a := r_26) (b := 0) rfl (by decide) c_28
                refine lv_iload hx hb dX1_list_168 (lv_at hl 3 rfl) ?_
                refine lv_sipush (v := 480) hx hb dX1_list_170 (by decide) ?_
                refine lv_icmp_ge (tgt := 197) hx hb dX1_list_173 (by decide) (fun c_30 => ?_) (fun c_30 => ?_)
                · have c_30 : 480 ≤ fe.toInt := i_le (a := 480) (b := fe) (by decide) rfl c_30
                  obtain ⟨x_31, ex_31⟩ : ∃ y9 : Int32, y9 = t2 + Int32.ofInt 1 := ⟨_, rfl⟩
                  have zx_31 : x_31.toInt = t2.toInt + 1 := by rw [ex_31]; exact i_add rfl (show (Int32.ofInt 1).toInt = 1 by decide) (by omega) (by omega)
                  refine lv_iinc (v := x_31) (lv' := [(12, .int x_31), (10, .long y_16), (9, .int f1), (8, .int fe), (6, .long r_3), (5, .ref pl), (0, .ref gn), (1, .ref gd), (2, .long p0), (4, .int 2)]) hx hb dX1_list_197 hl (k := 0) rfl (by rw [ex_31]) (by decide) rfl (fun ls hl => ?_)
                  refine lv_goto (tgt := 122) hx hb dX1_list_200 (by decide) ?_
                  exact ih122 (x_31, fe, R2) _ _ _ ⟨(by (try dsimp only); omega), (by (try dsimp only); omega), hP.sub [0, 1, 2, 3, 4, 7, 8, 9, 6, 5] rfl, hD.sub [0, 1, 2, 3, 4, 7, 8, 9, 6, 5] (by decide) rfl, hS, lv_sub hl [0, 1, 2, 3, 4, 5, 6, 7, 8, 9] rfl⟩ (by (try dsimp only); omega)
                · have c_30 : fe.toInt < 480 := i_nle (a := 480) (b := fe) (by decide) rfl c_30
                  refine lv_aload_n hx hb dX1_list_176 rfl (lv_at hl 6 rfl) ?_
                  refine va_get (D := (dC, dI)) (ci := 1) (v := .ref gns) (C := RX1) (T := TX1) (N := 4) hx hb hts in_X1_list_2_X1 hown hK hP 0 rfl rfl 2 (by decide) (hts _ wd_X1_list_2_3) (fun _ h9 => h9) rfl dX1_list_177 ?_
                  refine lv_iload hx hb dX1_list_180 (lv_at hl 9 rfl) ?_
                  refine va_aldA (i := 2) hx hb hK hP 2 1 rfl rfl (vp_in_iff.mpr ⟨by decide, by decide⟩) dX1_list_182 ?_
                  refine W.eq (g2 := F0 m 183 ls (.ref gr2 :: [])) (by rw [show gnS (2 : Int32).toNatClampNeg = some gr2 from hS2]; rfl) ?_
                  refine lv_iload hx hb dX1_list_183 (lv_at hl 3 rfl) ?_
                  refine lv_bipush (v := 100) hx hb dX1_list_185 (by decide) ?_
                  refine lv_iload hx hb dX1_list_187 (lv_at hl 2 rfl) ?_
                  refine lv_imul hx hb dX1_list_189 ?_
                  refine lv_topi (fun x_32 ex_32 => ?_)
                  refine lv_iload hx hb dX1_list_190 (lv_at hl 0 rfl) ?_
                  refine lv_iadd hx hb dX1_list_192 ?_
                  refine lv_topi (fun x_33 ex_33 => ?_)
                  refine va_iast hx hb hK hP hD hS 3 2 rfl rfl (i_in rfl (by omega) (by omega)) dX1_list_193 (fun H locs hP hD hS => ?_)
                  have hP : va_P (dC, dI) vwCl [(gn, .inr (1, [.ref gno, .int gnl, .ref gns, .ref gnp])), (gnp, .inl (gnkp, 40, .inl P1)), (gns, .inl (gnks, 3, .inr (.inr (.inr (.inr gnS))))), (gr2, .inl (gnkr2, 480, .inl (upd R2 fe.toNatClampNeg x_33))), (gd, .inr (0, [.ref pl, .int gdl, .long gdh, .long gdw, .int gdi, .int gde, .int gdc, .ref gdt, .int gdg, .ref gdu, .int gdn, .ref gdx])), (pla, .inl (plka, 100, .inl plA)), (plb, .inl (plkb, 40, .inr (.inl plB))), (pl, .inr (3, [.int plw, .int pld, .int plc, .int pls, .long plm, .ref plf, .ref plo, .ref plb, .ref pla])), (plf, .inl (plkf, 40, .inl plF)), (plo, .inl (plko, 40, .inl plO))] H := hP
                  have hD : va_D A [(gn, .inr (1, [.ref gno, .int gnl, .ref gns, .ref gnp])), (gnp, .inl (gnkp, 40, .inl P1)), (gns, .inl (gnks, 3, .inr (.inr (.inr (.inr gnS))))), (gr2, .inl (gnkr2, 480, .inl (upd R2 fe.toNatClampNeg x_33))), (gd, .inr (0, [.ref pl, .int gdl, .long gdh, .long gdw, .int gdi, .int gde, .int gdc, .ref gdt, .int gdg, .ref gdu, .int gdn, .ref gdx])), (pla, .inl (plka, 100, .inl plA)), (plb, .inl (plkb, 40, .inr (.inl plB))), (pl, .inr (3, [.int plw, .int pld, .int plc, .int pls, .long plm, .ref plf, .ref plo, .ref plb, .ref pla])), (plf, .inl (plkf, 40, .inl plF)), (plo, .inl (plko, 40, .inl plO))] := hD
                  obtain ⟨f_34, ef_34⟩ : ∃ g, g = upd R2 fe.toNatClampNeg x_33 := ⟨_, rfl⟩
                  rw [← ef_34] at hP hD
                  obtain ⟨x_35, ex_35⟩ : ∃ y9 : Int32, y9 = fe + Int32.ofInt 1 := ⟨_, rfl⟩
                  have zx_35 : x_35.toInt = fe.toInt + 1 := by rw [ex_35]; exact i_add rfl (show (Int32.ofInt 1).toInt = 1 by decide) (by omega) (by omega)
                  refine lv_iinc (v := x_35) (lv' := [(8, .int x_35), (12, .int t2), (10, .long y_16), (9, .int f1), (6, .long r_3), (5, .ref pl), (0, .ref gn), (1, .ref gd), (2, .long p0), (4, .int 2)]) hx hb dX1_list_194 hl (k := 3) rfl (by rw [ex_35]) (by decide) rfl (fun ls hl => ?_)
                  obtain ⟨x_36, ex_36⟩ : ∃ y9 : Int32, y9 = t2 + Int32.ofInt 1 := ⟨_, rfl⟩
                  have zx_36 : x_36.toInt = t2.toInt + 1 := by rw [ex_36]; exact i_add rfl (show (Int32.ofInt 1).toInt = 1 by decide) (by omega) (by omega)
                  refine lv_iinc (v := x_36) (lv' := [(12, .int x_36), (8, .int x_35), (10, .long y_16), (9, .int f1), (6, .long r_3), (5, .ref pl), (0, .ref gn), (1, .ref gd), (2, .long p0), (4, .int 2)]) hx hb dX1_list_197 hl (k := 1) rfl (by rw [ex_36]) (by decide) rfl (fun ls hl => ?_)
                  refine lv_goto (tgt := 122) hx hb dX1_list_200 (by decide) ?_
                  exact ih122 (x_36, x_35, f_34) _ _ _ ⟨(by (try dsimp only); omega), (by (try dsimp only); omega), hP.sub [0, 1, 2, 3, 4, 7, 8, 9, 6, 5] rfl, hD.sub [0, 1, 2, 3, 4, 7, 8, 9, 6, 5] (by decide) rfl, hS, lv_sub hl [0, 2, 3, 1, 4, 5, 6, 7, 8, 9] rfl⟩ (by (try dsimp only); omega)
  · have c_5 : t0.toInt < pls.toInt := i_nle (a := pls) (b := t0) rfl rfl c_5
    refine lv_aload_n hx hb dX1_list_39 rfl (lv_at hl 3 rfl) ?_
    refine va_get (D := (dC, dI)) (ci := 1) (v := .ref gnp) (C := RX1) (T := TX1) (N := 4) hx hb hts in_X1_list_2_X1 hown hK hP 0 rfl rfl 3 (by decide) (hts _ wd_X1_list_2_2) (fun _ h9 => h9) rfl dX1_list_40 ?_
    refine lv_iload hx hb dX1_list_43 (lv_at hl 0 rfl) ?_
    refine lv_aload hx hb dX1_list_45 (lv_at hl 2 rfl) ?_
    refine lv_lload hx hb dX1_list_47 (lv_at hl 1 rfl) ?_
    refine lv_iload hx hb dX1_list_49 (lv_at hl 0 rfl) ?_
    have hPc := hP.sub (ws' := [(pl, .inr (3, [.int plw, .int pld, .int plc, .int pls, .long plm, .ref plf, .ref plo, .ref plb, .ref pla])), (plb, .inl (plkb, 40, .inr (.inl plB)))]) [9, 6] rfl
    have hDc := hD.sub (ws' := [(pl, .inr (3, [.int plw, .int pld, .int plc, .int pls, .long plm, .ref plf, .ref plo, .ref plb, .ref pla])), (plb, .inl (plkb, 40, .inr (.inl plB)))]) [9, 6] (by decide) rfl
    have hKc := hK.sub (tys' := [(plkb, .long)]) [5] rfl
    have hFc := va_free (wc := [(pl, .inr (3, [.int plw, .int pld, .int plc, .int pls, .long plm, .ref plf, .ref plo, .ref plb, .ref pla])), (plb, .inl (plkb, 40, .inr (.inl plB)))]) hD hS hA [9, 6] rfl
    refine va_calli (va_runV (As := [.long r_3, .int t0]) (rest := [.int t0, .ref gnp]) ⟨hx, hb, hml, hown, hts⟩ (c_X3_has l dC dI H.size pl plw pld plc pls plm plf plo plb pla plkb plB r_3 t0 (by omega)) (cwV 2 hts g_X1_list_2_X3_has rfl rfl rfl (by decide +kernel) ⟨Nat.le_of_ble_eq_true rfl, Nat.le_of_ble_eq_true rfl⟩) ⟨fun a U g mk q => by obtain ⟨q0, q1, qP, qK, qD⟩ := q; exact ⟨q0, q1, qP, va_K.moved (u := U) (U := U.calling g mk a) (Vm.Alike.refl U.vm) qK, qD⟩, va_recv hKc hPc (ci := 3) (q0 := 0) rfl rfl, fun U hU hW => ⟨rfl, by rw [hU], by rw [hU]; exact hPc, va_K.moved hW.alike hKc, hDc.weaken (fun _ _ _ _ => trivial)⟩⟩ rfl rfl hl.1 rfl (lv_room (Nat.le_of_ble_eq_true rfl)) dX1_list_51 ⟨Nat.le_of_ble_eq_true rfl, Nat.le_of_ble_eq_true rfl⟩) hS (fun q _ h => hFc q h) hFc (fun r_37 u t H1 locs ht hvm hw_38 hB hz1 hk1 hS => ?_)
    obtain ⟨hP1, hK1, hD1⟩ := hB
    have hP1 : va_P (dC, dI) vwCl [(pl, .inr (3, [.int plw, .int pld, .int plc, .int pls, .long plm, .ref plf, .ref plo, .ref plb, .ref pla])), (plb, .inl (plkb, 40, .inr (.inl plB)))] t.heap := hP1
    rw [ht] at hP1
    try dsimp only at hw_38
    obtain ⟨hP, hD⟩ := va_join (wr := [(gn, .inr (1, [.ref gno, .int gnl, .ref gns, .ref gnp])), (gnp, .inl (gnkp, 40, .inl P1)), (gns, .inl (gnks, 3, .inr (.inr (.inr (.inr gnS))))), (gr2, .inl (gnkr2, 480, .inl gR2)), (plf, .inl (plkf, 40, .inl plF)), (plo, .inl (plko, 40, .inl plO)), (pla, .inl (plka, 100, .inl plA)), (gd, .inr (0, [.ref pl, .int gdl, .long gdh, .long gdw, .int gdi, .int gde, .int gdc, .ref gdt, .int gdg, .ref gdu, .int gdn, .ref gdx]))]) (w1 := [(pl, .inr (3, [.int plw, .int pld, .int plc, .int pls, .long plm, .ref plf, .ref plo, .ref plb, .ref pla])), (plb, .inl (plkb, 40, .inr (.inl plB)))]) hP hD [9, 6] [0, 1, 2, 3, 4, 5, 7, 8] rfl rfl (by decide) (by decide) hk1 hFc hP1 hD1
    generalize H1 = H at hP hS ⊢
    have hP : va_P (dC, dI) vwCl [(gn, .inr (1, [.ref gno, .int gnl, .ref gns, .ref gnp])), (gnp, .inl (gnkp, 40, .inl P1)), (gns, .inl (gnks, 3, .inr (.inr (.inr (.inr gnS))))), (gr2, .inl (gnkr2, 480, .inl gR2)), (plf, .inl (plkf, 40, .inl plF)), (plo, .inl (plko, 40, .inl plO)), (pla, .inl (plka, 100, .inl plA)), (gd, .inr (0, [.ref pl, .int gdl, .long gdh, .long gdw, .int gdi, .int gde, .int gdc, .ref gdt, .int gdg, .ref gdu, .int gdn, .ref gdx])), (pl, .inr (3, [.int plw, .int pld, .int plc, .int pls, .long plm, .ref plf, .ref plo, .ref plb, .ref pla])), (plb, .inl (plkb, 40, .inr (.inl plB)))] H := hP
    have hD : va_D A [(gn, .inr (1, [.ref gno, .int gnl, .ref gns, .ref gnp])), (gnp, .inl (gnkp, 40, .inl P1)), (gns, .inl (gnks, 3, .inr (.inr (.inr (.inr gnS))))), (gr2, .inl (gnkr2, 480, .inl gR2)), (plf, .inl (plkf, 40, .inl plF)), (plo, .inl (plko, 40, .inl plO)), (pla, .inl (plka, 100, .inl plA)), (gd, .inr (0, [.ref pl, .int gdl, .long gdh, .long gdw, .int gdi, .int gde, .int gdc, .ref gdt, .int gdg, .ref gdu, .int gdn, .ref gdx])), (pl, .inr (3, [.int plw, .int pld, .int plc, .int pls, .long plm, .ref plf, .ref plo, .ref plb, .ref pla])), (plb, .inl (plkb, 40, .inr (.inl plB)))] := hD
    refine lv_if_eq (tgt := 69) hx hb dX1_list_54 (by decide) (fun c_39 => ?_) (fun c_39 => ?_)
    · have c_39 : r_37.toInt = 0 := i_eq (a := r_37) (b := 0) rfl (by decide) c_39
      refine lv_iconst (v := 0) hx hb dX1_list_69 (by decide) ?_
      refine va_iast hx hb hK hP hD hS 1 0 rfl rfl (i_in rfl (by omega) (by omega)) dX1_list_70 (fun H locs hP hD hS => ?_)
      have hP : va_P (dC, dI) vwCl [(gn, .inr (1, [.ref gno, .int gnl, .ref gns, .ref gnp])), (gnp, .inl (gnkp, 40, .inl (upd P1 t0.toNatClampNeg 0))), (gns, .inl (gnks, 3, .inr (.inr (.inr (.inr gnS))))), (gr2, .inl (gnkr2, 480, .inl gR2)), (plf, .inl (plkf, 40, .inl plF)), (plo, .inl (plko, 40, .inl plO)), (pla, .inl (plka, 100, .inl plA)), (gd, .inr (0, [.ref pl, .int gdl, .long gdh, .long gdw, .int gdi, .int gde, .int gdc, .ref gdt, .int gdg, .ref gdu, .int gdn, .ref gdx])), (pl, .inr (3, [.int plw, .int pld, .int plc, .int pls, .long plm, .ref plf, .ref plo, .ref plb, .ref pla])), (plb, .inl (plkb, 40, .inr (.inl plB)))] H := hP
      have hD : va_D A [(gn, .inr (1, [.ref gno, .int gnl, .ref gns, .ref gnp])), (gnp, .inl (gnkp, 40, .inl (upd P1 t0.toNatClampNeg 0))), (gns, .inl (gnks, 3, .inr (.inr (.inr (.inr gnS))))), (gr2, .inl (gnkr2, 480, .inl gR2)), (plf, .inl (plkf, 40, .inl plF)), (plo, .inl (plko, 40, .inl plO)), (pla, .inl (plka, 100, .inl plA)), (gd, .inr (0, [.ref pl, .int gdl, .long gdh, .long gdw, .int gdi, .int gde, .int gdc, .ref gdt, .int gdg, .ref gdu, .int gdn, .ref gdx])), (pl, .inr (3, [.int plw, .int pld, .int plc, .int pls, .long plm, .ref plf, .ref plo, .ref plb, .ref pla])), (plb, .inl (plkb, 40, .inr (.inl plB)))] := hD
      obtain ⟨f_40, ef_40⟩ : ∃ g, g = upd P1 t0.toNatClampNeg 0 := ⟨_, rfl⟩
      rw [← ef_40] at hP hD
      obtain ⟨x_41, ex_41⟩ : ∃ y9 : Int32, y9 = t0 + Int32.ofInt 1 := ⟨_, rfl⟩
      have zx_41 : x_41.toInt = t0.toInt + 1 := by rw [ex_41]; exact i_add rfl (show (Int32.ofInt 1).toInt = 1 by decide) (by omega) (by omega)
      refine lv_iinc (v := x_41) (lv' := [(8, .int x_41), (6, .long r_3), (5, .ref pl), (0, .ref gn), (1, .ref gd), (2, .long p0), (4, .int 2)]) hx hb dX1_list_71 hl (k := 0) rfl (by rw [ex_41]) (by decide) rfl (fun ls hl => ?_)
      refine lv_goto (tgt := 29) hx hb dX1_list_74 (by decide) ?_
      exact ih29 (x_41, f_40) _ _ _ ⟨(by (try dsimp only); omega), hP.sub [0, 1, 2, 3, 4, 5, 9, 6, 7, 8] rfl, hD.sub [0, 1, 2, 3, 4, 5, 9, 6, 7, 8] (by decide) rfl, hS, lv_sub hl [0, 1, 2, 3, 4, 5, 6] rfl⟩ (by (try dsimp only); omega)
    · have c_39 : r_37.toInt ≠ 0 := i_ne (a := r_37) (b := 0) rfl (by decide) c_39
      refine lv_aload hx hb dX1_list_57 (lv_at hl 2 rfl) ?_
      refine lv_iload hx hb dX1_list_59 (lv_at hl 0 rfl) ?_
      refine lv_lload hx hb dX1_list_61 (lv_at hl 1 rfl) ?_
      have hPc := hP.sub (ws' := [(pl, .inr (3, [.int plw, .int pld, .int plc, .int pls, .long plm, .ref plf, .ref plo, .ref plb, .ref pla])), (plf, .inl (plkf, 40, .inl plF)), (plb, .inl (plkb, 40, .inr (.inl plB)))]) [8, 4, 9] rfl
      have hDc := hD.sub (ws' := [(pl, .inr (3, [.int plw, .int pld, .int plc, .int pls, .long plm, .ref plf, .ref plo, .ref plb, .ref pla])), (plf, .inl (plkf, 40, .inl plF)), (plb, .inl (plkb, 40, .inr (.inl plB)))]) [8, 4, 9] (by decide) rfl
      have hKc := hK.sub (tys' := [(plkf, .int), (plkb, .long)]) [3, 5] rfl
      have hFc := va_free (wc := [(pl, .inr (3, [.int plw, .int pld, .int plc, .int pls, .long plm, .ref plf, .ref plo, .ref plb, .ref pla])), (plf, .inl (plkf, 40, .inl plF)), (plb, .inl (plkb, 40, .inr (.inl plB)))]) hD hS hA [8, 4, 9] rfl
      refine va_calli (va_runV (As := [.int t0, .long r_3]) (rest := [.int t0, .ref gnp]) ⟨hx, hb, hml, hown, hts⟩ (c_X3_partBeside l dC dI H.size pl plw pld plc pls plm plf plo plb pla plkf plF plkb plB t0 r_3 (by omega) hR_plf) (cwV 2 hts g_X1_list_2_X3_partBeside rfl rfl rfl (by decide +kernel) ⟨Nat.le_of_ble_eq_true rfl, Nat.le_of_ble_eq_true rfl⟩) ⟨fun a U g mk q => by obtain ⟨q0, q1, qP, qK, qD⟩ := q; exact ⟨q0, q1, qP, va_K.moved (u := U) (U := U.calling g mk a) (Vm.Alike.refl U.vm) qK, qD⟩, va_recv hKc hPc (ci := 3) (q0 := 0) rfl rfl, fun U hU hW => ⟨rfl, by rw [hU], by rw [hU]; exact hPc, va_K.moved hW.alike hKc, hDc.weaken (fun _ _ _ _ => trivial)⟩⟩ rfl rfl hl.1 rfl (lv_room (Nat.le_of_ble_eq_true rfl)) dX1_list_63 ⟨Nat.le_of_ble_eq_true rfl, Nat.le_of_ble_eq_true rfl⟩) hS (fun q _ h => hFc q h) hFc (fun r_42 u t H1 locs ht hvm hw_43 hB hz1 hk1 hS => ?_)
      obtain ⟨hP1, hK1, hD1⟩ := hB
      have hP1 : va_P (dC, dI) vwCl [(pl, .inr (3, [.int plw, .int pld, .int plc, .int pls, .long plm, .ref plf, .ref plo, .ref plb, .ref pla])), (plf, .inl (plkf, 40, .inl plF)), (plb, .inl (plkb, 40, .inr (.inl plB)))] t.heap := hP1
      rw [ht] at hP1
      try dsimp only at hw_43
      obtain ⟨hP, hD⟩ := va_join (wr := [(gn, .inr (1, [.ref gno, .int gnl, .ref gns, .ref gnp])), (gnp, .inl (gnkp, 40, .inl P1)), (gns, .inl (gnks, 3, .inr (.inr (.inr (.inr gnS))))), (gr2, .inl (gnkr2, 480, .inl gR2)), (plo, .inl (plko, 40, .inl plO)), (pla, .inl (plka, 100, .inl plA)), (gd, .inr (0, [.ref pl, .int gdl, .long gdh, .long gdw, .int gdi, .int gde, .int gdc, .ref gdt, .int gdg, .ref gdu, .int gdn, .ref gdx]))]) (w1 := [(pl, .inr (3, [.int plw, .int pld, .int plc, .int pls, .long plm, .ref plf, .ref plo, .ref plb, .ref pla])), (plf, .inl (plkf, 40, .inl plF)), (plb, .inl (plkb, 40, .inr (.inl plB)))]) hP hD [8, 4, 9] [0, 1, 2, 3, 5, 6, 7] rfl rfl (by decide) (by decide) hk1 hFc hP1 hD1
      generalize H1 = H at hP hS ⊢
      have hP : va_P (dC, dI) vwCl [(gn, .inr (1, [.ref gno, .int gnl, .ref gns, .ref gnp])), (gnp, .inl (gnkp, 40, .inl P1)), (gns, .inl (gnks, 3, .inr (.inr (.inr (.inr gnS))))), (gr2, .inl (gnkr2, 480, .inl gR2)), (plo, .inl (plko, 40, .inl plO)), (pla, .inl (plka, 100, .inl plA)), (gd, .inr (0, [.ref pl, .int gdl, .long gdh, .long gdw, .int gdi, .int gde, .int gdc, .ref gdt, .int gdg, .ref gdu, .int gdn, .ref gdx])), (pl, .inr (3, [.int plw, .int pld, .int plc, .int pls, .long plm, .ref plf, .ref plo, .ref plb, .ref pla])), (plf, .inl (plkf, 40, .inl plF)), (plb, .inl (plkb, 40, .inr (.inl plB)))] H := hP
      have hD : va_D A [(gn, .inr (1, [.ref gno, .int gnl, .ref gns, .ref gnp])), (gnp, .inl (gnkp, 40, .inl P1)), (gns, .inl (gnks, 3, .inr (.inr (.inr (.inr gnS))))), (gr2, .inl (gnkr2, 480, .inl gR2)), (plo, .inl (plko, 40, .inl plO)), (pla, .inl (plka, 100, .inl plA)), (gd, .inr (0, [.ref pl, .int gdl, .long gdh, .long gdw, .int gdi, .int gde, .int gdc, .ref gdt, .int gdg, .ref gdu, .int gdn, .ref gdx])), (pl, .inr (3, [.int plw, .int pld, .int plc, .int pls, .long plm, .ref plf, .ref plo, .ref plb, .ref pla])), (plf, .inl (plkf, 40, .inl plF)), (plb, .inl (plkb, 40, .inr (.inl plB)))] := hD
      refine lv_goto (tgt := 70) hx hb dX1_list_66 (by decide) ?_
      refine va_iast hx hb hK hP hD hS 1 0 rfl rfl (i_in rfl (by omega) (by omega)) dX1_list_70 (fun H locs hP hD hS => ?_)
      have hP : va_P (dC, dI) vwCl [(gn, .inr (1, [.ref gno, .int gnl, .ref gns, .ref gnp])), (gnp, .inl (gnkp, 40, .inl (upd P1 t0.toNatClampNeg r_42))), (gns, .inl (gnks, 3, .inr (.inr (.inr (.inr gnS))))), (gr2, .inl (gnkr2, 480, .inl gR2)), (plo, .inl (plko, 40, .inl plO)), (pla, .inl (plka, 100, .inl plA)), (gd, .inr (0, [.ref pl, .int gdl, .long gdh, .long gdw, .int gdi, .int gde, .int gdc, .ref gdt, .int gdg, .ref gdu, .int gdn, .ref gdx])), (pl, .inr (3, [.int plw, .int pld, .int plc, .int pls, .long plm, .ref plf, .ref plo, .ref plb, .ref pla])), (plf, .inl (plkf, 40, .inl plF)), (plb, .inl (plkb, 40, .inr (.inl plB)))] H := hP
      have hD : va_D A [(gn, .inr (1, [.ref gno, .int gnl, .ref gns, .ref gnp])), (gnp, .inl (gnkp, 40, .inl (upd P1 t0.toNatClampNeg r_42))), (gns, .inl (gnks, 3, .inr (.inr (.inr (.inr gnS))))), (gr2, .inl (gnkr2, 480, .inl gR2)), (plo, .inl (plko, 40, .inl plO)), (pla, .inl (plka, 100, .inl plA)), (gd, .inr (0, [.ref pl, .int gdl, .long gdh, .long gdw, .int gdi, .int gde, .int gdc, .ref gdt, .int gdg, .ref gdu, .int gdn, .ref gdx])), (pl, .inr (3, [.int plw, .int pld, .int plc, .int pls, .long plm, .ref plf, .ref plo, .ref plb, .ref pla])), (plf, .inl (plkf, 40, .inl plF)), (plb, .inl (plkb, 40, .inr (.inl plB)))] := hD
      obtain ⟨f_44, ef_44⟩ : ∃ g, g = upd P1 t0.toNatClampNeg r_42 := ⟨_, rfl⟩
      rw [← ef_44] at hP hD
      obtain ⟨x_45, ex_45⟩ : ∃ y9 : Int32, y9 = t0 + Int32.ofInt 1 := ⟨_, rfl⟩
      have zx_45 : x_45.toInt = t0.toInt + 1 := by rw [ex_45]; exact i_add rfl (show (Int32.ofInt 1).toInt = 1 by decide) (by omega) (by omega)
      refine lv_iinc (v := x_45) (lv' := [(8, .int x_45), (6, .long r_3), (5, .ref pl), (0, .ref gn), (1, .ref gd), (2, .long p0), (4, .int 2)]) hx hb dX1_list_71 hl (k := 0) rfl (by rw [ex_45]) (by decide) rfl (fun ls hl => ?_)
      refine lv_goto (tgt := 29) hx hb dX1_list_74 (by decide) ?_
      exact ih29 (x_45, f_44) _ _ _ ⟨(by (try dsimp only); omega), hP.sub [0, 1, 2, 3, 8, 4, 9, 5, 6, 7] rfl, hD.sub [0, 1, 2, 3, 8, 4, 9, 5, 6, 7] (by decide) rfl, hS, lv_sub hl [0, 1, 2, 3, 4, 5, 6] rfl⟩ (by (try dsimp only); omega)

def wz_X1_listed_2 : List Cond := .code yX1_listed cX1_listed 4 (some .int) :: ([Cond.fieldLink RX1 21 "HedgeMaze$Gardeners" "lists" "[[I"] ++ wsX10)
theorem wd_X1_listed_2_0 : Cond.fieldLink RX1 21 "HedgeMaze$Gardeners" "lists" "[[I" ∈ wz_X1_listed_2 := List.mem_of_getElem? (i := 1) rfl
theorem in_X1_listed_2_X1 : ∀ w ∈ wsX10, w ∈ wz_X1_listed_2 := fun _ h => List.mem_cons_of_mem _ (List.mem_append_right _ h)
set_option maxHeartbeats 4000000 in
set_option maxRecDepth 100000 in
theorem c_X1_listed_2 (l : Launch) (dC : Nat → ClassId) (dI : Nat → Nat → Nat) (sz : Nat) (gn : Nat) (gno : Nat) (gnl : Int32) (gns : Nat) (gnp : Nat) (gnks : ClassId) (gnS : Nat → Option Nat) (gr2 : Nat) (gnkr2 : ClassId) (gR2 : Nat → Int32) (p1 : Int32) (hS2 : gnS 2 = some gr2) : Met l yX1_listed wz_X1_listed_2 ({ frames := 0, cells := 0, slots := 0, locals := 0 }) (va_Pc [.ref gn, .int 2, .int p1] (fun U => U.heap.size = sz ∧ va_P (dC, dI) vwCl [(gn, .inr (1, [.ref gno, .int gnl, .ref gns, .ref gnp])), (gns, .inl (gnks, 3, .inr (.inr (.inr (.inr gnS))))), (gr2, .inl (gnkr2, 480, .inl gR2))] U.heap ∧ va_K (dC, dI) vwCl [(gnks, .array .int), (gnkr2, .int)] U ∧ va_D (fun _ => True) [(gn, .inr (1, [.ref gno, .int gnl, .ref gns, .ref gnp])), (gns, .inl (gnks, 3, .inr (.inr (.inr (.inr gnS))))), (gr2, .inl (gnkr2, 480, .inl gR2))])) (va_Qi (fun (r : Int32) (u : Unit) => True) (fun (u : Unit) (t : State) => va_P (dC, dI) vwCl [(gn, .inr (1, [.ref gno, .int gnl, .ref gns, .ref gnp])), (gns, .inl (gnks, 3, .inr (.inr (.inr (.inr gnS))))), (gr2, .inl (gnkr2, 480, .inl gR2))] t.heap ∧ va_K (dC, dI) vwCl [] t ∧ va_D (va_A [(gn, .inr (1, [.ref gno, .int gnl, .ref gns, .ref gnp])), (gns, .inl (gnks, 3, .inr (.inr (.inr (.inr gnS))))), (gr2, .inl (gnkr2, 480, .inl gR2))] sz) [(gn, .inr (1, [.ref gno, .int gnl, .ref gns, .ref gnp])), (gns, .inl (gnks, 3, .inr (.inr (.inr (.inr gnS))))), (gr2, .inl (gnkr2, 480, .inl gR2))]) (va_A [(gn, .inr (1, [.ref gno, .int gnl, .ref gns, .ref gnp])), (gns, .inl (gnks, 3, .inr (.inr (.inr (.inr gnS))))), (gr2, .inl (gnkr2, 480, .inl gR2))] sz)) 0 0 (va_A [(gn, .inr (1, [.ref gno, .int gnl, .ref gns, .ref gnp])), (gns, .inl (gnks, 3, .inr (.inr (.inr (.inr gnS))))), (gr2, .inl (gnkr2, 480, .inl gR2))] sz) := by
  refine Met.ofW (cc := cX1_listed) (maxL := 4) (ret := (some .int)) (by decide) rfl ?_
  intro p e s m args below meth c s₁ B hml hv
  obtain ⟨rfl, hsz, hP, hK, hD0⟩ := hv
  have hx := B.exec
  have hb := B.bytes
  have hr := B.returns
  have hts := atoms_spec (ws := wz_X1_listed_2) B.pre
  have hown : s.vm.findClass RX1 = some m.cls := findClass_of_methodNamed B.named
  have hlocks := B.notSynchronized
  subst hsz
  have hD := hD0.self (sz := s.heap.size)
  generalize hAe : va_A [(gn, .inr (1, [.ref gno, .int gnl, .ref gns, .ref gnp])), (gns, .inl (gnks, 3, .inr (.inr (.inr (.inr gnS))))), (gr2, .inl (gnkr2, 480, .inl gR2))] s.heap.size = A at hD ⊢
  have hA : ∀ q : Nat, s.heap.size ≤ q → A q := fun q h => by rw [← hAe]; exact Or.inr h
  have hS : va_S A s.heap s.heap [] := va_S.rf
  have hP : va_P (dC, dI) vwCl [(gn, .inr (1, [.ref gno, .int gnl, .ref gns, .ref gnp])), (gns, .inl (gnks, 3, .inr (.inr (.inr (.inr gnS))))), (gr2, .inl (gnkr2, 480, .inl gR2))] s.heap := hP
  have hl := lv_entry ([.ref gn, .int 2, .int p1]) (n := 4) (Nat.le_of_ble_eq_true rfl)
  rw [lg_entry_eq]
  generalize (lg_sl ([.ref gn, .int 2, .int p1]) ++ List.replicate (4 - (lg_sl ([.ref gn, .int 2, .int p1])).length) Slot.unset).toArray = ls at hl ⊢
  have hl : lv_has ls 4 [(0, .ref gn), (1, .int 2), (2, .int p1)] := hl
  refine lv_iload_n hx hb dX1_listed_0 rfl (lv_at hl 1 rfl) ?_
  refine lv_if_lt (tgt := 24) hx hb dX1_listed_1 (by decide) (fun h => absurd h (by decide)) (fun _ => ?_)
  refine lv_iload_n hx hb dX1_listed_4 rfl (lv_at hl 1 rfl) ?_
  refine lv_iconst (v := 3) hx hb dX1_listed_5 (by decide) ?_
  refine lv_icmp_ge (tgt := 24) hx hb dX1_listed_6 (by decide) (fun h => absurd h (by decide)) (fun _ => ?_)
  refine lv_iload_n hx hb dX1_listed_9 rfl (lv_at hl 2 rfl) ?_
  refine lv_if_lt (tgt := 24) hx hb dX1_listed_10 (by decide) (fun c_3 => ?_) (fun c_3 => ?_)
  · have c_3 : p1.toInt < 0 := i_lt (a := p1) (b := 0) rfl (by decide) c_3
    refine lv_iconst (v := 0) hx hb dX1_listed_24 (by decide) ?_
    refine lv_istore_n (lv' := [(3, .int 0), (0, .ref gn), (1, .int 2), (2, .int p1)]) hx hb dX1_listed_25 rfl hl (by decide) rfl (fun ls hl => ?_)
    refine lv_iload_n hx hb dX1_listed_26 rfl (lv_at hl 0 rfl) ?_
    refine lv_if_eq (tgt := 41) hx hb dX1_listed_27 (by decide) (fun _ => ?_) (fun h => absurd (by decide) h)
    refine lv_iconst (v := -1) hx hb dX1_listed_41 (by decide) ?_
    have hP9 := hP.sub (ws' := [(gn, .inr (1, [.ref gno, .int gnl, .ref gns, .ref gnp])), (gns, .inl (gnks, 3, .inr (.inr (.inr (.inr gnS))))), (gr2, .inl (gnkr2, 480, .inl gR2))]) [0, 1, 2] rfl
    have hD9 := hD.sub (ws' := [(gn, .inr (1, [.ref gno, .int gnl, .ref gns, .ref gnp])), (gns, .inl (gnks, 3, .inr (.inr (.inr (.inr gnS))))), (gr2, .inl (gnkr2, 480, .inl gR2))]) [0, 1, 2] (by decide) rfl
    have hK9 := hK.sub (tys' := []) [] rfl
    refine W.widen (k := 0) (n := 0) (by omega) (by omega) ?_
    exact W.iret (v := -1) hx hb hr (fun t ht hW => ⟨⟨(-1), (), rfl, trivial, by rw [ht]; exact hP9, va_K.moved hW.alike hK9, hD9⟩, hS.F ht⟩) hS.2.2 dX1_listed_42
  · have c_3 : 0 ≤ p1.toInt := i_nlt (a := p1) (b := 0) rfl (by decide) c_3
    refine lv_iload_n hx hb dX1_listed_13 rfl (lv_at hl 2 rfl) ?_
    refine lv_sipush (v := 480) hx hb dX1_listed_14 (by decide) ?_
    refine lv_icmp_ge (tgt := 24) hx hb dX1_listed_17 (by decide) (fun c_5 => ?_) (fun c_5 => ?_)
    · have c_5 : 480 ≤ p1.toInt := i_le (a := 480) (b := p1) (by decide) rfl c_5
      refine lv_iconst (v := 0) hx hb dX1_listed_24 (by decide) ?_
      refine lv_istore_n (lv' := [(3, .int 0), (0, .ref gn), (1, .int 2), (2, .int p1)]) hx hb dX1_listed_25 rfl hl (by decide) rfl (fun ls hl => ?_)
      refine lv_iload_n hx hb dX1_listed_26 rfl (lv_at hl 0 rfl) ?_
      refine lv_if_eq (tgt := 41) hx hb dX1_listed_27 (by decide) (fun _ => ?_) (fun h => absurd (by decide) h)
      refine lv_iconst (v := -1) hx hb dX1_listed_41 (by decide) ?_
      have hP9 := hP.sub (ws' := [(gn, .inr (1, [.ref gno, .int gnl, .ref gns, .ref gnp])), (gns, .inl (gnks, 3, .inr (.inr (.inr (.inr gnS))))), (gr2, .inl (gnkr2, 480, .inl gR2))]) [0, 1, 2] rfl
      have hD9 := hD.sub (ws' := [(gn, .inr (1, [.ref gno, .int gnl, .ref gns, .ref gnp])), (gns, .inl (gnks, 3, .inr (.inr (.inr (.inr gnS))))), (gr2, .inl (gnkr2, 480, .inl gR2))]) [0, 1, 2] (by decide) rfl
      have hK9 := hK.sub (tys' := []) [] rfl
      refine W.widen (k := 0) (n := 0) (by omega) (by omega) ?_
      exact W.iret (v := -1) hx hb hr (fun t ht hW => ⟨⟨(-1), (), rfl, trivial, by rw [ht]; exact hP9, va_K.moved hW.alike hK9, hD9⟩, hS.F ht⟩) hS.2.2 dX1_listed_42
    · have c_5 : p1.toInt < 480 := i_nle (a := 480) (b := p1) (by decide) rfl c_5
      refine lv_iconst (v := 1) hx hb dX1_listed_20 (by decide) ?_
      refine lv_goto (tgt := 25) hx hb dX1_listed_21 (by decide) ?_
      refine lv_istore_n (lv' := [(3, .int 1), (0, .ref gn), (1, .int 2), (2, .int p1)]) hx hb dX1_listed_25 rfl hl (by decide) rfl (fun ls hl => ?_)
      refine lv_iload_n hx hb dX1_listed_26 rfl (lv_at hl 0 rfl) ?_
      refine lv_if_eq (tgt := 41) hx hb dX1_listed_27 (by decide) (fun h => absurd h (by decide)) (fun _ => ?_)
      refine lv_aload_n hx hb dX1_listed_30 rfl (lv_at hl 1 rfl) ?_
      refine va_get (D := (dC, dI)) (ci := 1) (v := .ref gns) (C := RX1) (T := TX1) (N := 4) hx hb hts in_X1_listed_2_X1 hown hK hP 0 rfl rfl 2 (by decide) (hts _ wd_X1_listed_2_0) (fun _ h9 => h9) rfl dX1_listed_31 ?_
      refine lv_iload_n hx hb dX1_listed_34 rfl (lv_at hl 2 rfl) ?_
      refine va_aldA (i := 2) hx hb hK hP 1 0 rfl rfl (vp_in_iff.mpr ⟨by decide, by decide⟩) dX1_listed_35 ?_
      refine W.eq (g2 := F0 m 36 ls (.ref gr2 :: [])) (by rw [show gnS (2 : Int32).toNatClampNeg = some gr2 from hS2]; rfl) ?_
      refine lv_iload_n hx hb dX1_listed_36 rfl (lv_at hl 3 rfl) ?_
      refine va_iald hx hb hK hP 2 1 rfl rfl (i_in rfl (by omega) (by omega)) dX1_listed_37 ?_
      refine lv_topi (fun v_8 ev_8 => ?_)
      refine lv_goto (tgt := 42) hx hb dX1_listed_38 (by decide) ?_
      have hP9 := hP.sub (ws' := [(gn, .inr (1, [.ref gno, .int gnl, .ref gns, .ref gnp])), (gns, .inl (gnks, 3, .inr (.inr (.inr (.inr gnS))))), (gr2, .inl (gnkr2, 480, .inl gR2))]) [0, 1, 2] rfl
      have hD9 := hD.sub (ws' := [(gn, .inr (1, [.ref gno, .int gnl, .ref gns, .ref gnp])), (gns, .inl (gnks, 3, .inr (.inr (.inr (.inr gnS))))), (gr2, .inl (gnkr2, 480, .inl gR2))]) [0, 1, 2] (by decide) rfl
      have hK9 := hK.sub (tys' := []) [] rfl
      refine W.widen (k := 0) (n := 0) (by omega) (by omega) ?_
      exact W.iret (v := v_8) hx hb hr (fun t ht hW => ⟨⟨v_8, (), rfl, trivial, by rw [ht]; exact hP9, va_K.moved hW.alike hK9, hD9⟩, hS.F ht⟩) hS.2.2 dX1_listed_42

