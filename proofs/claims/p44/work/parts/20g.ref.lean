theorem dX7_isWhole_0 : decode cX7_isWhole 0 = .ok (.iconst 0, 1) := by decide +kernel
theorem dX7_isWhole_1 : decode cX7_isWhole 1 = .ok (.istore_n 2, 1) := by decide +kernel
theorem dX7_isWhole_2 : decode cX7_isWhole 2 = .ok (.iload_n 2, 1) := by decide +kernel
theorem dX7_isWhole_3 : decode cX7_isWhole 3 = .ok (.bipush 25, 2) := by decide +kernel
theorem dX7_isWhole_5 : decode cX7_isWhole 5 = .ok (.if_icmp .ge 24, 3) := by decide +kernel
theorem dX7_isWhole_8 : decode cX7_isWhole 8 = .ok (.aload_n 0, 1) := by decide +kernel
theorem dX7_isWhole_9 : decode cX7_isWhole 9 = .ok (.getfield 59, 3) := by decide +kernel
theorem dX7_isWhole_12 : decode cX7_isWhole 12 = .ok (.iload_n 2, 1) := by decide +kernel
theorem dX7_isWhole_13 : decode cX7_isWhole 13 = .ok (.iload_n 2, 1) := by decide +kernel
theorem dX7_isWhole_14 : decode cX7_isWhole 14 = .ok (.ifCond .ne 7, 3) := by decide +kernel
theorem dX7_isWhole_17 : decode cX7_isWhole 17 = .ok (.iconst 0, 1) := by decide +kernel
theorem dX7_isWhole_18 : decode cX7_isWhole 18 = .ok (.goto 4, 3) := by decide +kernel
theorem dX7_isWhole_21 : decode cX7_isWhole 21 = .ok (.iconst (-1), 1) := by decide +kernel
theorem dX7_isWhole_22 : decode cX7_isWhole 22 = .ok (.iastore, 1) := by decide +kernel
theorem dX7_isWhole_23 : decode cX7_isWhole 23 = .ok (.iinc 2 1, 3) := by decide +kernel
theorem dX7_isWhole_26 : decode cX7_isWhole 26 = .ok (.goto (-24), 3) := by decide +kernel
theorem dX7_isWhole_29 : decode cX7_isWhole 29 = .ok (.aload_n 0, 1) := by decide +kernel
theorem dX7_isWhole_30 : decode cX7_isWhole 30 = .ok (.iload_n 1, 1) := by decide +kernel
theorem dX7_isWhole_31 : decode cX7_isWhole 31 = .ok (.invokevirtual 273, 3) := by decide +kernel
theorem dX7_isWhole_34 : decode cX7_isWhole 34 = .ok (.iconst 0, 1) := by decide +kernel
theorem dX7_isWhole_35 : decode cX7_isWhole 35 = .ok (.istore_n 2, 1) := by decide +kernel
theorem dX7_isWhole_36 : decode cX7_isWhole 36 = .ok (.iload_n 2, 1) := by decide +kernel
theorem dX7_isWhole_37 : decode cX7_isWhole 37 = .ok (.aload_n 0, 1) := by decide +kernel
theorem dX7_isWhole_38 : decode cX7_isWhole 38 = .ok (.getfield 34, 3) := by decide +kernel
theorem dX7_isWhole_41 : decode cX7_isWhole 41 = .ok (.bipush 9, 2) := by decide +kernel
theorem dX7_isWhole_43 : decode cX7_isWhole 43 = .ok (.iload_n 1, 1) := by decide +kernel
theorem dX7_isWhole_44 : decode cX7_isWhole 44 = .ok (.imul, 1) := by decide +kernel
theorem dX7_isWhole_45 : decode cX7_isWhole 45 = .ok (.iconst 0, 1) := by decide +kernel
theorem dX7_isWhole_46 : decode cX7_isWhole 46 = .ok (.iadd, 1) := by decide +kernel
theorem dX7_isWhole_47 : decode cX7_isWhole 47 = .ok (.iaload, 1) := by decide +kernel
theorem dX7_isWhole_48 : decode cX7_isWhole 48 = .ok (.aload_n 0, 1) := by decide +kernel
theorem dX7_isWhole_49 : decode cX7_isWhole 49 = .ok (.getfield 34, 3) := by decide +kernel
theorem dX7_isWhole_52 : decode cX7_isWhole 52 = .ok (.bipush 9, 2) := by decide +kernel
theorem dX7_isWhole_54 : decode cX7_isWhole 54 = .ok (.iload_n 1, 1) := by decide +kernel
theorem dX7_isWhole_55 : decode cX7_isWhole 55 = .ok (.imul, 1) := by decide +kernel
theorem dX7_isWhole_56 : decode cX7_isWhole 56 = .ok (.iconst 1, 1) := by decide +kernel
theorem dX7_isWhole_57 : decode cX7_isWhole 57 = .ok (.iadd, 1) := by decide +kernel
theorem dX7_isWhole_58 : decode cX7_isWhole 58 = .ok (.iaload, 1) := by decide +kernel
theorem dX7_isWhole_59 : decode cX7_isWhole 59 = .ok (.imul, 1) := by decide +kernel
theorem dX7_isWhole_60 : decode cX7_isWhole 60 = .ok (.if_icmp .ge 21, 3) := by decide +kernel
theorem dX7_isWhole_63 : decode cX7_isWhole 63 = .ok (.aload_n 0, 1) := by decide +kernel
theorem dX7_isWhole_64 : decode cX7_isWhole 64 = .ok (.getfield 59, 3) := by decide +kernel
theorem dX7_isWhole_67 : decode cX7_isWhole 67 = .ok (.iload_n 2, 1) := by decide +kernel
theorem dX7_isWhole_68 : decode cX7_isWhole 68 = .ok (.iaload, 1) := by decide +kernel
theorem dX7_isWhole_69 : decode cX7_isWhole 69 = .ok (.iconst (-1), 1) := by decide +kernel
theorem dX7_isWhole_70 : decode cX7_isWhole 70 = .ok (.if_icmp .ne 5, 3) := by decide +kernel
theorem dX7_isWhole_73 : decode cX7_isWhole 73 = .ok (.iconst 0, 1) := by decide +kernel
theorem dX7_isWhole_74 : decode cX7_isWhole 74 = .ok (.ireturn, 1) := by decide +kernel
theorem dX7_isWhole_75 : decode cX7_isWhole 75 = .ok (.iinc 2 1, 3) := by decide +kernel
theorem dX7_isWhole_78 : decode cX7_isWhole 78 = .ok (.goto (-42), 3) := by decide +kernel
theorem dX7_isWhole_81 : decode cX7_isWhole 81 = .ok (.iconst 1, 1) := by decide +kernel
theorem dX7_isWhole_82 : decode cX7_isWhole 82 = .ok (.ireturn, 1) := by decide +kernel
def wz_X7_isWhole_0 : List Cond := .code yX7_isWhole cX7_isWhole 3 (some .boolean) :: ([Cond.fieldLink RX7 34 "HedgeMazeModel" "has" "[I", Cond.fieldLink RX7 59 "HedgeMazeModel" "far" "[I", Cond.methodLink RX7 273 yX7_spreads, Cond.instanceMethod yX7_spreads, Cond.selects RX7 yX7_spreads yX7_spreads, Cond.initialized RX7, Cond.code yX7_spreads cX7_spreads 4 none, Cond.fieldLink RX7 162 "HedgeMazeModel" "sides" "I", Cond.fieldLink RX7 37 "HedgeMazeModel" "state" "[I", Cond.fieldLink RX7 53 "HedgeMazeModel" "first" "[I", Cond.fieldLink RX7 56 "HedgeMazeModel" "second" "[I", Cond.methodLink RX7 269 yX7_nears, Cond.instanceMethod yX7_nears, Cond.selects RX7 yX7_nears yX7_nears, Cond.code yX7_nears cX7_nears 3 (some .boolean)] ++ wsX70)
theorem wd_X7_isWhole_0_0 : Cond.fieldLink RX7 34 "HedgeMazeModel" "has" "[I" ∈ wz_X7_isWhole_0 := List.mem_of_getElem? (i := 1) rfl
theorem wd_X7_isWhole_0_1 : Cond.fieldLink RX7 59 "HedgeMazeModel" "far" "[I" ∈ wz_X7_isWhole_0 := List.mem_of_getElem? (i := 2) rfl
theorem in_X7_isWhole_0_X7 : ∀ w ∈ wsX70, w ∈ wz_X7_isWhole_0 := fun _ h => List.mem_cons_of_mem _ (List.mem_append_right _ h)
set_option maxRecDepth 20000 in
theorem g_X7_isWhole_0_X7_spreads_0 : GoodIn wz_X7_isWhole_0 (wsV RX7 273 RX7 yX7_spreads wz_X7_spreads_0) := goodIn_r _ [3, 4, 5, 6, 7, 8, 9, 10, 11, 12, 13, 14, 6, 15, 2, 16, 17, 18, 19, 20, 21, 22, 23, 24, 25, 26, 27, 28, 29, 30, 31, 32, 33, 34, 35, 36, 37, 38, 39, 40, 41, 42, 43, 44, 45, 46, 47, 48, 49, 50, 51, 52, 53, 54] rfl (by decide +kernel)
set_option maxHeartbeats 4000000 in
set_option maxRecDepth 100000 in
theorem c_X7_isWhole_0 (l : Launch) (dC : Nat → ClassId) (dI : Nat → Nat → Nat) (sz : Nat) (mz : Nat) (mth : Int32) (mq1 : Nat) (mq2 : Nat) (mq3 : Nat) (mq4 : Nat) (mq5 : Nat) (mtd : Int32) (mat : Int32) (mtk : Int32) (mpl : Int32) (mva : Int32) (mwd : Int64) (mbd : Int32) (mbp : Int32) (mft : Int32) (mfp : Int32) (mq16 : Nat) (mq17 : Nat) (mq18 : Nat) (mq19 : Nat) (mq20 : Nat) (mq21 : Nat) (mlt : Int32) (mq23 : Nat) (mq24 : Nat) (mq25 : Nat) (msd : Int32) (mq27 : Nat) (mq28 : Nat) (mq29 : Nat) (mq30 : Nat) (mq31 : Nat) (mq32 : Nat) (mlr : Int32) (mst : Int32) (mob : Int64) (msb : Int64) (mq37 : Nat) (mln : Int32) (mk17 : ClassId) (mf17 : Nat → Int32) (mk18 : ClassId) (mf18 : Nat → Int32) (mk24 : ClassId) (mf24 : Nat → Int32) (mk25 : ClassId) (mf25 : Nat → Int32) (mk27 : ClassId) (mf27 : Nat → Int32) (h_sd : 0 ≤ msd.toInt ∧ msd.toInt ≤ 40) (hR_mq17 : HI mf17) (hR_mq24 : RG mf24 40 0 24) (hR_mq25 : RG mf25 40 0 24) (hR_mq27 : FI mf27) : Met l yX7_isWhole wz_X7_isWhole_0 ({ frames := 2, cells := 0, slots := 0, locals := 45 }) (va_Pc [.ref mz, .int 0] (fun U => U.heap.size = sz ∧ va_P (dC, dI) vwCl [(mz, .inr (7, [.int mth, .ref mq1, .ref mq2, .ref mq3, .ref mq4, .ref mq5, .int mtd, .int mat, .int mtk, .int mpl, .int mva, .long mwd, .int mbd, .int mbp, .int mft, .int mfp, .ref mq16, .ref mq17, .ref mq18, .ref mq19, .ref mq20, .ref mq21, .int mlt, .ref mq23, .ref mq24, .ref mq25, .int msd, .ref mq27, .ref mq28, .ref mq29, .ref mq30, .ref mq31, .ref mq32, .int mlr, .int mst, .long mob, .long msb, .ref mq37, .int mln])), (mq17, .inl (mk17, 45, .inl mf17)), (mq18, .inl (mk18, 200, .inl mf18)), (mq24, .inl (mk24, 40, .inl mf24)), (mq25, .inl (mk25, 40, .inl mf25)), (mq27, .inl (mk27, 25, .inl mf27))] U.heap ∧ va_K (dC, dI) vwCl [(mk17, .int), (mk18, .int), (mk24, .int), (mk25, .int), (mk27, .int)] U ∧ va_D (fun _ => True) [(mz, .inr (7, [.int mth, .ref mq1, .ref mq2, .ref mq3, .ref mq4, .ref mq5, .int mtd, .int mat, .int mtk, .int mpl, .int mva, .long mwd, .int mbd, .int mbp, .int mft, .int mfp, .ref mq16, .ref mq17, .ref mq18, .ref mq19, .ref mq20, .ref mq21, .int mlt, .ref mq23, .ref mq24, .ref mq25, .int msd, .ref mq27, .ref mq28, .ref mq29, .ref mq30, .ref mq31, .ref mq32, .int mlr, .int mst, .long mob, .long msb, .ref mq37, .int mln])), (mq17, .inl (mk17, 45, .inl mf17)), (mq18, .inl (mk18, 200, .inl mf18)), (mq24, .inl (mk24, 40, .inl mf24)), (mq25, .inl (mk25, 40, .inl mf25)), (mq27, .inl (mk27, 25, .inl mf27))])) (va_Qi (fun (r : Int32) (u : (Nat → Int32)) => ((r = 1 ∧ WH mf18 mf24 mf25 0 msd.toNatClampNeg ((mf17 0).toInt * (mf17 1).toInt).toNat) ∨ (r = 0 ∧ ¬ WH mf18 mf24 mf25 0 msd.toNatClampNeg ((mf17 0).toInt * (mf17 1).toInt).toNat)) ∧ (FI u)) (fun (u : (Nat → Int32)) (t : State) => va_P (dC, dI) vwCl [(mz, .inr (7, [.int mth, .ref mq1, .ref mq2, .ref mq3, .ref mq4, .ref mq5, .int mtd, .int mat, .int mtk, .int mpl, .int mva, .long mwd, .int mbd, .int mbp, .int mft, .int mfp, .ref mq16, .ref mq17, .ref mq18, .ref mq19, .ref mq20, .ref mq21, .int mlt, .ref mq23, .ref mq24, .ref mq25, .int msd, .ref mq27, .ref mq28, .ref mq29, .ref mq30, .ref mq31, .ref mq32, .int mlr, .int mst, .long mob, .long msb, .ref mq37, .int mln])), (mq17, .inl (mk17, 45, .inl mf17)), (mq18, .inl (mk18, 200, .inl mf18)), (mq24, .inl (mk24, 40, .inl mf24)), (mq25, .inl (mk25, 40, .inl mf25)), (mq27, .inl (mk27, 25, .inl u))] t.heap ∧ va_K (dC, dI) vwCl [] t ∧ va_D (va_A [(mz, .inr (7, [.int mth, .ref mq1, .ref mq2, .ref mq3, .ref mq4, .ref mq5, .int mtd, .int mat, .int mtk, .int mpl, .int mva, .long mwd, .int mbd, .int mbp, .int mft, .int mfp, .ref mq16, .ref mq17, .ref mq18, .ref mq19, .ref mq20, .ref mq21, .int mlt, .ref mq23, .ref mq24, .ref mq25, .int msd, .ref mq27, .ref mq28, .ref mq29, .ref mq30, .ref mq31, .ref mq32, .int mlr, .int mst, .long mob, .long msb, .ref mq37, .int mln])), (mq17, .inl (mk17, 45, .inl mf17)), (mq18, .inl (mk18, 200, .inl mf18)), (mq24, .inl (mk24, 40, .inl mf24)), (mq25, .inl (mk25, 40, .inl mf25)), (mq27, .inl (mk27, 25, .inl mf27))] sz) [(mz, .inr (7, [.int mth, .ref mq1, .ref mq2, .ref mq3, .ref mq4, .ref mq5, .int mtd, .int mat, .int mtk, .int mpl, .int mva, .long mwd, .int mbd, .int mbp, .int mft, .int mfp, .ref mq16, .ref mq17, .ref mq18, .ref mq19, .ref mq20, .ref mq21, .int mlt, .ref mq23, .ref mq24, .ref mq25, .int msd, .ref mq27, .ref mq28, .ref mq29, .ref mq30, .ref mq31, .ref mq32, .int mlr, .int mst, .long mob, .long msb, .ref mq37, .int mln])), (mq17, .inl (mk17, 45, .inl mf17)), (mq18, .inl (mk18, 200, .inl mf18)), (mq24, .inl (mk24, 40, .inl mf24)), (mq25, .inl (mk25, 40, .inl mf25)), (mq27, .inl (mk27, 25, .inl u))]) (va_A [(mz, .inr (7, [.int mth, .ref mq1, .ref mq2, .ref mq3, .ref mq4, .ref mq5, .int mtd, .int mat, .int mtk, .int mpl, .int mva, .long mwd, .int mbd, .int mbp, .int mft, .int mfp, .ref mq16, .ref mq17, .ref mq18, .ref mq19, .ref mq20, .ref mq21, .int mlt, .ref mq23, .ref mq24, .ref mq25, .int msd, .ref mq27, .ref mq28, .ref mq29, .ref mq30, .ref mq31, .ref mq32, .int mlr, .int mst, .long mob, .long msb, .ref mq37, .int mln])), (mq17, .inl (mk17, 45, .inl mf17)), (mq18, .inl (mk18, 200, .inl mf18)), (mq24, .inl (mk24, 40, .inl mf24)), (mq25, .inl (mk25, 40, .inl mf25)), (mq27, .inl (mk27, 25, .inl mf27))] sz)) 0 0 (va_A [(mz, .inr (7, [.int mth, .ref mq1, .ref mq2, .ref mq3, .ref mq4, .ref mq5, .int mtd, .int mat, .int mtk, .int mpl, .int mva, .long mwd, .int mbd, .int mbp, .int mft, .int mfp, .ref mq16, .ref mq17, .ref mq18, .ref mq19, .ref mq20, .ref mq21, .int mlt, .ref mq23, .ref mq24, .ref mq25, .int msd, .ref mq27, .ref mq28, .ref mq29, .ref mq30, .ref mq31, .ref mq32, .int mlr, .int mst, .long mob, .long msb, .ref mq37, .int mln])), (mq17, .inl (mk17, 45, .inl mf17)), (mq18, .inl (mk18, 200, .inl mf18)), (mq24, .inl (mk24, 40, .inl mf24)), (mq25, .inl (mk25, 40, .inl mf25)), (mq27, .inl (mk27, 25, .inl mf27))] sz) := by
  refine Met.ofW (cc := cX7_isWhole) (maxL := 3) (ret := (some .boolean)) (by decide) rfl ?_
  intro p e s m args below meth c s₁ B hml hv
  obtain ⟨rfl, hsz, hP, hK, hD0⟩ := hv
  have hx := B.exec
  have hb := B.bytes
  have hr := B.returns
  have hts := atoms_spec (ws := wz_X7_isWhole_0) B.pre
  have hown : s.vm.findClass RX7 = some m.cls := findClass_of_methodNamed B.named
  have hlocks := B.notSynchronized
  subst hsz
  have hD := hD0.self (sz := s.heap.size)
  generalize hAe : va_A [(mz, .inr (7, [.int mth, .ref mq1, .ref mq2, .ref mq3, .ref mq4, .ref mq5, .int mtd, .int mat, .int mtk, .int mpl, .int mva, .long mwd, .int mbd, .int mbp, .int mft, .int mfp, .ref mq16, .ref mq17, .ref mq18, .ref mq19, .ref mq20, .ref mq21, .int mlt, .ref mq23, .ref mq24, .ref mq25, .int msd, .ref mq27, .ref mq28, .ref mq29, .ref mq30, .ref mq31, .ref mq32, .int mlr, .int mst, .long mob, .long msb, .ref mq37, .int mln])), (mq17, .inl (mk17, 45, .inl mf17)), (mq18, .inl (mk18, 200, .inl mf18)), (mq24, .inl (mk24, 40, .inl mf24)), (mq25, .inl (mk25, 40, .inl mf25)), (mq27, .inl (mk27, 25, .inl mf27))] s.heap.size = A at hD ⊢
  have hA : ∀ q : Nat, s.heap.size ≤ q → A q := fun q h => by rw [← hAe]; exact Or.inr h
  have hS : va_S A s.heap s.heap [] := va_S.rf
  have hP : va_P (dC, dI) vwCl [(mz, .inr (7, [.int mth, .ref mq1, .ref mq2, .ref mq3, .ref mq4, .ref mq5, .int mtd, .int mat, .int mtk, .int mpl, .int mva, .long mwd, .int mbd, .int mbp, .int mft, .int mfp, .ref mq16, .ref mq17, .ref mq18, .ref mq19, .ref mq20, .ref mq21, .int mlt, .ref mq23, .ref mq24, .ref mq25, .int msd, .ref mq27, .ref mq28, .ref mq29, .ref mq30, .ref mq31, .ref mq32, .int mlr, .int mst, .long mob, .long msb, .ref mq37, .int mln])), (mq17, .inl (mk17, 45, .inl mf17)), (mq18, .inl (mk18, 200, .inl mf18)), (mq24, .inl (mk24, 40, .inl mf24)), (mq25, .inl (mk25, 40, .inl mf25)), (mq27, .inl (mk27, 25, .inl mf27))] s.heap := hP
  have hl := lv_entry ([.ref mz, .int 0]) (n := 3) (Nat.le_of_ble_eq_true rfl)
  rw [lg_entry_eq]
  generalize (lg_sl ([.ref mz, .int 0]) ++ List.replicate (3 - (lg_sl ([.ref mz, .int 0])).length) Slot.unset).toArray = ls at hl ⊢
  have hl : lv_has ls 3 [(0, .ref mz), (1, .int 0)] := hl
  have hcm := HI.cm hR_mq17
  refine lv_iconst (v := 0) hx hb dX7_isWhole_0 (by decide) ?_
  refine lv_istore_n (lv' := [(2, .int 0), (0, .ref mz), (1, .int 0)]) hx hb dX7_isWhole_1 rfl hl (by decide) rfl (fun ls hl => ?_)
  refine lp_W (I := fun (a : Int32 × (Nat → Int32)) H locs ls => (0 ≤ a.1.toInt ∧ a.1.toInt ≤ 25) ∧ (IN1 a.2 a.1.toNatClampNeg) ∧ va_P (dC, dI) vwCl [(mz, .inr (7, [.int mth, .ref mq1, .ref mq2, .ref mq3, .ref mq4, .ref mq5, .int mtd, .int mat, .int mtk, .int mpl, .int mva, .long mwd, .int mbd, .int mbp, .int mft, .int mfp, .ref mq16, .ref mq17, .ref mq18, .ref mq19, .ref mq20, .ref mq21, .int mlt, .ref mq23, .ref mq24, .ref mq25, .int msd, .ref mq27, .ref mq28, .ref mq29, .ref mq30, .ref mq31, .ref mq32, .int mlr, .int mst, .long mob, .long msb, .ref mq37, .int mln])), (mq17, .inl (mk17, 45, .inl mf17)), (mq18, .inl (mk18, 200, .inl mf18)), (mq24, .inl (mk24, 40, .inl mf24)), (mq25, .inl (mk25, 40, .inl mf25)), (mq27, .inl (mk27, 25, .inl a.2))] H ∧ va_D A [(mz, .inr (7, [.int mth, .ref mq1, .ref mq2, .ref mq3, .ref mq4, .ref mq5, .int mtd, .int mat, .int mtk, .int mpl, .int mva, .long mwd, .int mbd, .int mbp, .int mft, .int mfp, .ref mq16, .ref mq17, .ref mq18, .ref mq19, .ref mq20, .ref mq21, .int mlt, .ref mq23, .ref mq24, .ref mq25, .int msd, .ref mq27, .ref mq28, .ref mq29, .ref mq30, .ref mq31, .ref mq32, .int mlr, .int mst, .long mob, .long msb, .ref mq37, .int mln])), (mq17, .inl (mk17, 45, .inl mf17)), (mq18, .inl (mk18, 200, .inl mf18)), (mq24, .inl (mk24, 40, .inl mf24)), (mq25, .inl (mk25, 40, .inl mf25)), (mq27, .inl (mk27, 25, .inl a.2))] ∧ va_S A s.heap H locs ∧ lv_has ls 3 [(2, .int a.1), (0, .ref mz), (1, .int 0)]) (μ := fun a => (25 - a.1.toInt).toNat) ?_ ((0 : Int32), mf27) ⟨(by have k0 : (0 : Int32).toInt = 0 := (by decide); (try dsimp only); omega), (fun _ h9 => absurd h9 (Nat.not_lt_zero _)), hP.sub [0, 1, 2, 3, 4, 5] rfl, hD.sub [0, 1, 2, 3, 4, 5] (by decide) rfl, hS, lv_sub hl [0, 1, 2] rfl⟩
  intro a H locs ls hI ih2
  obtain ⟨i1, g1⟩ := a
  obtain ⟨h_i1, hI1, hP, hD, hS, hl⟩ := hI
  have h_i1 : 0 ≤ i1.toInt ∧ i1.toInt ≤ 25 := h_i1
  have hI1 : IN1 g1 i1.toNatClampNeg := hI1
  have hP : va_P (dC, dI) vwCl [(mz, .inr (7, [.int mth, .ref mq1, .ref mq2, .ref mq3, .ref mq4, .ref mq5, .int mtd, .int mat, .int mtk, .int mpl, .int mva, .long mwd, .int mbd, .int mbp, .int mft, .int mfp, .ref mq16, .ref mq17, .ref mq18, .ref mq19, .ref mq20, .ref mq21, .int mlt, .ref mq23, .ref mq24, .ref mq25, .int msd, .ref mq27, .ref mq28, .ref mq29, .ref mq30, .ref mq31, .ref mq32, .int mlr, .int mst, .long mob, .long msb, .ref mq37, .int mln])), (mq17, .inl (mk17, 45, .inl mf17)), (mq18, .inl (mk18, 200, .inl mf18)), (mq24, .inl (mk24, 40, .inl mf24)), (mq25, .inl (mk25, 40, .inl mf25)), (mq27, .inl (mk27, 25, .inl g1))] H := hP
  have hD : va_D A [(mz, .inr (7, [.int mth, .ref mq1, .ref mq2, .ref mq3, .ref mq4, .ref mq5, .int mtd, .int mat, .int mtk, .int mpl, .int mva, .long mwd, .int mbd, .int mbp, .int mft, .int mfp, .ref mq16, .ref mq17, .ref mq18, .ref mq19, .ref mq20, .ref mq21, .int mlt, .ref mq23, .ref mq24, .ref mq25, .int msd, .ref mq27, .ref mq28, .ref mq29, .ref mq30, .ref mq31, .ref mq32, .int mlr, .int mst, .long mob, .long msb, .ref mq37, .int mln])), (mq17, .inl (mk17, 45, .inl mf17)), (mq18, .inl (mk18, 200, .inl mf18)), (mq24, .inl (mk24, 40, .inl mf24)), (mq25, .inl (mk25, 40, .inl mf25)), (mq27, .inl (mk27, 25, .inl g1))] := hD
  have hl : lv_has ls 3 [(2, .int i1), (0, .ref mz), (1, .int 0)] := hl
  refine lv_iload_n hx hb dX7_isWhole_2 rfl (lv_at hl 0 rfl) ?_
  refine lv_bipush (v := 25) hx hb dX7_isWhole_3 (by decide) ?_
  refine lv_icmp_ge (tgt := 29) hx hb dX7_isWhole_5 (by decide) (fun c_1 => ?_) (fun c_1 => ?_)
  · have c_1 : 25 ≤ i1.toInt := i_le (a := 25) (b := i1) (by decide) rfl c_1
    have hIN : IN g1 := IN1.in hI1 rfl (by omega)
    have hFI1 : FI g1 := IN.fi hIN
    refine lv_aload_n hx hb dX7_isWhole_29 rfl (lv_at hl 1 rfl) ?_
    refine lv_iload_n hx hb dX7_isWhole_30 rfl (lv_at hl 2 rfl) ?_
    have hPc := hP.sub (ws' := [(mz, .inr (7, [.int mth, .ref mq1, .ref mq2, .ref mq3, .ref mq4, .ref mq5, .int mtd, .int mat, .int mtk, .int mpl, .int mva, .long mwd, .int mbd, .int mbp, .int mft, .int mfp, .ref mq16, .ref mq17, .ref mq18, .ref mq19, .ref mq20, .ref mq21, .int mlt, .ref mq23, .ref mq24, .ref mq25, .int msd, .ref mq27, .ref mq28, .ref mq29, .ref mq30, .ref mq31, .ref mq32, .int mlr, .int mst, .long mob, .long msb, .ref mq37, .int mln])), (mq18, .inl (mk18, 200, .inl mf18)), (mq24, .inl (mk24, 40, .inl mf24)), (mq25, .inl (mk25, 40, .inl mf25)), (mq27, .inl (mk27, 25, .inl g1))]) [0, 2, 3, 4, 5] rfl
    have hDc := hD.sub (ws' := [(mz, .inr (7, [.int mth, .ref mq1, .ref mq2, .ref mq3, .ref mq4, .ref mq5, .int mtd, .int mat, .int mtk, .int mpl, .int mva, .long mwd, .int mbd, .int mbp, .int mft, .int mfp, .ref mq16, .ref mq17, .ref mq18, .ref mq19, .ref mq20, .ref mq21, .int mlt, .ref mq23, .ref mq24, .ref mq25, .int msd, .ref mq27, .ref mq28, .ref mq29, .ref mq30, .ref mq31, .ref mq32, .int mlr, .int mst, .long mob, .long msb, .ref mq37, .int mln])), (mq18, .inl (mk18, 200, .inl mf18)), (mq24, .inl (mk24, 40, .inl mf24)), (mq25, .inl (mk25, 40, .inl mf25)), (mq27, .inl (mk27, 25, .inl g1))]) [0, 2, 3, 4, 5] (by decide) rfl
    have hKc := hK.sub (tys' := [(mk18, .int), (mk24, .int), (mk25, .int), (mk27, .int)]) [1, 2, 3, 4] rfl
    have hFc := va_free (wc := [(mz, .inr (7, [.int mth, .ref mq1, .ref mq2, .ref mq3, .ref mq4, .ref mq5, .int mtd, .int mat, .int mtk, .int mpl, .int mva, .long mwd, .int mbd, .int mbp, .int mft, .int mfp, .ref mq16, .ref mq17, .ref mq18, .ref mq19, .ref mq20, .ref mq21, .int mlt, .ref mq23, .ref mq24, .ref mq25, .int msd, .ref mq27, .ref mq28, .ref mq29, .ref mq30, .ref mq31, .ref mq32, .int mlr, .int mst, .long mob, .long msb, .ref mq37, .int mln])), (mq18, .inl (mk18, 200, .inl mf18)), (mq24, .inl (mk24, 40, .inl mf24)), (mq25, .inl (mk25, 40, .inl mf25)), (mq27, .inl (mk27, 25, .inl g1))]) hD hS hA [0, 2, 3, 4, 5] rfl
    refine va_callv (va_runV (As := [.int 0]) (rest := []) ⟨hx, hb, hml, hown, hts⟩ (c_X7_spreads_0 l dC dI H.size mz mth mq1 mq2 mq3 mq4 mq5 mtd mat mtk mpl mva mwd mbd mbp mft mfp mq16 mq17 mq18 mq19 mq20 mq21 mlt mq23 mq24 mq25 msd mq27 mq28 mq29 mq30 mq31 mq32 mlr mst mob msb mq37 mln mk18 mf18 mk24 mf24 mk25 mf25 mk27 g1 (by omega) hR_mq24 hR_mq25 hFI1) (cwV 1 hts g_X7_isWhole_0_X7_spreads_0 rfl rfl rfl (by decide +kernel) ⟨Nat.le_of_ble_eq_true rfl, Nat.le_of_ble_eq_true rfl⟩) ⟨fun a U g mk q => by obtain ⟨q0, q1, qP, qK, qD⟩ := q; exact ⟨q0, q1, qP, va_K.moved (u := U) (U := U.calling g mk a) (Vm.Alike.refl U.vm) qK, qD⟩, va_recv hKc hPc (ci := 7) (q0 := 0) rfl rfl, fun U hU hW => ⟨rfl, by rw [hU], by rw [hU]; exact hPc, va_K.moved hW.alike hKc, hDc.weaken (fun _ _ _ _ => trivial)⟩⟩ rfl rfl hl.1 rfl (lv_room (Nat.le_of_ble_eq_true rfl)) dX7_isWhole_31 ⟨Nat.le_of_ble_eq_true rfl, Nat.le_of_ble_eq_true rfl⟩) hS (fun q _ h => hFc q h) hFc (fun u t H1 locs ht hvm hw_2 hB hz1 hk1 hS => ?_)
    obtain ⟨ns27_3, rfl⟩ : ∃ z, z = u := ⟨_, rfl⟩
    obtain ⟨hP1, hK1, hD1⟩ := hB
    have hP1 : va_P (dC, dI) vwCl [(mz, .inr (7, [.int mth, .ref mq1, .ref mq2, .ref mq3, .ref mq4, .ref mq5, .int mtd, .int mat, .int mtk, .int mpl, .int mva, .long mwd, .int mbd, .int mbp, .int mft, .int mfp, .ref mq16, .ref mq17, .ref mq18, .ref mq19, .ref mq20, .ref mq21, .int mlt, .ref mq23, .ref mq24, .ref mq25, .int msd, .ref mq27, .ref mq28, .ref mq29, .ref mq30, .ref mq31, .ref mq32, .int mlr, .int mst, .long mob, .long msb, .ref mq37, .int mln])), (mq18, .inl (mk18, 200, .inl mf18)), (mq24, .inl (mk24, 40, .inl mf24)), (mq25, .inl (mk25, 40, .inl mf25)), (mq27, .inl (mk27, 25, .inl ns27_3))] t.heap := hP1
    rw [ht] at hP1
    try dsimp only at hw_2
    obtain ⟨hp_4, hp_5⟩ := hw_2
    obtain ⟨hP, hD⟩ := va_join (wr := [(mq17, .inl (mk17, 45, .inl mf17))]) (w1 := [(mz, .inr (7, [.int mth, .ref mq1, .ref mq2, .ref mq3, .ref mq4, .ref mq5, .int mtd, .int mat, .int mtk, .int mpl, .int mva, .long mwd, .int mbd, .int mbp, .int mft, .int mfp, .ref mq16, .ref mq17, .ref mq18, .ref mq19, .ref mq20, .ref mq21, .int mlt, .ref mq23, .ref mq24, .ref mq25, .int msd, .ref mq27, .ref mq28, .ref mq29, .ref mq30, .ref mq31, .ref mq32, .int mlr, .int mst, .long mob, .long msb, .ref mq37, .int mln])), (mq18, .inl (mk18, 200, .inl mf18)), (mq24, .inl (mk24, 40, .inl mf24)), (mq25, .inl (mk25, 40, .inl mf25)), (mq27, .inl (mk27, 25, .inl ns27_3))]) hP hD [0, 2, 3, 4, 5] [1] rfl rfl (by decide) (by decide) hk1 hFc hP1 hD1
    generalize H1 = H at hP hS ⊢
    have hP : va_P (dC, dI) vwCl [(mq17, .inl (mk17, 45, .inl mf17)), (mz, .inr (7, [.int mth, .ref mq1, .ref mq2, .ref mq3, .ref mq4, .ref mq5, .int mtd, .int mat, .int mtk, .int mpl, .int mva, .long mwd, .int mbd, .int mbp, .int mft, .int mfp, .ref mq16, .ref mq17, .ref mq18, .ref mq19, .ref mq20, .ref mq21, .int mlt, .ref mq23, .ref mq24, .ref mq25, .int msd, .ref mq27, .ref mq28, .ref mq29, .ref mq30, .ref mq31, .ref mq32, .int mlr, .int mst, .long mob, .long msb, .ref mq37, .int mln])), (mq18, .inl (mk18, 200, .inl mf18)), (mq24, .inl (mk24, 40, .inl mf24)), (mq25, .inl (mk25, 40, .inl mf25)), (mq27, .inl (mk27, 25, .inl ns27_3))] H := hP
    have hD : va_D A [(mq17, .inl (mk17, 45, .inl mf17)), (mz, .inr (7, [.int mth, .ref mq1, .ref mq2, .ref mq3, .ref mq4, .ref mq5, .int mtd, .int mat, .int mtk, .int mpl, .int mva, .long mwd, .int mbd, .int mbp, .int mft, .int mfp, .ref mq16, .ref mq17, .ref mq18, .ref mq19, .ref mq20, .ref mq21, .int mlt, .ref mq23, .ref mq24, .ref mq25, .int msd, .ref mq27, .ref mq28, .ref mq29, .ref mq30, .ref mq31, .ref mq32, .int mlr, .int mst, .long mob, .long msb, .ref mq37, .int mln])), (mq18, .inl (mk18, 200, .inl mf18)), (mq24, .inl (mk24, 40, .inl mf24)), (mq25, .inl (mk25, 40, .inl mf25)), (mq27, .inl (mk27, 25, .inl ns27_3))] := hD
    refine lv_iconst (v := 0) hx hb dX7_isWhole_34 (by decide) ?_
    refine lv_istore_n (lv' := [(2, .int 0), (0, .ref mz), (1, .int 0)]) hx hb dX7_isWhole_35 rfl hl (by decide) rfl (fun ls hl => ?_)
    refine lp_W (I := fun (a : Int32) H locs ls => (0 ≤ a.toInt ∧ a.toInt ≤ 25) ∧ (NN ns27_3 a.toNatClampNeg) ∧ va_P (dC, dI) vwCl [(mq17, .inl (mk17, 45, .inl mf17)), (mz, .inr (7, [.int mth, .ref mq1, .ref mq2, .ref mq3, .ref mq4, .ref mq5, .int mtd, .int mat, .int mtk, .int mpl, .int mva, .long mwd, .int mbd, .int mbp, .int mft, .int mfp, .ref mq16, .ref mq17, .ref mq18, .ref mq19, .ref mq20, .ref mq21, .int mlt, .ref mq23, .ref mq24, .ref mq25, .int msd, .ref mq27, .ref mq28, .ref mq29, .ref mq30, .ref mq31, .ref mq32, .int mlr, .int mst, .long mob, .long msb, .ref mq37, .int mln])), (mq18, .inl (mk18, 200, .inl mf18)), (mq24, .inl (mk24, 40, .inl mf24)), (mq25, .inl (mk25, 40, .inl mf25)), (mq27, .inl (mk27, 25, .inl ns27_3))] H ∧ va_D A [(mq17, .inl (mk17, 45, .inl mf17)), (mz, .inr (7, [.int mth, .ref mq1, .ref mq2, .ref mq3, .ref mq4, .ref mq5, .int mtd, .int mat, .int mtk, .int mpl, .int mva, .long mwd, .int mbd, .int mbp, .int mft, .int mfp, .ref mq16, .ref mq17, .ref mq18, .ref mq19, .ref mq20, .ref mq21, .int mlt, .ref mq23, .ref mq24, .ref mq25, .int msd, .ref mq27, .ref mq28, .ref mq29, .ref mq30, .ref mq31, .ref mq32, .int mlr, .int mst, .long mob, .long msb, .ref mq37, .int mln])), (mq18, .inl (mk18, 200, .inl mf18)), (mq24, .inl (mk24, 40, .inl mf24)), (mq25, .inl (mk25, 40, .inl mf25)), (mq27, .inl (mk27, 25, .inl ns27_3))] ∧ va_S A s.heap H locs ∧ lv_has ls 3 [(2, .int a), (0, .ref mz), (1, .int 0)]) (μ := fun a => (25 - a.toInt).toNat) ?_ ((0 : Int32)) ⟨(by have k0 : (0 : Int32).toInt = 0 := (by decide); (try dsimp only); omega), (fun _ h9 => absurd h9 (Nat.not_lt_zero _)), hP.sub [0, 1, 2, 3, 4, 5] rfl, hD.sub [0, 1, 2, 3, 4, 5] (by decide) rfl, hS, lv_sub hl [0, 1, 2] rfl⟩
    intro a H locs ls hI ih36
    obtain ⟨c1, rfl⟩ : ∃ z, z = a := ⟨_, rfl⟩
    obtain ⟨h_c1, hNN, hP, hD, hS, hl⟩ := hI
    have h_c1 : 0 ≤ c1.toInt ∧ c1.toInt ≤ 25 := h_c1
    have hNN : NN ns27_3 c1.toNatClampNeg := hNN
    have hP : va_P (dC, dI) vwCl [(mq17, .inl (mk17, 45, .inl mf17)), (mz, .inr (7, [.int mth, .ref mq1, .ref mq2, .ref mq3, .ref mq4, .ref mq5, .int mtd, .int mat, .int mtk, .int mpl, .int mva, .long mwd, .int mbd, .int mbp, .int mft, .int mfp, .ref mq16, .ref mq17, .ref mq18, .ref mq19, .ref mq20, .ref mq21, .int mlt, .ref mq23, .ref mq24, .ref mq25, .int msd, .ref mq27, .ref mq28, .ref mq29, .ref mq30, .ref mq31, .ref mq32, .int mlr, .int mst, .long mob, .long msb, .ref mq37, .int mln])), (mq18, .inl (mk18, 200, .inl mf18)), (mq24, .inl (mk24, 40, .inl mf24)), (mq25, .inl (mk25, 40, .inl mf25)), (mq27, .inl (mk27, 25, .inl ns27_3))] H := hP
    have hD : va_D A [(mq17, .inl (mk17, 45, .inl mf17)), (mz, .inr (7, [.int mth, .ref mq1, .ref mq2, .ref mq3, .ref mq4, .ref mq5, .int mtd, .int mat, .int mtk, .int mpl, .int mva, .long mwd, .int mbd, .int mbp, .int mft, .int mfp, .ref mq16, .ref mq17, .ref mq18, .ref mq19, .ref mq20, .ref mq21, .int mlt, .ref mq23, .ref mq24, .ref mq25, .int msd, .ref mq27, .ref mq28, .ref mq29, .ref mq30, .ref mq31, .ref mq32, .int mlr, .int mst, .long mob, .long msb, .ref mq37, .int mln])), (mq18, .inl (mk18, 200, .inl mf18)), (mq24, .inl (mk24, 40, .inl mf24)), (mq25, .inl (mk25, 40, .inl mf25)), (mq27, .inl (mk27, 25, .inl ns27_3))] := hD
    have hl : lv_has ls 3 [(2, .int c1), (0, .ref mz), (1, .int 0)] := hl
    refine lv_iload_n hx hb dX7_isWhole_36 rfl (lv_at hl 0 rfl) ?_
    refine lv_aload_n hx hb dX7_isWhole_37 rfl (lv_at hl 1 rfl) ?_
    refine va_get (D := (dC, dI)) (ci := 7) (v := .ref mq17) (C := RX7) (T := TX7) (N := 39) hx hb hts in_X7_isWhole_0_X7 hown hK hP 1 rfl rfl 17 (by decide) (hts _ wd_X7_isWhole_0_0) (fun _ h9 => h9) rfl dX7_isWhole_38 ?_
    refine lv_bipush (v := 9) hx hb dX7_isWhole_41 (by decide) ?_
    refine lv_iload_n hx hb dX7_isWhole_43 rfl (lv_at hl 2 rfl) ?_
    refine lv_imul hx hb dX7_isWhole_44 ?_
    refine lv_topi (fun z_6 ez_6 => ?_)
    obtain rfl : z_6 = 0 := ez_6.trans (by decide)
    refine lv_iconst (v := 0) hx hb dX7_isWhole_45 (by decide) ?_
    refine lv_iadd hx hb dX7_isWhole_46 ?_
    refine lv_topi (fun z_7 ez_7 => ?_)
    obtain rfl : z_7 = 0 := ez_7.trans (by decide)
    have hin_8 : vp_in ((0 : Int32)) 45 := (vp_in_iff.mpr ⟨by decide, by decide⟩)
    refine va_iald hx hb hK hP 0 0 rfl rfl hin_8 dX7_isWhole_47 ?_
    refine lv_topi (fun v_9 ev_9 => ?_)
    have hv_9 := HI.r0 hR_mq17
    refine lv_aload_n hx hb dX7_isWhole_48 rfl (lv_at hl 1 rfl) ?_
    refine va_get (D := (dC, dI)) (ci := 7) (v := .ref mq17) (C := RX7) (T := TX7) (N := 39) hx hb hts in_X7_isWhole_0_X7 hown hK hP 1 rfl rfl 17 (by decide) (hts _ wd_X7_isWhole_0_0) (fun _ h9 => h9) rfl dX7_isWhole_49 ?_
    refine lv_bipush (v := 9) hx hb dX7_isWhole_52 (by decide) ?_
    refine lv_iload_n hx hb dX7_isWhole_54 rfl (lv_at hl 2 rfl) ?_
    refine lv_imul hx hb dX7_isWhole_55 ?_
    refine lv_topi (fun z_10 ez_10 => ?_)
    obtain rfl : z_10 = 0 := ez_10.trans (by decide)
    refine lv_iconst (v := 1) hx hb dX7_isWhole_56 (by decide) ?_
    refine lv_iadd hx hb dX7_isWhole_57 ?_
    refine lv_topi (fun z_11 ez_11 => ?_)
    obtain rfl : z_11 = 1 := ez_11.trans (by decide)
    have hin_12 : vp_in ((1 : Int32)) 45 := (vp_in_iff.mpr ⟨by decide, by decide⟩)
    refine va_iald hx hb hK hP 0 0 rfl rfl hin_12 dX7_isWhole_58 ?_
    refine lv_topi (fun v_13 ev_13 => ?_)
    have hv_13 := HI.r0 hR_mq17
    refine lv_imul hx hb dX7_isWhole_59 ?_
    refine lv_topi (fun x_14 ex_14 => ?_)
    have zx_14 : x_14.toInt = ((mf17 0).toInt * (mf17 1).toInt) := i_mulz ex_14 (show v_9.toInt = (mf17 0).toInt from congrArg Int32.toInt ev_9) (show v_13.toInt = (mf17 1).toInt from congrArg Int32.toInt ev_13) (by omega) (by omega)
    refine lv_icmp_ge (tgt := 81) hx hb dX7_isWhole_60 (by decide) (fun c_15 => ?_) (fun c_15 => ?_)
    · have c_15 : x_14.toInt ≤ c1.toInt := i_le (a := x_14) (b := c1) rfl rfl c_15
      refine lv_iconst (v := 1) hx hb dX7_isWhole_81 (by decide) ?_
      have hP9 := hP.sub (ws' := [(mz, .inr (7, [.int mth, .ref mq1, .ref mq2, .ref mq3, .ref mq4, .ref mq5, .int mtd, .int mat, .int mtk, .int mpl, .int mva, .long mwd, .int mbd, .int mbp, .int mft, .int mfp, .ref mq16, .ref mq17, .ref mq18, .ref mq19, .ref mq20, .ref mq21, .int mlt, .ref mq23, .ref mq24, .ref mq25, .int msd, .ref mq27, .ref mq28, .ref mq29, .ref mq30, .ref mq31, .ref mq32, .int mlr, .int mst, .long mob, .long msb, .ref mq37, .int mln])), (mq17, .inl (mk17, 45, .inl mf17)), (mq18, .inl (mk18, 200, .inl mf18)), (mq24, .inl (mk24, 40, .inl mf24)), (mq25, .inl (mk25, 40, .inl mf25)), (mq27, .inl (mk27, 25, .inl ns27_3))]) [1, 0, 2, 3, 4, 5] rfl
      have hD9 := hD.sub (ws' := [(mz, .inr (7, [.int mth, .ref mq1, .ref mq2, .ref mq3, .ref mq4, .ref mq5, .int mtd, .int mat, .int mtk, .int mpl, .int mva, .long mwd, .int mbd, .int mbp, .int mft, .int mfp, .ref mq16, .ref mq17, .ref mq18, .ref mq19, .ref mq20, .ref mq21, .int mlt, .ref mq23, .ref mq24, .ref mq25, .int msd, .ref mq27, .ref mq28, .ref mq29, .ref mq30, .ref mq31, .ref mq32, .int mlr, .int mst, .long mob, .long msb, .ref mq37, .int mln])), (mq17, .inl (mk17, 45, .inl mf17)), (mq18, .inl (mk18, 200, .inl mf18)), (mq24, .inl (mk24, 40, .inl mf24)), (mq25, .inl (mk25, 40, .inl mf25)), (mq27, .inl (mk27, 25, .inl ns27_3))]) [1, 0, 2, 3, 4, 5] (by decide) rfl
      have hK9 := hK.sub (tys' := []) [] rfl
      refine W.widen (k := 0) (n := 0) (by omega) (by omega) ?_
      exact W.zret (v := 1) hx hb hr (by decide) (fun t ht hW => ⟨⟨1, (ns27_3), rfl, ⟨Or.inl ⟨rfl, g1, ns27_3, hIN, hp_4, fun c9 hc9 => hNN c9 (by rw [i_cn (k := c1) rfl]; omega)⟩, hp_5⟩, by rw [ht]; exact hP9, va_K.moved hW.alike hK9, hD9⟩, hS.F ht⟩) hS.2.2 dX7_isWhole_82
    · have c_15 : c1.toInt < x_14.toInt := i_nle (a := x_14) (b := c1) rfl rfl c_15
      refine lv_aload_n hx hb dX7_isWhole_63 rfl (lv_at hl 1 rfl) ?_
      refine va_get (D := (dC, dI)) (ci := 7) (v := .ref mq27) (C := RX7) (T := TX7) (N := 39) hx hb hts in_X7_isWhole_0_X7 hown hK hP 1 rfl rfl 27 (by decide) (hts _ wd_X7_isWhole_0_1) (fun _ h9 => h9) rfl dX7_isWhole_64 ?_
      refine lv_iload_n hx hb dX7_isWhole_67 rfl (lv_at hl 0 rfl) ?_
      have hin_16 : vp_in c1 25 := (i_in rfl (by omega) (by omega))
      refine va_iald hx hb hK hP 5 4 rfl rfl hin_16 dX7_isWhole_68 ?_
      refine lv_topi (fun v_17 ev_17 => ?_)
      have kv_17 : v_17.toInt = (ns27_3 c1.toNatClampNeg).toInt := congrArg Int32.toInt ev_17
      have hv_17 := FI.at hp_5 hin_16 ev_17
      refine lv_iconst (v := -1) hx hb dX7_isWhole_69 (by decide) ?_
      refine lv_icmp_ne (tgt := 75) hx hb dX7_isWhole_70 (by decide) (fun c_18 => ?_) (fun c_18 => ?_)
      · have c_18 : v_17.toInt ≠ (-1) := i_ne (a := v_17) (b := -1) rfl (by decide) c_18
        obtain ⟨x_19, ex_19⟩ : ∃ y9 : Int32, y9 = c1 + Int32.ofInt 1 := ⟨_, rfl⟩
        have zx_19 : x_19.toInt = c1.toInt + 1 := by rw [ex_19]; exact i_add rfl (show (Int32.ofInt 1).toInt = 1 by decide) (by omega) (by omega)
        refine lv_iinc (v := x_19) (lv' := [(2, .int x_19), (0, .ref mz), (1, .int 0)]) hx hb dX7_isWhole_75 hl (k := 0) rfl (by rw [ex_19]) (by decide) rfl (fun ls hl => ?_)
        refine lv_goto (tgt := 36) hx hb dX7_isWhole_78 (by decide) ?_
        exact ih36 (x_19) _ _ _ ⟨(by (try dsimp only); omega), (NN.up hNN ev_17 (fun q9 => absurd (congrArg Int32.toInt q9) (by have k9 : (-1 : Int32).toInt = -1 := (by decide); rw [k9]; omega)) (i_sc (k := c1) (k2 := x_19) rfl (by omega) (by omega))), hP.sub [0, 1, 2, 3, 4, 5] rfl, hD.sub [0, 1, 2, 3, 4, 5] (by decide) rfl, hS, lv_sub hl [0, 1, 2] rfl⟩ (by (try dsimp only); omega)
      · have c_18 : v_17.toInt = (-1) := i_eq (a := v_17) (b := -1) rfl (by decide) c_18
        refine lv_iconst (v := 0) hx hb dX7_isWhole_73 (by decide) ?_
        have hP9 := hP.sub (ws' := [(mz, .inr (7, [.int mth, .ref mq1, .ref mq2, .ref mq3, .ref mq4, .ref mq5, .int mtd, .int mat, .int mtk, .int mpl, .int mva, .long mwd, .int mbd, .int mbp, .int mft, .int mfp, .ref mq16, .ref mq17, .ref mq18, .ref mq19, .ref mq20, .ref mq21, .int mlt, .ref mq23, .ref mq24, .ref mq25, .int msd, .ref mq27, .ref mq28, .ref mq29, .ref mq30, .ref mq31, .ref mq32, .int mlr, .int mst, .long mob, .long msb, .ref mq37, .int mln])), (mq17, .inl (mk17, 45, .inl mf17)), (mq18, .inl (mk18, 200, .inl mf18)), (mq24, .inl (mk24, 40, .inl mf24)), (mq25, .inl (mk25, 40, .inl mf25)), (mq27, .inl (mk27, 25, .inl ns27_3))]) [1, 0, 2, 3, 4, 5] rfl
        have hD9 := hD.sub (ws' := [(mz, .inr (7, [.int mth, .ref mq1, .ref mq2, .ref mq3, .ref mq4, .ref mq5, .int mtd, .int mat, .int mtk, .int mpl, .int mva, .long mwd, .int mbd, .int mbp, .int mft, .int mfp, .ref mq16, .ref mq17, .ref mq18, .ref mq19, .ref mq20, .ref mq21, .int mlt, .ref mq23, .ref mq24, .ref mq25, .int msd, .ref mq27, .ref mq28, .ref mq29, .ref mq30, .ref mq31, .ref mq32, .int mlr, .int mst, .long mob, .long msb, .ref mq37, .int mln])), (mq17, .inl (mk17, 45, .inl mf17)), (mq18, .inl (mk18, 200, .inl mf18)), (mq24, .inl (mk24, 40, .inl mf24)), (mq25, .inl (mk25, 40, .inl mf25)), (mq27, .inl (mk27, 25, .inl ns27_3))]) [1, 0, 2, 3, 4, 5] (by decide) rfl
        have hK9 := hK.sub (tys' := []) [] rfl
        refine W.widen (k := 0) (n := 0) (by omega) (by omega) ?_
        exact W.zret (v := 0) hx hb hr (by decide) (fun t ht hW => ⟨⟨0, (ns27_3), rfl, ⟨Or.inr ⟨rfl, WH.no hR_mq24 hR_mq25 (by rw [i_cn (k := msd) rfl]; omega) (by omega) hIN hp_4 (c := c1.toNatClampNeg) (by rw [i_cn (k := c1) rfl]; omega) (by rw [← ev_17]; exact i_of (by have k9 : (-1 : Int32).toInt = -1 := (by decide); omega))⟩, hp_5⟩, by rw [ht]; exact hP9, va_K.moved hW.alike hK9, hD9⟩, hS.F ht⟩) hS.2.2 dX7_isWhole_74
  · have c_1 : i1.toInt < 25 := i_nle (a := 25) (b := i1) (by decide) rfl c_1
    refine lv_aload_n hx hb dX7_isWhole_8 rfl (lv_at hl 1 rfl) ?_
    refine va_get (D := (dC, dI)) (ci := 7) (v := .ref mq27) (C := RX7) (T := TX7) (N := 39) hx hb hts in_X7_isWhole_0_X7 hown hK hP 0 rfl rfl 27 (by decide) (hts _ wd_X7_isWhole_0_1) (fun _ h9 => h9) rfl dX7_isWhole_9 ?_
    refine lv_iload_n hx hb dX7_isWhole_12 rfl (lv_at hl 0 rfl) ?_
    refine lv_iload_n hx hb dX7_isWhole_13 rfl (lv_at hl 0 rfl) ?_
    refine lv_if_ne (tgt := 21) hx hb dX7_isWhole_14 (by decide) (fun c_20 => ?_) (fun c_20 => ?_)
    · have c_20 : i1.toInt ≠ 0 := i_ne (a := i1) (b := 0) rfl (by decide) c_20
      refine lv_iconst (v := -1) hx hb dX7_isWhole_21 (by decide) ?_
      refine va_iast hx hb hK hP hD hS 5 4 rfl rfl (i_in rfl (by omega) (by omega)) dX7_isWhole_22 (fun H locs hP hD hS => ?_)
      have hP : va_P (dC, dI) vwCl [(mz, .inr (7, [.int mth, .ref mq1, .ref mq2, .ref mq3, .ref mq4, .ref mq5, .int mtd, .int mat, .int mtk, .int mpl, .int mva, .long mwd, .int mbd, .int mbp, .int mft, .int mfp, .ref mq16, .ref mq17, .ref mq18, .ref mq19, .ref mq20, .ref mq21, .int mlt, .ref mq23, .ref mq24, .ref mq25, .int msd, .ref mq27, .ref mq28, .ref mq29, .ref mq30, .ref mq31, .ref mq32, .int mlr, .int mst, .long mob, .long msb, .ref mq37, .int mln])), (mq17, .inl (mk17, 45, .inl mf17)), (mq18, .inl (mk18, 200, .inl mf18)), (mq24, .inl (mk24, 40, .inl mf24)), (mq25, .inl (mk25, 40, .inl mf25)), (mq27, .inl (mk27, 25, .inl (upd g1 i1.toNatClampNeg (-1))))] H := hP
      have hD : va_D A [(mz, .inr (7, [.int mth, .ref mq1, .ref mq2, .ref mq3, .ref mq4, .ref mq5, .int mtd, .int mat, .int mtk, .int mpl, .int mva, .long mwd, .int mbd, .int mbp, .int mft, .int mfp, .ref mq16, .ref mq17, .ref mq18, .ref mq19, .ref mq20, .ref mq21, .int mlt, .ref mq23, .ref mq24, .ref mq25, .int msd, .ref mq27, .ref mq28, .ref mq29, .ref mq30, .ref mq31, .ref mq32, .int mlr, .int mst, .long mob, .long msb, .ref mq37, .int mln])), (mq17, .inl (mk17, 45, .inl mf17)), (mq18, .inl (mk18, 200, .inl mf18)), (mq24, .inl (mk24, 40, .inl mf24)), (mq25, .inl (mk25, 40, .inl mf25)), (mq27, .inl (mk27, 25, .inl (upd g1 i1.toNatClampNeg (-1))))] := hD
      obtain ⟨f_21, ef_21⟩ : ∃ g, g = upd g1 i1.toNatClampNeg (-1) := ⟨_, rfl⟩
      rw [← ef_21] at hP hD
      obtain ⟨x_22, ex_22⟩ : ∃ y9 : Int32, y9 = i1 + Int32.ofInt 1 := ⟨_, rfl⟩
      have zx_22 : x_22.toInt = i1.toInt + 1 := by rw [ex_22]; exact i_add rfl (show (Int32.ofInt 1).toInt = 1 by decide) (by omega) (by omega)
      refine lv_iinc (v := x_22) (lv' := [(2, .int x_22), (0, .ref mz), (1, .int 0)]) hx hb dX7_isWhole_23 hl (k := 0) rfl (by rw [ex_22]) (by decide) rfl (fun ls hl => ?_)
      refine lv_goto (tgt := 2) hx hb dX7_isWhole_26 (by decide) ?_
      exact ih2 (x_22, f_21) _ _ _ ⟨(by (try dsimp only); omega), (IN1.upd1 hI1 ef_21 (by rw [i_cn (k := i1) rfl]; first | rw [if_pos (by omega)] | rw [if_neg (by omega)]) (i_sc (k := i1) (k2 := x_22) rfl (by omega) (by omega))), hP.sub [0, 1, 2, 3, 4, 5] rfl, hD.sub [0, 1, 2, 3, 4, 5] (by decide) rfl, hS, lv_sub hl [0, 1, 2] rfl⟩ (by (try dsimp only); omega)
    · have c_20 : i1.toInt = 0 := i_eq (a := i1) (b := 0) rfl (by decide) c_20
      refine lv_iconst (v := 0) hx hb dX7_isWhole_17 (by decide) ?_
      refine lv_goto (tgt := 22) hx hb dX7_isWhole_18 (by decide) ?_
      refine va_iast hx hb hK hP hD hS 5 4 rfl rfl (i_in rfl (by omega) (by omega)) dX7_isWhole_22 (fun H locs hP hD hS => ?_)
      have hP : va_P (dC, dI) vwCl [(mz, .inr (7, [.int mth, .ref mq1, .ref mq2, .ref mq3, .ref mq4, .ref mq5, .int mtd, .int mat, .int mtk, .int mpl, .int mva, .long mwd, .int mbd, .int mbp, .int mft, .int mfp, .ref mq16, .ref mq17, .ref mq18, .ref mq19, .ref mq20, .ref mq21, .int mlt, .ref mq23, .ref mq24, .ref mq25, .int msd, .ref mq27, .ref mq28, .ref mq29, .ref mq30, .ref mq31, .ref mq32, .int mlr, .int mst, .long mob, .long msb, .ref mq37, .int mln])), (mq17, .inl (mk17, 45, .inl mf17)), (mq18, .inl (mk18, 200, .inl mf18)), (mq24, .inl (mk24, 40, .inl mf24)), (mq25, .inl (mk25, 40, .inl mf25)), (mq27, .inl (mk27, 25, .inl (upd g1 i1.toNatClampNeg 0)))] H := hP
      have hD : va_D A [(mz, .inr (7, [.int mth, .ref mq1, .ref mq2, .ref mq3, .ref mq4, .ref mq5, .int mtd, .int mat, .int mtk, .int mpl, .int mva, .long mwd, .int mbd, .int mbp, .int mft, .int mfp, .ref mq16, .ref mq17, .ref mq18, .ref mq19, .ref mq20, .ref mq21, .int mlt, .ref mq23, .ref mq24, .ref mq25, .int msd, .ref mq27, .ref mq28, .ref mq29, .ref mq30, .ref mq31, .ref mq32, .int mlr, .int mst, .long mob, .long msb, .ref mq37, .int mln])), (mq17, .inl (mk17, 45, .inl mf17)), (mq18, .inl (mk18, 200, .inl mf18)), (mq24, .inl (mk24, 40, .inl mf24)), (mq25, .inl (mk25, 40, .inl mf25)), (mq27, .inl (mk27, 25, .inl (upd g1 i1.toNatClampNeg 0)))] := hD
      obtain ⟨f_23, ef_23⟩ : ∃ g, g = upd g1 i1.toNatClampNeg 0 := ⟨_, rfl⟩
      rw [← ef_23] at hP hD
      obtain ⟨x_24, ex_24⟩ : ∃ y9 : Int32, y9 = i1 + Int32.ofInt 1 := ⟨_, rfl⟩
      have zx_24 : x_24.toInt = i1.toInt + 1 := by rw [ex_24]; exact i_add rfl (show (Int32.ofInt 1).toInt = 1 by decide) (by omega) (by omega)
      refine lv_iinc (v := x_24) (lv' := [(2, .int x_24), (0, .ref mz), (1, .int 0)]) hx hb dX7_isWhole_23 hl (k := 0) rfl (by rw [ex_24]) (by decide) rfl (fun ls hl => ?_)
      refine lv_goto (tgt := 2) hx hb dX7_isWhole_26 (by decide) ?_
      exact ih2 (x_24, f_23) _ _ _ ⟨(by (try dsimp only); omega), (IN1.upd1 hI1 ef_23 (by rw [i_cn (k := i1) rfl]; first | rw [if_pos (by omega)] | rw [if_neg (by omega)]) (i_sc (k := i1) (k2 := x_24) rfl (by omega) (by omega))), hP.sub [0, 1, 2, 3, 4, 5] rfl, hD.sub [0, 1, 2, 3, 4, 5] (by decide) rfl, hS, lv_sub hl [0, 1, 2] rfl⟩ (by (try dsimp only); omega)

def wz_X7_isWhole_4 : List Cond := .code yX7_isWhole cX7_isWhole 3 (some .boolean) :: ([Cond.fieldLink RX7 34 "HedgeMazeModel" "has" "[I", Cond.fieldLink RX7 59 "HedgeMazeModel" "far" "[I", Cond.methodLink RX7 273 yX7_spreads, Cond.instanceMethod yX7_spreads, Cond.selects RX7 yX7_spreads yX7_spreads, Cond.initialized RX7, Cond.code yX7_spreads cX7_spreads 4 none, Cond.fieldLink RX7 162 "HedgeMazeModel" "sides" "I", Cond.fieldLink RX7 37 "HedgeMazeModel" "state" "[I", Cond.fieldLink RX7 53 "HedgeMazeModel" "first" "[I", Cond.fieldLink RX7 56 "HedgeMazeModel" "second" "[I", Cond.methodLink RX7 269 yX7_nears, Cond.instanceMethod yX7_nears, Cond.selects RX7 yX7_nears yX7_nears, Cond.code yX7_nears cX7_nears 3 (some .boolean)] ++ wsX70)
theorem wd_X7_isWhole_4_0 : Cond.fieldLink RX7 34 "HedgeMazeModel" "has" "[I" ∈ wz_X7_isWhole_4 := List.mem_of_getElem? (i := 1) rfl
theorem wd_X7_isWhole_4_1 : Cond.fieldLink RX7 59 "HedgeMazeModel" "far" "[I" ∈ wz_X7_isWhole_4 := List.mem_of_getElem? (i := 2) rfl
theorem in_X7_isWhole_4_X7 : ∀ w ∈ wsX70, w ∈ wz_X7_isWhole_4 := fun _ h => List.mem_cons_of_mem _ (List.mem_append_right _ h)
set_option maxRecDepth 20000 in
theorem g_X7_isWhole_4_X7_spreads_4 : GoodIn wz_X7_isWhole_4 (wsV RX7 273 RX7 yX7_spreads wz_X7_spreads_4) := goodIn_r _ [3, 4, 5, 6, 7, 8, 9, 10, 11, 12, 13, 14, 6, 15, 2, 16, 17, 18, 19, 20, 21, 22, 23, 24, 25, 26, 27, 28, 29, 30, 31, 32, 33, 34, 35, 36, 37, 38, 39, 40, 41, 42, 43, 44, 45, 46, 47, 48, 49, 50, 51, 52, 53, 54] rfl (by decide +kernel)
set_option maxHeartbeats 4000000 in
set_option maxRecDepth 100000 in
theorem c_X7_isWhole_4 (l : Launch) (dC : Nat → ClassId) (dI : Nat → Nat → Nat) (sz : Nat) (mz : Nat) (mth : Int32) (mq1 : Nat) (mq2 : Nat) (mq3 : Nat) (mq4 : Nat) (mq5 : Nat) (mtd : Int32) (mat : Int32) (mtk : Int32) (mpl : Int32) (mva : Int32) (mwd : Int64) (mbd : Int32) (mbp : Int32) (mft : Int32) (mfp : Int32) (mq16 : Nat) (mq17 : Nat) (mq18 : Nat) (mq19 : Nat) (mq20 : Nat) (mq21 : Nat) (mlt : Int32) (mq23 : Nat) (mq24 : Nat) (mq25 : Nat) (msd : Int32) (mq27 : Nat) (mq28 : Nat) (mq29 : Nat) (mq30 : Nat) (mq31 : Nat) (mq32 : Nat) (mlr : Int32) (mst : Int32) (mob : Int64) (msb : Int64) (mq37 : Nat) (mln : Int32) (mk17 : ClassId) (mf17 : Nat → Int32) (mk18 : ClassId) (mf18 : Nat → Int32) (mk24 : ClassId) (mf24 : Nat → Int32) (mk25 : ClassId) (mf25 : Nat → Int32) (mk27 : ClassId) (mf27 : Nat → Int32) (h_sd : 0 ≤ msd.toInt ∧ msd.toInt ≤ 40) (hR_mq17 : HI mf17) (hR_mq24 : RG mf24 40 0 24) (hR_mq25 : RG mf25 40 0 24) (hR_mq27 : FI mf27) : Met l yX7_isWhole wz_X7_isWhole_4 ({ frames := 2, cells := 0, slots := 0, locals := 45 }) (va_Pc [.ref mz, .int 4] (fun U => U.heap.size = sz ∧ va_P (dC, dI) vwCl [(mz, .inr (7, [.int mth, .ref mq1, .ref mq2, .ref mq3, .ref mq4, .ref mq5, .int mtd, .int mat, .int mtk, .int mpl, .int mva, .long mwd, .int mbd, .int mbp, .int mft, .int mfp, .ref mq16, .ref mq17, .ref mq18, .ref mq19, .ref mq20, .ref mq21, .int mlt, .ref mq23, .ref mq24, .ref mq25, .int msd, .ref mq27, .ref mq28, .ref mq29, .ref mq30, .ref mq31, .ref mq32, .int mlr, .int mst, .long mob, .long msb, .ref mq37, .int mln])), (mq17, .inl (mk17, 45, .inl mf17)), (mq18, .inl (mk18, 200, .inl mf18)), (mq24, .inl (mk24, 40, .inl mf24)), (mq25, .inl (mk25, 40, .inl mf25)), (mq27, .inl (mk27, 25, .inl mf27))] U.heap ∧ va_K (dC, dI) vwCl [(mk17, .int), (mk18, .int), (mk24, .int), (mk25, .int), (mk27, .int)] U ∧ va_D (fun _ => True) [(mz, .inr (7, [.int mth, .ref mq1, .ref mq2, .ref mq3, .ref mq4, .ref mq5, .int mtd, .int mat, .int mtk, .int mpl, .int mva, .long mwd, .int mbd, .int mbp, .int mft, .int mfp, .ref mq16, .ref mq17, .ref mq18, .ref mq19, .ref mq20, .ref mq21, .int mlt, .ref mq23, .ref mq24, .ref mq25, .int msd, .ref mq27, .ref mq28, .ref mq29, .ref mq30, .ref mq31, .ref mq32, .int mlr, .int mst, .long mob, .long msb, .ref mq37, .int mln])), (mq17, .inl (mk17, 45, .inl mf17)), (mq18, .inl (mk18, 200, .inl mf18)), (mq24, .inl (mk24, 40, .inl mf24)), (mq25, .inl (mk25, 40, .inl mf25)), (mq27, .inl (mk27, 25, .inl mf27))])) (va_Qi (fun (r : Int32) (u : (Nat → Int32)) => ((r = 1 ∧ WH mf18 mf24 mf25 160 msd.toNatClampNeg ((mf17 36).toInt * (mf17 37).toInt).toNat) ∨ (r = 0 ∧ ¬ WH mf18 mf24 mf25 160 msd.toNatClampNeg ((mf17 36).toInt * (mf17 37).toInt).toNat)) ∧ (FI u)) (fun (u : (Nat → Int32)) (t : State) => va_P (dC, dI) vwCl [(mz, .inr (7, [.int mth, .ref mq1, .ref mq2, .ref mq3, .ref mq4, .ref mq5, .int mtd, .int mat, .int mtk, .int mpl, .int mva, .long mwd, .int mbd, .int mbp, .int mft, .int mfp, .ref mq16, .ref mq17, .ref mq18, .ref mq19, .ref mq20, .ref mq21, .int mlt, .ref mq23, .ref mq24, .ref mq25, .int msd, .ref mq27, .ref mq28, .ref mq29, .ref mq30, .ref mq31, .ref mq32, .int mlr, .int mst, .long mob, .long msb, .ref mq37, .int mln])), (mq17, .inl (mk17, 45, .inl mf17)), (mq18, .inl (mk18, 200, .inl mf18)), (mq24, .inl (mk24, 40, .inl mf24)), (mq25, .inl (mk25, 40, .inl mf25)), (mq27, .inl (mk27, 25, .inl u))] t.heap ∧ va_K (dC, dI) vwCl [] t ∧ va_D (va_A [(mz, .inr (7, [.int mth, .ref mq1, .ref mq2, .ref mq3, .ref mq4, .ref mq5, .int mtd, .int mat, .int mtk, .int mpl, .int mva, .long mwd, .int mbd, .int mbp, .int mft, .int mfp, .ref mq16, .ref mq17, .ref mq18, .ref mq19, .ref mq20, .ref mq21, .int mlt, .ref mq23, .ref mq24, .ref mq25, .int msd, .ref mq27, .ref mq28, .ref mq29, .ref mq30, .ref mq31, .ref mq32, .int mlr, .int mst, .long mob, .long msb, .ref mq37, .int mln])), (mq17, .inl (mk17, 45, .inl mf17)), (mq18, .inl (mk18, 200, .inl mf18)), (mq24, .inl (mk24, 40, .inl mf24)), (mq25, .inl (mk25, 40, .inl mf25)), (mq27, .inl (mk27, 25, .inl mf27))] sz) [(mz, .inr (7, [.int mth, .ref mq1, .ref mq2, .ref mq3, .ref mq4, .ref mq5, .int mtd, .int mat, .int mtk, .int mpl, .int mva, .long mwd, .int mbd, .int mbp, .int mft, .int mfp, .ref mq16, .ref mq17, .ref mq18, .ref mq19, .ref mq20, .ref mq21, .int mlt, .ref mq23, .ref mq24, .ref mq25, .int msd, .ref mq27, .ref mq28, .ref mq29, .ref mq30, .ref mq31, .ref mq32, .int mlr, .int mst, .long mob, .long msb, .ref mq37, .int mln])), (mq17, .inl (mk17, 45, .inl mf17)), (mq18, .inl (mk18, 200, .inl mf18)), (mq24, .inl (mk24, 40, .inl mf24)), (mq25, .inl (mk25, 40, .inl mf25)), (mq27, .inl (mk27, 25, .inl u))]) (va_A [(mz, .inr (7, [.int mth, .ref mq1, .ref mq2, .ref mq3, .ref mq4, .ref mq5, .int mtd, .int mat, .int mtk, .int mpl, .int mva, .long mwd, .int mbd, .int mbp, .int mft, .int mfp, .ref mq16, .ref mq17, .ref mq18, .ref mq19, .ref mq20, .ref mq21, .int mlt, .ref mq23, .ref mq24, .ref mq25, .int msd, .ref mq27, .ref mq28, .ref mq29, .ref mq30, .ref mq31, .ref mq32, .int mlr, .int mst, .long mob, .long msb, .ref mq37, .int mln])), (mq17, .inl (mk17, 45, .inl mf17)), (mq18, .inl (mk18, 200, .inl mf18)), (mq24, .inl (mk24, 40, .inl mf24)), (mq25, .inl (mk25, 40, .inl mf25)), (mq27, .inl (mk27, 25, .inl mf27))] sz)) 0 0 (va_A [(mz, .inr (7, [.int mth, .ref mq1, .ref mq2, .ref mq3, .ref mq4, .ref mq5, .int mtd, .int mat, .int mtk, .int mpl, .int mva, .long mwd, .int mbd, .int mbp, .int mft, .int mfp, .ref mq16, .ref mq17, .ref mq18, .ref mq19, .ref mq20, .ref mq21, .int mlt, .ref mq23, .ref mq24, .ref mq25, .int msd, .ref mq27, .ref mq28, .ref mq29, .ref mq30, .ref mq31, .ref mq32, .int mlr, .int mst, .long mob, .long msb, .ref mq37, .int mln])), (mq17, .inl (mk17, 45, .inl mf17)), (mq18, .inl (mk18, 200, .inl mf18)), (mq24, .inl (mk24, 40, .inl mf24)), (mq25, .inl (mk25, 40, .inl mf25)), (mq27, .inl (mk27, 25, .inl mf27))] sz) := by
  refine Met.ofW (cc := cX7_isWhole) (maxL := 3) (ret := (some .boolean)) (by decide) rfl ?_
  intro p e s m args below meth c s₁ B hml hv
  obtain ⟨rfl, hsz, hP, hK, hD0⟩ := hv
  have hx := B.exec
  have hb := B.bytes
  have hr := B.returns
  have hts := atoms_spec (ws := wz_X7_isWhole_4) B.pre
  have hown : s.vm.findClass RX7 = some m.cls := findClass_of_methodNamed B.named
  have hlocks := B.notSynchronized
  subst hsz
  have hD := hD0.self (sz := s.heap.size)
  generalize hAe : va_A [(mz, .inr (7, [.int mth, .ref mq1, .ref mq2, .ref mq3, .ref mq4, .ref mq5, .int mtd, .int mat, .int mtk, .int mpl, .int mva, .long mwd, .int mbd, .int mbp, .int mft, .int mfp, .ref mq16, .ref mq17, .ref mq18, .ref mq19, .ref mq20, .ref mq21, .int mlt, .ref mq23, .ref mq24, .ref mq25, .int msd, .ref mq27, .ref mq28, .ref mq29, .ref mq30, .ref mq31, .ref mq32, .int mlr, .int mst, .long mob, .long msb, .ref mq37, .int mln])), (mq17, .inl (mk17, 45, .inl mf17)), (mq18, .inl (mk18, 200, .inl mf18)), (mq24, .inl (mk24, 40, .inl mf24)), (mq25, .inl (mk25, 40, .inl mf25)), (mq27, .inl (mk27, 25, .inl mf27))] s.heap.size = A at hD ⊢
  have hA : ∀ q : Nat, s.heap.size ≤ q → A q := fun q h => by rw [← hAe]; exact Or.inr h
  have hS : va_S A s.heap s.heap [] := va_S.rf
  have hP : va_P (dC, dI) vwCl [(mz, .inr (7, [.int mth, .ref mq1, .ref mq2, .ref mq3, .ref mq4, .ref mq5, .int mtd, .int mat, .int mtk, .int mpl, .int mva, .long mwd, .int mbd, .int mbp, .int mft, .int mfp, .ref mq16, .ref mq17, .ref mq18, .ref mq19, .ref mq20, .ref mq21, .int mlt, .ref mq23, .ref mq24, .ref mq25, .int msd, .ref mq27, .ref mq28, .ref mq29, .ref mq30, .ref mq31, .ref mq32, .int mlr, .int mst, .long mob, .long msb, .ref mq37, .int mln])), (mq17, .inl (mk17, 45, .inl mf17)), (mq18, .inl (mk18, 200, .inl mf18)), (mq24, .inl (mk24, 40, .inl mf24)), (mq25, .inl (mk25, 40, .inl mf25)), (mq27, .inl (mk27, 25, .inl mf27))] s.heap := hP
  have hl := lv_entry ([.ref mz, .int 4]) (n := 3) (Nat.le_of_ble_eq_true rfl)
  rw [lg_entry_eq]
  generalize (lg_sl ([.ref mz, .int 4]) ++ List.replicate (3 - (lg_sl ([.ref mz, .int 4])).length) Slot.unset).toArray = ls at hl ⊢
  have hl : lv_has ls 3 [(0, .ref mz), (1, .int 4)] := hl
  have hcm := HI.cm hR_mq17
  have hcm4 := HI.cm4 hR_mq17
  refine lv_iconst (v := 0) hx hb dX7_isWhole_0 (by decide) ?_
  refine lv_istore_n (lv' := [(2, .int 0), (0, .ref mz), (1, .int 4)]) hx hb dX7_isWhole_1 rfl hl (by decide) rfl (fun ls hl => ?_)
  refine lp_W (I := fun (a : Int32 × (Nat → Int32)) H locs ls => (0 ≤ a.1.toInt ∧ a.1.toInt ≤ 25) ∧ (IN1 a.2 a.1.toNatClampNeg) ∧ va_P (dC, dI) vwCl [(mz, .inr (7, [.int mth, .ref mq1, .ref mq2, .ref mq3, .ref mq4, .ref mq5, .int mtd, .int mat, .int mtk, .int mpl, .int mva, .long mwd, .int mbd, .int mbp, .int mft, .int mfp, .ref mq16, .ref mq17, .ref mq18, .ref mq19, .ref mq20, .ref mq21, .int mlt, .ref mq23, .ref mq24, .ref mq25, .int msd, .ref mq27, .ref mq28, .ref mq29, .ref mq30, .ref mq31, .ref mq32, .int mlr, .int mst, .long mob, .long msb, .ref mq37, .int mln])), (mq17, .inl (mk17, 45, .inl mf17)), (mq18, .inl (mk18, 200, .inl mf18)), (mq24, .inl (mk24, 40, .inl mf24)), (mq25, .inl (mk25, 40, .inl mf25)), (mq27, .inl (mk27, 25, .inl a.2))] H ∧ va_D A [(mz, .inr (7, [.int mth, .ref mq1, .ref mq2, .ref mq3, .ref mq4, .ref mq5, .int mtd, .int mat, .int mtk, .int mpl, .int mva, .long mwd, .int mbd, .int mbp, .int mft, .int mfp, .ref mq16, .ref mq17, .ref mq18, .ref mq19, .ref mq20, .ref mq21, .int mlt, .ref mq23, .ref mq24, .ref mq25, .int msd, .ref mq27, .ref mq28, .ref mq29, .ref mq30, .ref mq31, .ref mq32, .int mlr, .int mst, .long mob, .long msb, .ref mq37, .int mln])), (mq17, .inl (mk17, 45, .inl mf17)), (mq18, .inl (mk18, 200, .inl mf18)), (mq24, .inl (mk24, 40, .inl mf24)), (mq25, .inl (mk25, 40, .inl mf25)), (mq27, .inl (mk27, 25, .inl a.2))] ∧ va_S A s.heap H locs ∧ lv_has ls 3 [(2, .int a.1), (0, .ref mz), (1, .int 4)]) (μ := fun a => (25 - a.1.toInt).toNat) ?_ ((0 : Int32), mf27) ⟨(by have k0 : (0 : Int32).toInt = 0 := (by decide); (try dsimp only); omega), (fun _ h9 => absurd h9 (Nat.not_lt_zero _)), hP.sub [0, 1, 2, 3, 4, 5] rfl, hD.sub [0, 1, 2, 3, 4, 5] (by decide) rfl, hS, lv_sub hl [0, 1, 2] rfl⟩
  intro a H locs ls hI ih2
  obtain ⟨i1, g1⟩ := a
  obtain ⟨h_i1, hI1, hP, hD, hS, hl⟩ := hI
  have h_i1 : 0 ≤ i1.toInt ∧ i1.toInt ≤ 25 := h_i1
  have hI1 : IN1 g1 i1.toNatClampNeg := hI1
  have hP : va_P (dC, dI) vwCl [(mz, .inr (7, [.int mth, .ref mq1, .ref mq2, .ref mq3, .ref mq4, .ref mq5, .int mtd, .int mat, .int mtk, .int mpl, .int mva, .long mwd, .int mbd, .int mbp, .int mft, .int mfp, .ref mq16, .ref mq17, .ref mq18, .ref mq19, .ref mq20, .ref mq21, .int mlt, .ref mq23, .ref mq24, .ref mq25, .int msd, .ref mq27, .ref mq28, .ref mq29, .ref mq30, .ref mq31, .ref mq32, .int mlr, .int mst, .long mob, .long msb, .ref mq37, .int mln])), (mq17, .inl (mk17, 45, .inl mf17)), (mq18, .inl (mk18, 200, .inl mf18)), (mq24, .inl (mk24, 40, .inl mf24)), (mq25, .inl (mk25, 40, .inl mf25)), (mq27, .inl (mk27, 25, .inl g1))] H := hP
  have hD : va_D A [(mz, .inr (7, [.int mth, .ref mq1, .ref mq2, .ref mq3, .ref mq4, .ref mq5, .int mtd, .int mat, .int mtk, .int mpl, .int mva, .long mwd, .int mbd, .int mbp, .int mft, .int mfp, .ref mq16, .ref mq17, .ref mq18, .ref mq19, .ref mq20, .ref mq21, .int mlt, .ref mq23, .ref mq24, .ref mq25, .int msd, .ref mq27, .ref mq28, .ref mq29, .ref mq30, .ref mq31, .ref mq32, .int mlr, .int mst, .long mob, .long msb, .ref mq37, .int mln])), (mq17, .inl (mk17, 45, .inl mf17)), (mq18, .inl (mk18, 200, .inl mf18)), (mq24, .inl (mk24, 40, .inl mf24)), (mq25, .inl (mk25, 40, .inl mf25)), (mq27, .inl (mk27, 25, .inl g1))] := hD
  have hl : lv_has ls 3 [(2, .int i1), (0, .ref mz), (1, .int 4)] := hl
  refine lv_iload_n hx hb dX7_isWhole_2 rfl (lv_at hl 0 rfl) ?_
  refine lv_bipush (v := 25) hx hb dX7_isWhole_3 (by decide) ?_
  refine lv_icmp_ge (tgt := 29) hx hb dX7_isWhole_5 (by decide) (fun c_1 => ?_) (fun c_1 => ?_)
  · have c_1 : 25 ≤ i1.toInt := i_le (a := 25) (b := i1) (by decide) rfl c_1
    have hIN : IN g1 := IN1.in hI1 rfl (by omega)
    have hFI1 : FI g1 := IN.fi hIN
    refine lv_aload_n hx hb dX7_isWhole_29 rfl (lv_at hl 1 rfl) ?_
    refine lv_iload_n hx hb dX7_isWhole_30 rfl (lv_at hl 2 rfl) ?_
    have hPc := hP.sub (ws' := [(mz, .inr (7, [.int mth, .ref mq1, .ref mq2, .ref mq3, .ref mq4, .ref mq5, .int mtd, .int mat, .int mtk, .int mpl, .int mva, .long mwd, .int mbd, .int mbp, .int mft, .int mfp, .ref mq16, .ref mq17, .ref mq18, .ref mq19, .ref mq20, .ref mq21, .int mlt, .ref mq23, .ref mq24, .ref mq25, .int msd, .ref mq27, .ref mq28, .ref mq29, .ref mq30, .ref mq31, .ref mq32, .int mlr, .int mst, .long mob, .long msb, .ref mq37, .int mln])), (mq18, .inl (mk18, 200, .inl mf18)), (mq24, .inl (mk24, 40, .inl mf24)), (mq25, .inl (mk25, 40, .inl mf25)), (mq27, .inl (mk27, 25, .inl g1))]) [0, 2, 3, 4, 5] rfl
    have hDc := hD.sub (ws' := [(mz, .inr (7, [.int mth, .ref mq1, .ref mq2, .ref mq3, .ref mq4, .ref mq5, .int mtd, .int mat, .int mtk, .int mpl, .int mva, .long mwd, .int mbd, .int mbp, .int mft, .int mfp, .ref mq16, .ref mq17, .ref mq18, .ref mq19, .ref mq20, .ref mq21, .int mlt, .ref mq23, .ref mq24, .ref mq25, .int msd, .ref mq27, .ref mq28, .ref mq29, .ref mq30, .ref mq31, .ref mq32, .int mlr, .int mst, .long mob, .long msb, .ref mq37, .int mln])), (mq18, .inl (mk18, 200, .inl mf18)), (mq24, .inl (mk24, 40, .inl mf24)), (mq25, .inl (mk25, 40, .inl mf25)), (mq27, .inl (mk27, 25, .inl g1))]) [0, 2, 3, 4, 5] (by decide) rfl
    have hKc := hK.sub (tys' := [(mk18, .int), (mk24, .int), (mk25, .int), (mk27, .int)]) [1, 2, 3, 4] rfl
    have hFc := va_free (wc := [(mz, .inr (7, [.int mth, .ref mq1, .ref mq2, .ref mq3, .ref mq4, .ref mq5, .int mtd, .int mat, .int mtk, .int mpl, .int mva, .long mwd, .int mbd, .int mbp, .int mft, .int mfp, .ref mq16, .ref mq17, .ref mq18, .ref mq19, .ref mq20, .ref mq21, .int mlt, .ref mq23, .ref mq24, .ref mq25, .int msd, .ref mq27, .ref mq28, .ref mq29, .ref mq30, .ref mq31, .ref mq32, .int mlr, .int mst, .long mob, .long msb, .ref mq37, .int mln])), (mq18, .inl (mk18, 200, .inl mf18)), (mq24, .inl (mk24, 40, .inl mf24)), (mq25, .inl (mk25, 40, .inl mf25)), (mq27, .inl (mk27, 25, .inl g1))]) hD hS hA [0, 2, 3, 4, 5] rfl
    refine va_callv (va_runV (As := [.int 4]) (rest := []) ⟨hx, hb, hml, hown, hts⟩ (c_X7_spreads_4 l dC dI H.size mz mth mq1 mq2 mq3 mq4 mq5 mtd mat mtk mpl mva mwd mbd mbp mft mfp mq16 mq17 mq18 mq19 mq20 mq21 mlt mq23 mq24 mq25 msd mq27 mq28 mq29 mq30 mq31 mq32 mlr mst mob msb mq37 mln mk18 mf18 mk24 mf24 mk25 mf25 mk27 g1 (by omega) hR_mq24 hR_mq25 hFI1) (cwV 1 hts g_X7_isWhole_4_X7_spreads_4 rfl rfl rfl (by decide +kernel) ⟨Nat.le_of_ble_eq_true rfl, Nat.le_of_ble_eq_true rfl⟩) ⟨fun a U g mk q => by obtain ⟨q0, q1, qP, qK, qD⟩ := q; exact ⟨q0, q1, qP, va_K.moved (u := U) (U := U.calling g mk a) (Vm.Alike.refl U.vm) qK, qD⟩, va_recv hKc hPc (ci := 7) (q0 := 0) rfl rfl, fun U hU hW => ⟨rfl, by rw [hU], by rw [hU]; exact hPc, va_K.moved hW.alike hKc, hDc.weaken (fun _ _ _ _ => trivial)⟩⟩ rfl rfl hl.1 rfl (lv_room (Nat.le_of_ble_eq_true rfl)) dX7_isWhole_31 ⟨Nat.le_of_ble_eq_true rfl, Nat.le_of_ble_eq_true rfl⟩) hS (fun q _ h => hFc q h) hFc (fun u t H1 locs ht hvm hw_2 hB hz1 hk1 hS => ?_)
    obtain ⟨ns27_3, rfl⟩ : ∃ z, z = u := ⟨_, rfl⟩
    obtain ⟨hP1, hK1, hD1⟩ := hB
    have hP1 : va_P (dC, dI) vwCl [(mz, .inr (7, [.int mth, .ref mq1, .ref mq2, .ref mq3, .ref mq4, .ref mq5, .int mtd, .int mat, .int mtk, .int mpl, .int mva, .long mwd, .int mbd, .int mbp, .int mft, .int mfp, .ref mq16, .ref mq17, .ref mq18, .ref mq19, .ref mq20, .ref mq21, .int mlt, .ref mq23, .ref mq24, .ref mq25, .int msd, .ref mq27, .ref mq28, .ref mq29, .ref mq30, .ref mq31, .ref mq32, .int mlr, .int mst, .long mob, .long msb, .ref mq37, .int mln])), (mq18, .inl (mk18, 200, .inl mf18)), (mq24, .inl (mk24, 40, .inl mf24)), (mq25, .inl (mk25, 40, .inl mf25)), (mq27, .inl (mk27, 25, .inl ns27_3))] t.heap := hP1
    rw [ht] at hP1
    try dsimp only at hw_2
    obtain ⟨hp_4, hp_5⟩ := hw_2
    obtain ⟨hP, hD⟩ := va_join (wr := [(mq17, .inl (mk17, 45, .inl mf17))]) (w1 := [(mz, .inr (7, [.int mth, .ref mq1, .ref mq2, .ref mq3, .ref mq4, .ref mq5, .int mtd, .int mat, .int mtk, .int mpl, .int mva, .long mwd, .int mbd, .int mbp, .int mft, .int mfp, .ref mq16, .ref mq17, .ref mq18, .ref mq19, .ref mq20, .ref mq21, .int mlt, .ref mq23, .ref mq24, .ref mq25, .int msd, .ref mq27, .ref mq28, .ref mq29, .ref mq30, .ref mq31, .ref mq32, .int mlr, .int mst, .long mob, .long msb, .ref mq37, .int mln])), (mq18, .inl (mk18, 200, .inl mf18)), (mq24, .inl (mk24, 40, .inl mf24)), (mq25, .inl (mk25, 40, .inl mf25)), (mq27, .inl (mk27, 25, .inl ns27_3))]) hP hD [0, 2, 3, 4, 5] [1] rfl rfl (by decide) (by decide) hk1 hFc hP1 hD1
    generalize H1 = H at hP hS ⊢
    have hP : va_P (dC, dI) vwCl [(mq17, .inl (mk17, 45, .inl mf17)), (mz, .inr (7, [.int mth, .ref mq1, .ref mq2, .ref mq3, .ref mq4, .ref mq5, .int mtd, .int mat, .int mtk, .int mpl, .int mva, .long mwd, .int mbd, .int mbp, .int mft, .int mfp, .ref mq16, .ref mq17, .ref mq18, .ref mq19, .ref mq20, .ref mq21, .int mlt, .ref mq23, .ref mq24, .ref mq25, .int msd, .ref mq27, .ref mq28, .ref mq29, .ref mq30, .ref mq31, .ref mq32, .int mlr, .int mst, .long mob, .long msb, .ref mq37, .int mln])), (mq18, .inl (mk18, 200, .inl mf18)), (mq24, .inl (mk24, 40, .inl mf24)), (mq25, .inl (mk25, 40, .inl mf25)), (mq27, .inl (mk27, 25, .inl ns27_3))] H := hP
    have hD : va_D A [(mq17, .inl (mk17, 45, .inl mf17)), (mz, .inr (7, [.int mth, .ref mq1, .ref mq2, .ref mq3, .ref mq4, .ref mq5, .int mtd, .int mat, .int mtk, .int mpl, .int mva, .long mwd, .int mbd, .int mbp, .int mft, .int mfp, .ref mq16, .ref mq17, .ref mq18, .ref mq19, .ref mq20, .ref mq21, .int mlt, .ref mq23, .ref mq24, .ref mq25, .int msd, .ref mq27, .ref mq28, .ref mq29, .ref mq30, .ref mq31, .ref mq32, .int mlr, .int mst, .long mob, .long msb, .ref mq37, .int mln])), (mq18, .inl (mk18, 200, .inl mf18)), (mq24, .inl (mk24, 40, .inl mf24)), (mq25, .inl (mk25, 40, .inl mf25)), (mq27, .inl (mk27, 25, .inl ns27_3))] := hD
    refine lv_iconst (v := 0) hx hb dX7_isWhole_34 (by decide) ?_
    refine lv_istore_n (lv' := [(2, .int 0), (0, .ref mz), (1, .int 4)]) hx hb dX7_isWhole_35 rfl hl (by decide) rfl (fun ls hl => ?_)
    refine lp_W (I := fun (a : Int32) H locs ls => (0 ≤ a.toInt ∧ a.toInt ≤ 25) ∧ (NN ns27_3 a.toNatClampNeg) ∧ va_P (dC, dI) vwCl [(mq17, .inl (mk17, 45, .inl mf17)), (mz, .inr (7, [.int mth, .ref mq1, .ref mq2, .ref mq3, .ref mq4, .ref mq5, .int mtd, .int mat, .int mtk, .int mpl, .int mva, .long mwd, .int mbd, .int mbp, .int mft, .int mfp, .ref mq16, .ref mq17, .ref mq18, .ref mq19, .ref mq20, .ref mq21, .int mlt, .ref mq23, .ref mq24, .ref mq25, .int msd, .ref mq27, .ref mq28, .ref mq29, .ref mq30, .ref mq31, .ref mq32, .int mlr, .int mst, .long mob, .long msb, .ref mq37, .int mln])), (mq18, .inl (mk18, 200, .inl mf18)), (mq24, .inl (mk24, 40, .inl mf24)), (mq25, .inl (mk25, 40, .inl mf25)), (mq27, .inl (mk27, 25, .inl ns27_3))] H ∧ va_D A [(mq17, .inl (mk17, 45, .inl mf17)), (mz, .inr (7, [.int mth, .ref mq1, .ref mq2, .ref mq3, .ref mq4, .ref mq5, .int mtd, .int mat, .int mtk, .int mpl, .int mva, .long mwd, .int mbd, .int mbp, .int mft, .int mfp, .ref mq16, .ref mq17, .ref mq18, .ref mq19, .ref mq20, .ref mq21, .int mlt, .ref mq23, .ref mq24, .ref mq25, .int msd, .ref mq27, .ref mq28, .ref mq29, .ref mq30, .ref mq31, .ref mq32, .int mlr, .int mst, .long mob, .long msb, .ref mq37, .int mln])), (mq18, .inl (mk18, 200, .inl mf18)), (mq24, .inl (mk24, 40, .inl mf24)), (mq25, .inl (mk25, 40, .inl mf25)), (mq27, .inl (mk27, 25, .inl ns27_3))] ∧ va_S A s.heap H locs ∧ lv_has ls 3 [(2, .int a), (0, .ref mz), (1, .int 4)]) (μ := fun a => (25 - a.toInt).toNat) ?_ ((0 : Int32)) ⟨(by have k0 : (0 : Int32).toInt = 0 := (by decide); (try dsimp only); omega), (fun _ h9 => absurd h9 (Nat.not_lt_zero _)), hP.sub [0, 1, 2, 3, 4, 5] rfl, hD.sub [0, 1, 2, 3, 4, 5] (by decide) rfl, hS, lv_sub hl [0, 1, 2] rfl⟩
    intro a H locs ls hI ih36
    obtain ⟨c1, rfl⟩ : ∃ z, z = a := ⟨_, rfl⟩
    obtain ⟨h_c1, hNN, hP, hD, hS, hl⟩ := hI
    have h_c1 : 0 ≤ c1.toInt ∧ c1.toInt ≤ 25 := h_c1
    have hNN : NN ns27_3 c1.toNatClampNeg := hNN
    have hP : va_P (dC, dI) vwCl [(mq17, .inl (mk17, 45, .inl mf17)), (mz, .inr (7, [.int mth, .ref mq1, .ref mq2, .ref mq3, .ref mq4, .ref mq5, .int mtd, .int mat, .int mtk, .int mpl, .int mva, .long mwd, .int mbd, .int mbp, .int mft, .int mfp, .ref mq16, .ref mq17, .ref mq18, .ref mq19, .ref mq20, .ref mq21, .int mlt, .ref mq23, .ref mq24, .ref mq25, .int msd, .ref mq27, .ref mq28, .ref mq29, .ref mq30, .ref mq31, .ref mq32, .int mlr, .int mst, .long mob, .long msb, .ref mq37, .int mln])), (mq18, .inl (mk18, 200, .inl mf18)), (mq24, .inl (mk24, 40, .inl mf24)), (mq25, .inl (mk25, 40, .inl mf25)), (mq27, .inl (mk27, 25, .inl ns27_3))] H := hP
    have hD : va_D A [(mq17, .inl (mk17, 45, .inl mf17)), (mz, .inr (7, [.int mth, .ref mq1, .ref mq2, .ref mq3, .ref mq4, .ref mq5, .int mtd, .int mat, .int mtk, .int mpl, .int mva, .long mwd, .int mbd, .int mbp, .int mft, .int mfp, .ref mq16, .ref mq17, .ref mq18, .ref mq19, .ref mq20, .ref mq21, .int mlt, .ref mq23, .ref mq24, .ref mq25, .int msd, .ref mq27, .ref mq28, .ref mq29, .ref mq30, .ref mq31, .ref mq32, .int mlr, .int mst, .long mob, .long msb, .ref mq37, .int mln])), (mq18, .inl (mk18, 200, .inl mf18)), (mq24, .inl (mk24, 40, .inl mf24)), (mq25, .inl (mk25, 40, .inl mf25)), (mq27, .inl (mk27, 25, .inl ns27_3))] := hD
    have hl : lv_has ls 3 [(2, .int c1), (0, .ref mz), (1, .int 4)] := hl
    refine lv_iload_n hx hb dX7_isWhole_36 rfl (lv_at hl 0 rfl) ?_
    refine lv_aload_n hx hb dX7_isWhole_37 rfl (lv_at hl 1 rfl) ?_
    refine va_get (D := (dC, dI)) (ci := 7) (v := .ref mq17) (C := RX7) (T := TX7) (N := 39) hx hb hts in_X7_isWhole_4_X7 hown hK hP 1 rfl rfl 17 (by decide) (hts _ wd_X7_isWhole_4_0) (fun _ h9 => h9) rfl dX7_isWhole_38 ?_
    refine lv_bipush (v := 9) hx hb dX7_isWhole_41 (by decide) ?_
    refine lv_iload_n hx hb dX7_isWhole_43 rfl (lv_at hl 2 rfl) ?_
    refine lv_imul hx hb dX7_isWhole_44 ?_
    refine lv_topi (fun z_6 ez_6 => ?_)
    obtain rfl : z_6 = 36 := ez_6.trans (by decide)
    refine lv_iconst (v := 0) hx hb dX7_isWhole_45 (by decide) ?_
    refine lv_iadd hx hb dX7_isWhole_46 ?_
    refine lv_topi (fun z_7 ez_7 => ?_)
    obtain rfl : z_7 = 36 := ez_7.trans (by decide)
    have hin_8 : vp_in ((36 : Int32)) 45 := (vp_in_iff.mpr ⟨by decide, by decide⟩)
    refine va_iald hx hb hK hP 0 0 rfl rfl hin_8 dX7_isWhole_47 ?_
    refine lv_topi (fun v_9 ev_9 => ?_)
    have hv_9 := HI.r4 hR_mq17
    refine lv_aload_n hx hb dX7_isWhole_48 rfl (lv_at hl 1 rfl) ?_
    refine va_get (D := (dC, dI)) (ci := 7) (v := .ref mq17) (C := RX7) (T := TX7) (N := 39) hx hb hts in_X7_isWhole_4_X7 hown hK hP 1 rfl rfl 17 (by decide) (hts _ wd_X7_isWhole_4_0) (fun _ h9 => h9) rfl dX7_isWhole_49 ?_
    refine lv_bipush (v := 9) hx hb dX7_isWhole_52 (by decide) ?_
    refine lv_iload_n hx hb dX7_isWhole_54 rfl (lv_at hl 2 rfl) ?_
    refine lv_imul hx hb dX7_isWhole_55 ?_
    refine lv_topi (fun z_10 ez_10 => ?_)
    obtain rfl : z_10 = 36 := ez_10.trans (by decide)
    refine lv_iconst (v := 1) hx hb dX7_isWhole_56 (by decide) ?_
    refine lv_iadd hx hb dX7_isWhole_57 ?_
    refine lv_topi (fun z_11 ez_11 => ?_)
    obtain rfl : z_11 = 37 := ez_11.trans (by decide)
    have hin_12 : vp_in ((37 : Int32)) 45 := (vp_in_iff.mpr ⟨by decide, by decide⟩)
    refine va_iald hx hb hK hP 0 0 rfl rfl hin_12 dX7_isWhole_58 ?_
    refine lv_topi (fun v_13 ev_13 => ?_)
    have hv_13 := HI.r4 hR_mq17
    refine lv_imul hx hb dX7_isWhole_59 ?_
    refine lv_topi (fun x_14 ex_14 => ?_)
    have zx_14 : x_14.toInt = ((mf17 36).toInt * (mf17 37).toInt) := i_mulz ex_14 (show v_9.toInt = (mf17 36).toInt from congrArg Int32.toInt ev_9) (show v_13.toInt = (mf17 37).toInt from congrArg Int32.toInt ev_13) (by omega) (by omega)
    refine lv_icmp_ge (tgt := 81) hx hb dX7_isWhole_60 (by decide) (fun c_15 => ?_) (fun c_15 => ?_)
    · have c_15 : x_14.toInt ≤ c1.toInt := i_le (a := x_14) (b := c1) rfl rfl c_15
      refine lv_iconst (v := 1) hx hb dX7_isWhole_81 (by decide) ?_
      have hP9 := hP.sub (ws' := [(mz, .inr (7, [.int mth, .ref mq1, .ref mq2, .ref mq3, .ref mq4, .ref mq5, .int mtd, .int mat, .int mtk, .int mpl, .int mva, .long mwd, .int mbd, .int mbp, .int mft, .int mfp, .ref mq16, .ref mq17, .ref mq18, .ref mq19, .ref mq20, .ref mq21, .int mlt, .ref mq23, .ref mq24, .ref mq25, .int msd, .ref mq27, .ref mq28, .ref mq29, .ref mq30, .ref mq31, .ref mq32, .int mlr, .int mst, .long mob, .long msb, .ref mq37, .int mln])), (mq17, .inl (mk17, 45, .inl mf17)), (mq18, .inl (mk18, 200, .inl mf18)), (mq24, .inl (mk24, 40, .inl mf24)), (mq25, .inl (mk25, 40, .inl mf25)), (mq27, .inl (mk27, 25, .inl ns27_3))]) [1, 0, 2, 3, 4, 5] rfl
      have hD9 := hD.sub (ws' := [(mz, .inr (7, [.int mth, .ref mq1, .ref mq2, .ref mq3, .ref mq4, .ref mq5, .int mtd, .int mat, .int mtk, .int mpl, .int mva, .long mwd, .int mbd, .int mbp, .int mft, .int mfp, .ref mq16, .ref mq17, .ref mq18, .ref mq19, .ref mq20, .ref mq21, .int mlt, .ref mq23, .ref mq24, .ref mq25, .int msd, .ref mq27, .ref mq28, .ref mq29, .ref mq30, .ref mq31, .ref mq32, .int mlr, .int mst, .long mob, .long msb, .ref mq37, .int mln])), (mq17, .inl (mk17, 45, .inl mf17)), (mq18, .inl (mk18, 200, .inl mf18)), (mq24, .inl (mk24, 40, .inl mf24)), (mq25, .inl (mk25, 40, .inl mf25)), (mq27, .inl (mk27, 25, .inl ns27_3))]) [1, 0, 2, 3, 4, 5] (by decide) rfl
      have hK9 := hK.sub (tys' := []) [] rfl
      refine W.widen (k := 0) (n := 0) (by omega) (by omega) ?_
      exact W.zret (v := 1) hx hb hr (by decide) (fun t ht hW => ⟨⟨1, (ns27_3), rfl, ⟨Or.inl ⟨rfl, g1, ns27_3, hIN, hp_4, fun c9 hc9 => hNN c9 (by rw [i_cn (k := c1) rfl]; omega)⟩, hp_5⟩, by rw [ht]; exact hP9, va_K.moved hW.alike hK9, hD9⟩, hS.F ht⟩) hS.2.2 dX7_isWhole_82
    · have c_15 : c1.toInt < x_14.toInt := i_nle (a := x_14) (b := c1) rfl rfl c_15
      refine lv_aload_n hx hb dX7_isWhole_63 rfl (lv_at hl 1 rfl) ?_
      refine va_get (D := (dC, dI)) (ci := 7) (v := .ref mq27) (C := RX7) (T := TX7) (N := 39) hx hb hts in_X7_isWhole_4_X7 hown hK hP 1 rfl rfl 27 (by decide) (hts _ wd_X7_isWhole_4_1) (fun _ h9 => h9) rfl dX7_isWhole_64 ?_
      refine lv_iload_n hx hb dX7_isWhole_67 rfl (lv_at hl 0 rfl) ?_
      have hin_16 : vp_in c1 25 := (i_in rfl (by omega) (by omega))
      refine va_iald hx hb hK hP 5 4 rfl rfl hin_16 dX7_isWhole_68 ?_
      refine lv_topi (fun v_17 ev_17 => ?_)
      have kv_17 : v_17.toInt = (ns27_3 c1.toNatClampNeg).toInt := congrArg Int32.toInt ev_17
      have hv_17 := FI.at hp_5 hin_16 ev_17
      refine lv_iconst (v := -1) hx hb dX7_isWhole_69 (by decide) ?_
      refine lv_icmp_ne (tgt := 75) hx hb dX7_isWhole_70 (by decide) (fun c_18 => ?_) (fun c_18 => ?_)
      · have c_18 : v_17.toInt ≠ (-1) := i_ne (a := v_17) (b := -1) rfl (by decide) c_18
        obtain ⟨x_19, ex_19⟩ : ∃ y9 : Int32, y9 = c1 + Int32.ofInt 1 := ⟨_, rfl⟩
        have zx_19 : x_19.toInt = c1.toInt + 1 := by rw [ex_19]; exact i_add rfl (show (Int32.ofInt 1).toInt = 1 by decide) (by omega) (by omega)
        refine lv_iinc (v := x_19) (lv' := [(2, .int x_19), (0, .ref mz), (1, .int 4)]) hx hb dX7_isWhole_75 hl (k := 0) rfl (by rw [ex_19]) (by decide) rfl (fun ls hl => ?_)
        refine lv_goto (tgt := 36) hx hb dX7_isWhole_78 (by decide) ?_
        exact ih36 (x_19) _ _ _ ⟨(by (try dsimp only); omega), (NN.up hNN ev_17 (fun q9 => absurd (congrArg Int32.toInt q9) (by have k9 : (-1 : Int32).toInt = -1 := (by decide); rw [k9]; omega)) (i_sc (k := c1) (k2 := x_19) rfl (by omega) (by omega))), hP.sub [0, 1, 2, 3, 4, 5] rfl, hD.sub [0, 1, 2, 3, 4, 5] (by decide) rfl, hS, lv_sub hl [0, 1, 2] rfl⟩ (by (try dsimp only); omega)
      · have c_18 : v_17.toInt = (-1) := i_eq (a := v_17) (b := -1) rfl (by decide) c_18
        refine lv_iconst (v := 0) hx hb dX7_isWhole_73 (by decide) ?_
        have hP9 := hP.sub (ws' := [(mz, .inr (7, [.int mth, .ref mq1, .ref mq2, .ref mq3, .ref mq4, .ref mq5, .int mtd, .int mat, .int mtk, .int mpl, .int mva, .long mwd, .int mbd, .int mbp, .int mft, .int mfp, .ref mq16, .ref mq17, .ref mq18, .ref mq19, .ref mq20, .ref mq21, .int mlt, .ref mq23, .ref mq24, .ref mq25, .int msd, .ref mq27, .ref mq28, .ref mq29, .ref mq30, .ref mq31, .ref mq32, .int mlr, .int mst, .long mob, .long msb, .ref mq37, .int mln])), (mq17, .inl (mk17, 45, .inl mf17)), (mq18, .inl (mk18, 200, .inl mf18)), (mq24, .inl (mk24, 40, .inl mf24)), (mq25, .inl (mk25, 40, .inl mf25)), (mq27, .inl (mk27, 25, .inl ns27_3))]) [1, 0, 2, 3, 4, 5] rfl
        have hD9 := hD.sub (ws' := [(mz, .inr (7, [.int mth, .ref mq1, .ref mq2, .ref mq3, .ref mq4, .ref mq5, .int mtd, .int mat, .int mtk, .int mpl, .int mva, .long mwd, .int mbd, .int mbp, .int mft, .int mfp, .ref mq16, .ref mq17, .ref mq18, .ref mq19, .ref mq20, .ref mq21, .int mlt, .ref mq23, .ref mq24, .ref mq25, .int msd, .ref mq27, .ref mq28, .ref mq29, .ref mq30, .ref mq31, .ref mq32, .int mlr, .int mst, .long mob, .long msb, .ref mq37, .int mln])), (mq17, .inl (mk17, 45, .inl mf17)), (mq18, .inl (mk18, 200, .inl mf18)), (mq24, .inl (mk24, 40, .inl mf24)), (mq25, .inl (mk25, 40, .inl mf25)), (mq27, .inl (mk27, 25, .inl ns27_3))]) [1, 0, 2, 3, 4, 5] (by decide) rfl
        have hK9 := hK.sub (tys' := []) [] rfl
        refine W.widen (k := 0) (n := 0) (by omega) (by omega) ?_
        exact W.zret (v := 0) hx hb hr (by decide) (fun t ht hW => ⟨⟨0, (ns27_3), rfl, ⟨Or.inr ⟨rfl, WH.no hR_mq24 hR_mq25 (by rw [i_cn (k := msd) rfl]; omega) (by omega) hIN hp_4 (c := c1.toNatClampNeg) (by rw [i_cn (k := c1) rfl]; omega) (by rw [← ev_17]; exact i_of (by have k9 : (-1 : Int32).toInt = -1 := (by decide); omega))⟩, hp_5⟩, by rw [ht]; exact hP9, va_K.moved hW.alike hK9, hD9⟩, hS.F ht⟩) hS.2.2 dX7_isWhole_74
  · have c_1 : i1.toInt < 25 := i_nle (a := 25) (b := i1) (by decide) rfl c_1
    refine lv_aload_n hx hb dX7_isWhole_8 rfl (lv_at hl 1 rfl) ?_
    refine va_get (D := (dC, dI)) (ci := 7) (v := .ref mq27) (C := RX7) (T := TX7) (N := 39) hx hb hts in_X7_isWhole_4_X7 hown hK hP 0 rfl rfl 27 (by decide) (hts _ wd_X7_isWhole_4_1) (fun _ h9 => h9) rfl dX7_isWhole_9 ?_
    refine lv_iload_n hx hb dX7_isWhole_12 rfl (lv_at hl 0 rfl) ?_
    refine lv_iload_n hx hb dX7_isWhole_13 rfl (lv_at hl 0 rfl) ?_
    refine lv_if_ne (tgt := 21) hx hb dX7_isWhole_14 (by decide) (fun c_20 => ?_) (fun c_20 => ?_)
    · have c_20 : i1.toInt ≠ 0 := i_ne (a := i1) (b := 0) rfl (by decide) c_20
      refine lv_iconst (v := -1) hx hb dX7_isWhole_21 (by decide) ?_
      refine va_iast hx hb hK hP hD hS 5 4 rfl rfl (i_in rfl (by omega) (by omega)) dX7_isWhole_22 (fun H locs hP hD hS => ?_)
      have hP : va_P (dC, dI) vwCl [(mz, .inr (7, [.int mth, .ref mq1, .ref mq2, .ref mq3, .ref mq4, .ref mq5, .int mtd, .int mat, .int mtk, .int mpl, .int mva, .long mwd, .int mbd, .int mbp, .int mft, .int mfp, .ref mq16, .ref mq17, .ref mq18, .ref mq19, .ref mq20, .ref mq21, .int mlt, .ref mq23, .ref mq24, .ref mq25, .int msd, .ref mq27, .ref mq28, .ref mq29, .ref mq30, .ref mq31, .ref mq32, .int mlr, .int mst, .long mob, .long msb, .ref mq37, .int mln])), (mq17, .inl (mk17, 45, .inl mf17)), (mq18, .inl (mk18, 200, .inl mf18)), (mq24, .inl (mk24, 40, .inl mf24)), (mq25, .inl (mk25, 40, .inl mf25)), (mq27, .inl (mk27, 25, .inl (upd g1 i1.toNatClampNeg (-1))))] H := hP
      have hD : va_D A [(mz, .inr (7, [.int mth, .ref mq1, .ref mq2, .ref mq3, .ref mq4, .ref mq5, .int mtd, .int mat, .int mtk, .int mpl, .int mva, .long mwd, .int mbd, .int mbp, .int mft, .int mfp, .ref mq16, .ref mq17, .ref mq18, .ref mq19, .ref mq20, .ref mq21, .int mlt, .ref mq23, .ref mq24, .ref mq25, .int msd, .ref mq27, .ref mq28, .ref mq29, .ref mq30, .ref mq31, .ref mq32, .int mlr, .int mst, .long mob, .long msb, .ref mq37, .int mln])), (mq17, .inl (mk17, 45, .inl mf17)), (mq18, .inl (mk18, 200, .inl mf18)), (mq24, .inl (mk24, 40, .inl mf24)), (mq25, .inl (mk25, 40, .inl mf25)), (mq27, .inl (mk27, 25, .inl (upd g1 i1.toNatClampNeg (-1))))] := hD
      obtain ⟨f_21, ef_21⟩ : ∃ g, g = upd g1 i1.toNatClampNeg (-1) := ⟨_, rfl⟩
      rw [← ef_21] at hP hD
      obtain ⟨x_22, ex_22⟩ : ∃ y9 : Int32, y9 = i1 + Int32.ofInt 1 := ⟨_, rfl⟩
      have zx_22 : x_22.toInt = i1.toInt + 1 := by rw [ex_22]; exact i_add rfl (show (Int32.ofInt 1).toInt = 1 by decide) (by omega) (by omega)
      refine lv_iinc (v := x_22) (lv' := [(2, .int x_22), (0, .ref mz), (1, .int 4)]) hx hb dX7_isWhole_23 hl (k := 0) rfl (by rw [ex_22]) (by decide) rfl (fun ls hl => ?_)
      refine lv_goto (tgt := 2) hx hb dX7_isWhole_26 (by decide) ?_
      exact ih2 (x_22, f_21) _ _ _ ⟨(by (try dsimp only); omega), (IN1.upd1 hI1 ef_21 (by rw [i_cn (k := i1) rfl]; first | rw [if_pos (by omega)] | rw [if_neg (by omega)]) (i_sc (k := i1) (k2 := x_22) rfl (by omega) (by omega))), hP.sub [0, 1, 2, 3, 4, 5] rfl, hD.sub [0, 1, 2, 3, 4, 5] (by decide) rfl, hS, lv_sub hl [0, 1, 2] rfl⟩ (by (try dsimp only); omega)
    · have c_20 : i1.toInt = 0 := i_eq (a := i1) (b := 0) rfl (by decide) c_20
      refine lv_iconst (v := 0) hx hb dX7_isWhole_17 (by decide) ?_
      refine lv_goto (tgt := 22) hx hb dX7_isWhole_18 (by decide) ?_
      refine va_iast hx hb hK hP hD hS 5 4 rfl rfl (i_in rfl (by omega) (by omega)) dX7_isWhole_22 (fun H locs hP hD hS => ?_)
      have hP : va_P (dC, dI) vwCl [(mz, .inr (7, [.int mth, .ref mq1, .ref mq2, .ref mq3, .ref mq4, .ref mq5, .int mtd, .int mat, .int mtk, .int mpl, .int mva, .long mwd, .int mbd, .int mbp, .int mft, .int mfp, .ref mq16, .ref mq17, .ref mq18, .ref mq19, .ref mq20, .ref mq21, .int mlt, .ref mq23, .ref mq24, .ref mq25, .int msd, .ref mq27, .ref mq28, .ref mq29, .ref mq30, .ref mq31, .ref mq32, .int mlr, .int mst, .long mob, .long msb, .ref mq37, .int mln])), (mq17, .inl (mk17, 45, .inl mf17)), (mq18, .inl (mk18, 200, .inl mf18)), (mq24, .inl (mk24, 40, .inl mf24)), (mq25, .inl (mk25, 40, .inl mf25)), (mq27, .inl (mk27, 25, .inl (upd g1 i1.toNatClampNeg 0)))] H := hP
      have hD : va_D A [(mz, .inr (7, [.int mth, .ref mq1, .ref mq2, .ref mq3, .ref mq4, .ref mq5, .int mtd, .int mat, .int mtk, .int mpl, .int mva, .long mwd, .int mbd, .int mbp, .int mft, .int mfp, .ref mq16, .ref mq17, .ref mq18, .ref mq19, .ref mq20, .ref mq21, .int mlt, .ref mq23, .ref mq24, .ref mq25, .int msd, .ref mq27, .ref mq28, .ref mq29, .ref mq30, .ref mq31, .ref mq32, .int mlr, .int mst, .long mob, .long msb, .ref mq37, .int mln])), (mq17, .inl (mk17, 45, .inl mf17)), (mq18, .inl (mk18, 200, .inl mf18)), (mq24, .inl (mk24, 40, .inl mf24)), (mq25, .inl (mk25, 40, .inl mf25)), (mq27, .inl (mk27, 25, .inl (upd g1 i1.toNatClampNeg 0)))] := hD
      obtain ⟨f_23, ef_23⟩ : ∃ g, g = upd g1 i1.toNatClampNeg 0 := ⟨_, rfl⟩
      rw [← ef_23] at hP hD
      obtain ⟨x_24, ex_24⟩ : ∃ y9 : Int32, y9 = i1 + Int32.ofInt 1 := ⟨_, rfl⟩
      have zx_24 : x_24.toInt = i1.toInt + 1 := by rw [ex_24]; exact i_add rfl (show (Int32.ofInt 1).toInt = 1 by decide) (by omega) (by omega)
      refine lv_iinc (v := x_24) (lv' := [(2, .int x_24), (0, .ref mz), (1, .int 4)]) hx hb dX7_isWhole_23 hl (k := 0) rfl (by rw [ex_24]) (by decide) rfl (fun ls hl => ?_)
      refine lv_goto (tgt := 2) hx hb dX7_isWhole_26 (by decide) ?_
      exact ih2 (x_24, f_23) _ _ _ ⟨(by (try dsimp only); omega), (IN1.upd1 hI1 ef_23 (by rw [i_cn (k := i1) rfl]; first | rw [if_pos (by omega)] | rw [if_neg (by omega)]) (i_sc (k := i1) (k2 := x_24) rfl (by omega) (by omega))), hP.sub [0, 1, 2, 3, 4, 5] rfl, hD.sub [0, 1, 2, 3, 4, 5] (by decide) rfl, hS, lv_sub hl [0, 1, 2] rfl⟩ (by (try dsimp only); omega)

