theorem dX7_clears_0 : decode cX7_clears 0 = .ok (.aload_n 0, 1) := by decide +kernel
theorem dX7_clears_1 : decode cX7_clears 1 = .ok (.getfield 31, 3) := by decide +kernel
theorem dX7_clears_4 : decode cX7_clears 4 = .ok (.iconst 4, 1) := by decide +kernel
theorem dX7_clears_5 : decode cX7_clears 5 = .ok (.iconst 0, 1) := by decide +kernel
theorem dX7_clears_6 : decode cX7_clears 6 = .ok (.iastore, 1) := by decide +kernel
theorem dX7_clears_7 : decode cX7_clears 7 = .ok (.iconst 0, 1) := by decide +kernel
theorem dX7_clears_8 : decode cX7_clears 8 = .ok (.istore_n 1, 1) := by decide +kernel
theorem dX7_clears_9 : decode cX7_clears 9 = .ok (.iload_n 1, 1) := by decide +kernel
theorem dX7_clears_10 : decode cX7_clears 10 = .ok (.bipush 9, 2) := by decide +kernel
theorem dX7_clears_12 : decode cX7_clears 12 = .ok (.if_icmp .ge 29, 3) := by decide +kernel
theorem dX7_clears_15 : decode cX7_clears 15 = .ok (.aload_n 0, 1) := by decide +kernel
theorem dX7_clears_16 : decode cX7_clears 16 = .ok (.getfield 34, 3) := by decide +kernel
theorem dX7_clears_19 : decode cX7_clears 19 = .ok (.bipush 36, 2) := by decide +kernel
theorem dX7_clears_21 : decode cX7_clears 21 = .ok (.iload_n 1, 1) := by decide +kernel
theorem dX7_clears_22 : decode cX7_clears 22 = .ok (.iadd, 1) := by decide +kernel
theorem dX7_clears_23 : decode cX7_clears 23 = .ok (.iload_n 1, 1) := by decide +kernel
theorem dX7_clears_24 : decode cX7_clears 24 = .ok (.bipush 7, 2) := by decide +kernel
theorem dX7_clears_26 : decode cX7_clears 26 = .ok (.if_icmp .ne 7, 3) := by decide +kernel
theorem dX7_clears_29 : decode cX7_clears 29 = .ok (.iconst (-1), 1) := by decide +kernel
theorem dX7_clears_30 : decode cX7_clears 30 = .ok (.goto 4, 3) := by decide +kernel
theorem dX7_clears_33 : decode cX7_clears 33 = .ok (.iconst 0, 1) := by decide +kernel
theorem dX7_clears_34 : decode cX7_clears 34 = .ok (.iastore, 1) := by decide +kernel
theorem dX7_clears_35 : decode cX7_clears 35 = .ok (.iinc 1 1, 3) := by decide +kernel
theorem dX7_clears_38 : decode cX7_clears 38 = .ok (.goto (-29), 3) := by decide +kernel
theorem dX7_clears_41 : decode cX7_clears 41 = .ok (.iconst 0, 1) := by decide +kernel
theorem dX7_clears_42 : decode cX7_clears 42 = .ok (.istore_n 1, 1) := by decide +kernel
theorem dX7_clears_43 : decode cX7_clears 43 = .ok (.iload_n 1, 1) := by decide +kernel
theorem dX7_clears_44 : decode cX7_clears 44 = .ok (.bipush 40, 2) := by decide +kernel
theorem dX7_clears_46 : decode cX7_clears 46 = .ok (.if_icmp .ge 20, 3) := by decide +kernel
theorem dX7_clears_49 : decode cX7_clears 49 = .ok (.aload_n 0, 1) := by decide +kernel
theorem dX7_clears_50 : decode cX7_clears 50 = .ok (.getfield 37, 3) := by decide +kernel
theorem dX7_clears_53 : decode cX7_clears 53 = .ok (.sipush 160, 3) := by decide +kernel
theorem dX7_clears_56 : decode cX7_clears 56 = .ok (.iload_n 1, 1) := by decide +kernel
theorem dX7_clears_57 : decode cX7_clears 57 = .ok (.iadd, 1) := by decide +kernel
theorem dX7_clears_58 : decode cX7_clears 58 = .ok (.iconst 0, 1) := by decide +kernel
theorem dX7_clears_59 : decode cX7_clears 59 = .ok (.iastore, 1) := by decide +kernel
theorem dX7_clears_60 : decode cX7_clears 60 = .ok (.iinc 1 1, 3) := by decide +kernel
theorem dX7_clears_63 : decode cX7_clears 63 = .ok (.goto (-20), 3) := by decide +kernel
theorem dX7_clears_66 : decode cX7_clears 66 = .ok (.aload_n 0, 1) := by decide +kernel
theorem dX7_clears_67 : decode cX7_clears 67 = .ok (.iconst 0, 1) := by decide +kernel
theorem dX7_clears_68 : decode cX7_clears 68 = .ok (.putfield 207, 3) := by decide +kernel
theorem dX7_clears_71 : decode cX7_clears 71 = .ok (.return_, 1) := by decide +kernel
def wz_X7_clears : List Cond := .code yX7_clears cX7_clears 2 none :: ([Cond.fieldLink RX7 31 "HedgeMazeModel" "lines" "[I", Cond.fieldLink RX7 207 "HedgeMazeModel" "isLawTold" "Z", Cond.fieldLink RX7 37 "HedgeMazeModel" "state" "[I", Cond.fieldLink RX7 34 "HedgeMazeModel" "has" "[I"] ++ wsX70)
theorem wd_X7_clears_0 : Cond.fieldLink RX7 31 "HedgeMazeModel" "lines" "[I" ∈ wz_X7_clears := List.mem_of_getElem? (i := 1) rfl
theorem wd_X7_clears_1 : Cond.fieldLink RX7 207 "HedgeMazeModel" "isLawTold" "Z" ∈ wz_X7_clears := List.mem_of_getElem? (i := 2) rfl
theorem wd_X7_clears_2 : Cond.fieldLink RX7 37 "HedgeMazeModel" "state" "[I" ∈ wz_X7_clears := List.mem_of_getElem? (i := 3) rfl
theorem wd_X7_clears_3 : Cond.fieldLink RX7 34 "HedgeMazeModel" "has" "[I" ∈ wz_X7_clears := List.mem_of_getElem? (i := 4) rfl
theorem in_X7_clears_X7 : ∀ w ∈ wsX70, w ∈ wz_X7_clears := fun _ h => List.mem_cons_of_mem _ (List.mem_append_right _ h)
set_option maxHeartbeats 4000000 in
set_option maxRecDepth 100000 in
theorem c_X7_clears (l : Launch) (dC : Nat → ClassId) (dI : Nat → Nat → Nat) (sz : Nat) (mz : Nat) (mth : Int32) (mq1 : Nat) (mq2 : Nat) (mq3 : Nat) (mq4 : Nat) (mq5 : Nat) (mtd : Int32) (mat : Int32) (mtk : Int32) (mpl : Int32) (mva : Int32) (mwd : Int64) (mbd : Int32) (mbp : Int32) (mft : Int32) (mfp : Int32) (mq16 : Nat) (mq17 : Nat) (mq18 : Nat) (mq19 : Nat) (mq20 : Nat) (mq21 : Nat) (mlt : Int32) (mq23 : Nat) (mq24 : Nat) (mq25 : Nat) (msd : Int32) (mq27 : Nat) (mq28 : Nat) (mq29 : Nat) (mq30 : Nat) (mq31 : Nat) (mq32 : Nat) (mlr : Int32) (mst : Int32) (mob : Int64) (msb : Int64) (mq37 : Nat) (mln : Int32) (mk16 : ClassId) (mf16 : Nat → Int32) (mk17 : ClassId) (mf17 : Nat → Int32) (mk18 : ClassId) (mf18 : Nat → Int32) (hR_mq17 : HI mf17) : Met l yX7_clears wz_X7_clears ({ frames := 0, cells := 0, slots := 0, locals := 0 }) (va_Pc [.ref mz] (fun U => U.heap.size = sz ∧ va_P (dC, dI) vwCl [(mz, .inr (7, [.int mth, .ref mq1, .ref mq2, .ref mq3, .ref mq4, .ref mq5, .int mtd, .int mat, .int mtk, .int mpl, .int mva, .long mwd, .int mbd, .int mbp, .int mft, .int mfp, .ref mq16, .ref mq17, .ref mq18, .ref mq19, .ref mq20, .ref mq21, .int mlt, .ref mq23, .ref mq24, .ref mq25, .int msd, .ref mq27, .ref mq28, .ref mq29, .ref mq30, .ref mq31, .ref mq32, .int mlr, .int mst, .long mob, .long msb, .ref mq37, .int mln])), (mq16, .inl (mk16, 5, .inl mf16)), (mq17, .inl (mk17, 45, .inl mf17)), (mq18, .inl (mk18, 200, .inl mf18))] U.heap ∧ va_K (dC, dI) vwCl [(mk16, .int), (mk17, .int), (mk18, .int)] U ∧ va_D (fun _ => True) [(mz, .inr (7, [.int mth, .ref mq1, .ref mq2, .ref mq3, .ref mq4, .ref mq5, .int mtd, .int mat, .int mtk, .int mpl, .int mva, .long mwd, .int mbd, .int mbp, .int mft, .int mfp, .ref mq16, .ref mq17, .ref mq18, .ref mq19, .ref mq20, .ref mq21, .int mlt, .ref mq23, .ref mq24, .ref mq25, .int msd, .ref mq27, .ref mq28, .ref mq29, .ref mq30, .ref mq31, .ref mq32, .int mlr, .int mst, .long mob, .long msb, .ref mq37, .int mln])), (mq16, .inl (mk16, 5, .inl mf16)), (mq17, .inl (mk17, 45, .inl mf17)), (mq18, .inl (mk18, 200, .inl mf18))])) (va_Qv (fun (u : (Nat → Int32) × (Nat → Int32) × (Nat → Int32)) => ((u.1 4).toInt = 0) ∧ (HI u.2.1)) (fun (u : (Nat → Int32) × (Nat → Int32) × (Nat → Int32)) (t : State) => va_P (dC, dI) vwCl [(mz, .inr (7, [.int mth, .ref mq1, .ref mq2, .ref mq3, .ref mq4, .ref mq5, .int mtd, .int mat, .int mtk, .int mpl, .int mva, .long mwd, .int mbd, .int mbp, .int mft, .int mfp, .ref mq16, .ref mq17, .ref mq18, .ref mq19, .ref mq20, .ref mq21, .int 0, .ref mq23, .ref mq24, .ref mq25, .int msd, .ref mq27, .ref mq28, .ref mq29, .ref mq30, .ref mq31, .ref mq32, .int mlr, .int mst, .long mob, .long msb, .ref mq37, .int mln])), (mq16, .inl (mk16, 5, .inl u.1)), (mq17, .inl (mk17, 45, .inl u.2.1)), (mq18, .inl (mk18, 200, .inl u.2.2))] t.heap ∧ va_K (dC, dI) vwCl [] t ∧ va_D (va_A [(mz, .inr (7, [.int mth, .ref mq1, .ref mq2, .ref mq3, .ref mq4, .ref mq5, .int mtd, .int mat, .int mtk, .int mpl, .int mva, .long mwd, .int mbd, .int mbp, .int mft, .int mfp, .ref mq16, .ref mq17, .ref mq18, .ref mq19, .ref mq20, .ref mq21, .int mlt, .ref mq23, .ref mq24, .ref mq25, .int msd, .ref mq27, .ref mq28, .ref mq29, .ref mq30, .ref mq31, .ref mq32, .int mlr, .int mst, .long mob, .long msb, .ref mq37, .int mln])), (mq16, .inl (mk16, 5, .inl mf16)), (mq17, .inl (mk17, 45, .inl mf17)), (mq18, .inl (mk18, 200, .inl mf18))] sz) [(mz, .inr (7, [.int mth, .ref mq1, .ref mq2, .ref mq3, .ref mq4, .ref mq5, .int mtd, .int mat, .int mtk, .int mpl, .int mva, .long mwd, .int mbd, .int mbp, .int mft, .int mfp, .ref mq16, .ref mq17, .ref mq18, .ref mq19, .ref mq20, .ref mq21, .int 0, .ref mq23, .ref mq24, .ref mq25, .int msd, .ref mq27, .ref mq28, .ref mq29, .ref mq30, .ref mq31, .ref mq32, .int mlr, .int mst, .long mob, .long msb, .ref mq37, .int mln])), (mq16, .inl (mk16, 5, .inl u.1)), (mq17, .inl (mk17, 45, .inl u.2.1)), (mq18, .inl (mk18, 200, .inl u.2.2))]) (va_A [(mz, .inr (7, [.int mth, .ref mq1, .ref mq2, .ref mq3, .ref mq4, .ref mq5, .int mtd, .int mat, .int mtk, .int mpl, .int mva, .long mwd, .int mbd, .int mbp, .int mft, .int mfp, .ref mq16, .ref mq17, .ref mq18, .ref mq19, .ref mq20, .ref mq21, .int mlt, .ref mq23, .ref mq24, .ref mq25, .int msd, .ref mq27, .ref mq28, .ref mq29, .ref mq30, .ref mq31, .ref mq32, .int mlr, .int mst, .long mob, .long msb, .ref mq37, .int mln])), (mq16, .inl (mk16, 5, .inl mf16)), (mq17, .inl (mk17, 45, .inl mf17)), (mq18, .inl (mk18, 200, .inl mf18))] sz)) 0 0 (va_A [(mz, .inr (7, [.int mth, .ref mq1, .ref mq2, .ref mq3, .ref mq4, .ref mq5, .int mtd, .int mat, .int mtk, .int mpl, .int mva, .long mwd, .int mbd, .int mbp, .int mft, .int mfp, .ref mq16, .ref mq17, .ref mq18, .ref mq19, .ref mq20, .ref mq21, .int mlt, .ref mq23, .ref mq24, .ref mq25, .int msd, .ref mq27, .ref mq28, .ref mq29, .ref mq30, .ref mq31, .ref mq32, .int mlr, .int mst, .long mob, .long msb, .ref mq37, .int mln])), (mq16, .inl (mk16, 5, .inl mf16)), (mq17, .inl (mk17, 45, .inl mf17)), (mq18, .inl (mk18, 200, .inl mf18))] sz) := by
  refine Met.ofW (cc := cX7_clears) (maxL := 2) (ret := none) (by decide) rfl ?_
  intro p e s m args below meth c s₁ B hml hv
  obtain ⟨rfl, hsz, hP, hK, hD0⟩ := hv
  have hx := B.exec
  have hb := B.bytes
  have hr := B.returns
  have hts := atoms_spec (ws := wz_X7_clears) B.pre
  have hown : s.vm.findClass RX7 = some m.cls := findClass_of_methodNamed B.named
  have hlocks := B.notSynchronized
  subst hsz
  have hD := hD0.self (sz := s.heap.size)
  generalize hAe : va_A [(mz, .inr (7, [.int mth, .ref mq1, .ref mq2, .ref mq3, .ref mq4, .ref mq5, .int mtd, .int mat, .int mtk, .int mpl, .int mva, .long mwd, .int mbd, .int mbp, .int mft, .int mfp, .ref mq16, .ref mq17, .ref mq18, .ref mq19, .ref mq20, .ref mq21, .int mlt, .ref mq23, .ref mq24, .ref mq25, .int msd, .ref mq27, .ref mq28, .ref mq29, .ref mq30, .ref mq31, .ref mq32, .int mlr, .int mst, .long mob, .long msb, .ref mq37, .int mln])), (mq16, .inl (mk16, 5, .inl mf16)), (mq17, .inl (mk17, 45, .inl mf17)), (mq18, .inl (mk18, 200, .inl mf18))] s.heap.size = A at hD ⊢
  have hA : ∀ q : Nat, s.heap.size ≤ q → A q := fun q h => by rw [← hAe]; exact Or.inr h
  have hS : va_S A s.heap s.heap [] := va_S.rf
  have hP : va_P (dC, dI) vwCl [(mz, .inr (7, [.int mth, .ref mq1, .ref mq2, .ref mq3, .ref mq4, .ref mq5, .int mtd, .int mat, .int mtk, .int mpl, .int mva, .long mwd, .int mbd, .int mbp, .int mft, .int mfp, .ref mq16, .ref mq17, .ref mq18, .ref mq19, .ref mq20, .ref mq21, .int mlt, .ref mq23, .ref mq24, .ref mq25, .int msd, .ref mq27, .ref mq28, .ref mq29, .ref mq30, .ref mq31, .ref mq32, .int mlr, .int mst, .long mob, .long msb, .ref mq37, .int mln])), (mq16, .inl (mk16, 5, .inl mf16)), (mq17, .inl (mk17, 45, .inl mf17)), (mq18, .inl (mk18, 200, .inl mf18))] s.heap := hP
  have hl := lv_entry ([.ref mz]) (n := 2) (Nat.le_of_ble_eq_true rfl)
  rw [lg_entry_eq]
  generalize (lg_sl ([.ref mz]) ++ List.replicate (2 - (lg_sl ([.ref mz])).length) Slot.unset).toArray = ls at hl ⊢
  have hl : lv_has ls 2 [(0, .ref mz)] := hl
  have hcm := HI.cm hR_mq17
  refine lv_aload_n hx hb dX7_clears_0 rfl (lv_at hl 0 rfl) ?_
  refine va_get (D := (dC, dI)) (ci := 7) (v := .ref mq16) (C := RX7) (T := TX7) (N := 39) hx hb hts in_X7_clears_X7 hown hK hP 0 rfl rfl 16 (by decide) (hts _ wd_X7_clears_0) (fun _ h9 => h9) rfl dX7_clears_1 ?_
  refine lv_iconst (v := 4) hx hb dX7_clears_4 (by decide) ?_
  refine lv_iconst (v := 0) hx hb dX7_clears_5 (by decide) ?_
  refine va_iast hx hb hK hP hD hS 1 0 rfl rfl (vp_in_iff.mpr ⟨by decide, by decide⟩) dX7_clears_6 (fun H locs hP hD hS => ?_)
  have hP : va_P (dC, dI) vwCl [(mz, .inr (7, [.int mth, .ref mq1, .ref mq2, .ref mq3, .ref mq4, .ref mq5, .int mtd, .int mat, .int mtk, .int mpl, .int mva, .long mwd, .int mbd, .int mbp, .int mft, .int mfp, .ref mq16, .ref mq17, .ref mq18, .ref mq19, .ref mq20, .ref mq21, .int mlt, .ref mq23, .ref mq24, .ref mq25, .int msd, .ref mq27, .ref mq28, .ref mq29, .ref mq30, .ref mq31, .ref mq32, .int mlr, .int mst, .long mob, .long msb, .ref mq37, .int mln])), (mq16, .inl (mk16, 5, .inl (upd mf16 ((4 : Int32)).toNatClampNeg 0))), (mq17, .inl (mk17, 45, .inl mf17)), (mq18, .inl (mk18, 200, .inl mf18))] H := hP
  have hD : va_D A [(mz, .inr (7, [.int mth, .ref mq1, .ref mq2, .ref mq3, .ref mq4, .ref mq5, .int mtd, .int mat, .int mtk, .int mpl, .int mva, .long mwd, .int mbd, .int mbp, .int mft, .int mfp, .ref mq16, .ref mq17, .ref mq18, .ref mq19, .ref mq20, .ref mq21, .int mlt, .ref mq23, .ref mq24, .ref mq25, .int msd, .ref mq27, .ref mq28, .ref mq29, .ref mq30, .ref mq31, .ref mq32, .int mlr, .int mst, .long mob, .long msb, .ref mq37, .int mln])), (mq16, .inl (mk16, 5, .inl (upd mf16 ((4 : Int32)).toNatClampNeg 0))), (mq17, .inl (mk17, 45, .inl mf17)), (mq18, .inl (mk18, 200, .inl mf18))] := hD
  obtain ⟨f_1, ef_1⟩ : ∃ g, g = upd mf16 ((4 : Int32)).toNatClampNeg 0 := ⟨_, rfl⟩
  rw [← ef_1] at hP hD
  have hl4 : (f_1 4).toInt = 0 := by rw [ef_1]; show (upd mf16 4 0 4).toInt = 0; rw [pk_us]; decide
  refine lv_iconst (v := 0) hx hb dX7_clears_7 (by decide) ?_
  refine lv_istore_n (lv' := [(1, .int 0), (0, .ref mz)]) hx hb dX7_clears_8 rfl hl (by decide) rfl (fun ls hl => ?_)
  refine lp_W (I := fun (a : Int32 × (Nat → Int32)) H locs ls => (0 ≤ a.1.toInt ∧ a.1.toInt ≤ 9) ∧ (CL mf17 a.2 a.1.toNatClampNeg) ∧ va_P (dC, dI) vwCl [(mz, .inr (7, [.int mth, .ref mq1, .ref mq2, .ref mq3, .ref mq4, .ref mq5, .int mtd, .int mat, .int mtk, .int mpl, .int mva, .long mwd, .int mbd, .int mbp, .int mft, .int mfp, .ref mq16, .ref mq17, .ref mq18, .ref mq19, .ref mq20, .ref mq21, .int mlt, .ref mq23, .ref mq24, .ref mq25, .int msd, .ref mq27, .ref mq28, .ref mq29, .ref mq30, .ref mq31, .ref mq32, .int mlr, .int mst, .long mob, .long msb, .ref mq37, .int mln])), (mq16, .inl (mk16, 5, .inl f_1)), (mq17, .inl (mk17, 45, .inl a.2)), (mq18, .inl (mk18, 200, .inl mf18))] H ∧ va_D A [(mz, .inr (7, [.int mth, .ref mq1, .ref mq2, .ref mq3, .ref mq4, .ref mq5, .int mtd, .int mat, .int mtk, .int mpl, .int mva, .long mwd, .int mbd, .int mbp, .int mft, .int mfp, .ref mq16, .ref mq17, .ref mq18, .ref mq19, .ref mq20, .ref mq21, .int mlt, .ref mq23, .ref mq24, .ref mq25, .int msd, .ref mq27, .ref mq28, .ref mq29, .ref mq30, .ref mq31, .ref mq32, .int mlr, .int mst, .long mob, .long msb, .ref mq37, .int mln])), (mq16, .inl (mk16, 5, .inl f_1)), (mq17, .inl (mk17, 45, .inl a.2)), (mq18, .inl (mk18, 200, .inl mf18))] ∧ va_S A s.heap H locs ∧ lv_has ls 2 [(1, .int a.1), (0, .ref mz)]) (μ := fun a => (9 - a.1.toInt).toNat) ?_ ((0 : Int32), mf17) ⟨(by have k0 : (0 : Int32).toInt = 0 := (by decide); (try dsimp only); omega), ⟨fun _ _ => rfl, fun _ h9 => absurd h9 (Nat.not_lt_zero _)⟩, hP.sub [0, 1, 2, 3] rfl, hD.sub [0, 1, 2, 3] (by decide) rfl, hS, lv_sub hl [0, 1] rfl⟩
  intro a H locs ls hI ih9
  obtain ⟨i1, g1⟩ := a
  obtain ⟨h_i1, hCL, hP, hD, hS, hl⟩ := hI
  have h_i1 : 0 ≤ i1.toInt ∧ i1.toInt ≤ 9 := h_i1
  have hCL : CL mf17 g1 i1.toNatClampNeg := hCL
  have hP : va_P (dC, dI) vwCl [(mz, .inr (7, [.int mth, .ref mq1, .ref mq2, .ref mq3, .ref mq4, .ref mq5, .int mtd, .int mat, .int mtk, .int mpl, .int mva, .long mwd, .int mbd, .int mbp, .int mft, .int mfp, .ref mq16, .ref mq17, .ref mq18, .ref mq19, .ref mq20, .ref mq21, .int mlt, .ref mq23, .ref mq24, .ref mq25, .int msd, .ref mq27, .ref mq28, .ref mq29, .ref mq30, .ref mq31, .ref mq32, .int mlr, .int mst, .long mob, .long msb, .ref mq37, .int mln])), (mq16, .inl (mk16, 5, .inl f_1)), (mq17, .inl (mk17, 45, .inl g1)), (mq18, .inl (mk18, 200, .inl mf18))] H := hP
  have hD : va_D A [(mz, .inr (7, [.int mth, .ref mq1, .ref mq2, .ref mq3, .ref mq4, .ref mq5, .int mtd, .int mat, .int mtk, .int mpl, .int mva, .long mwd, .int mbd, .int mbp, .int mft, .int mfp, .ref mq16, .ref mq17, .ref mq18, .ref mq19, .ref mq20, .ref mq21, .int mlt, .ref mq23, .ref mq24, .ref mq25, .int msd, .ref mq27, .ref mq28, .ref mq29, .ref mq30, .ref mq31, .ref mq32, .int mlr, .int mst, .long mob, .long msb, .ref mq37, .int mln])), (mq16, .inl (mk16, 5, .inl f_1)), (mq17, .inl (mk17, 45, .inl g1)), (mq18, .inl (mk18, 200, .inl mf18))] := hD
  have hl : lv_has ls 2 [(1, .int i1), (0, .ref mz)] := hl
  refine lv_iload_n hx hb dX7_clears_9 rfl (lv_at hl 0 rfl) ?_
  refine lv_bipush (v := 9) hx hb dX7_clears_10 (by decide) ?_
  refine lv_icmp_ge (tgt := 41) hx hb dX7_clears_12 (by decide) (fun c_2 => ?_) (fun c_2 => ?_)
  · have c_2 : 9 ≤ i1.toInt := i_le (a := 9) (b := i1) (by decide) rfl c_2
    have hR9 : HI g1 := CL.hi hCL hR_mq17 rfl (by omega)
    refine lv_iconst (v := 0) hx hb dX7_clears_41 (by decide) ?_
    refine lv_istore_n (lv' := [(1, .int 0), (0, .ref mz)]) hx hb dX7_clears_42 rfl hl (by decide) rfl (fun ls hl => ?_)
    refine lp_W (I := fun (a : Int32 × (Nat → Int32)) H locs ls => (0 ≤ a.1.toInt ∧ a.1.toInt ≤ 40) ∧ va_P (dC, dI) vwCl [(mz, .inr (7, [.int mth, .ref mq1, .ref mq2, .ref mq3, .ref mq4, .ref mq5, .int mtd, .int mat, .int mtk, .int mpl, .int mva, .long mwd, .int mbd, .int mbp, .int mft, .int mfp, .ref mq16, .ref mq17, .ref mq18, .ref mq19, .ref mq20, .ref mq21, .int mlt, .ref mq23, .ref mq24, .ref mq25, .int msd, .ref mq27, .ref mq28, .ref mq29, .ref mq30, .ref mq31, .ref mq32, .int mlr, .int mst, .long mob, .long msb, .ref mq37, .int mln])), (mq16, .inl (mk16, 5, .inl f_1)), (mq17, .inl (mk17, 45, .inl g1)), (mq18, .inl (mk18, 200, .inl a.2))] H ∧ va_D A [(mz, .inr (7, [.int mth, .ref mq1, .ref mq2, .ref mq3, .ref mq4, .ref mq5, .int mtd, .int mat, .int mtk, .int mpl, .int mva, .long mwd, .int mbd, .int mbp, .int mft, .int mfp, .ref mq16, .ref mq17, .ref mq18, .ref mq19, .ref mq20, .ref mq21, .int mlt, .ref mq23, .ref mq24, .ref mq25, .int msd, .ref mq27, .ref mq28, .ref mq29, .ref mq30, .ref mq31, .ref mq32, .int mlr, .int mst, .long mob, .long msb, .ref mq37, .int mln])), (mq16, .inl (mk16, 5, .inl f_1)), (mq17, .inl (mk17, 45, .inl g1)), (mq18, .inl (mk18, 200, .inl a.2))] ∧ va_S A s.heap H locs ∧ lv_has ls 2 [(1, .int a.1), (0, .ref mz)]) (μ := fun a => (40 - a.1.toInt).toNat) ?_ ((0 : Int32), mf18) ⟨(by have k0 : (0 : Int32).toInt = 0 := (by decide); (try dsimp only); omega), hP.sub [0, 1, 2, 3] rfl, hD.sub [0, 1, 2, 3] (by decide) rfl, hS, lv_sub hl [0, 1] rfl⟩
    intro a H locs ls hI ih43
    obtain ⟨i2, S2⟩ := a
    obtain ⟨h_i2, hP, hD, hS, hl⟩ := hI
    have h_i2 : 0 ≤ i2.toInt ∧ i2.toInt ≤ 40 := h_i2
    have hP : va_P (dC, dI) vwCl [(mz, .inr (7, [.int mth, .ref mq1, .ref mq2, .ref mq3, .ref mq4, .ref mq5, .int mtd, .int mat, .int mtk, .int mpl, .int mva, .long mwd, .int mbd, .int mbp, .int mft, .int mfp, .ref mq16, .ref mq17, .ref mq18, .ref mq19, .ref mq20, .ref mq21, .int mlt, .ref mq23, .ref mq24, .ref mq25, .int msd, .ref mq27, .ref mq28, .ref mq29, .ref mq30, .ref mq31, .ref mq32, .int mlr, .int mst, .long mob, .long msb, .ref mq37, .int mln])), (mq16, .inl (mk16, 5, .inl f_1)), (mq17, .inl (mk17, 45, .inl g1)), (mq18, .inl (mk18, 200, .inl S2))] H := hP
    have hD : va_D A [(mz, .inr (7, [.int mth, .ref mq1, .ref mq2, .ref mq3, .ref mq4, .ref mq5, .int mtd, .int mat, .int mtk, .int mpl, .int mva, .long mwd, .int mbd, .int mbp, .int mft, .int mfp, .ref mq16, .ref mq17, .ref mq18, .ref mq19, .ref mq20, .ref mq21, .int mlt, .ref mq23, .ref mq24, .ref mq25, .int msd, .ref mq27, .ref mq28, .ref mq29, .ref mq30, .ref mq31, .ref mq32, .int mlr, .int mst, .long mob, .long msb, .ref mq37, .int mln])), (mq16, .inl (mk16, 5, .inl f_1)), (mq17, .inl (mk17, 45, .inl g1)), (mq18, .inl (mk18, 200, .inl S2))] := hD
    have hl : lv_has ls 2 [(1, .int i2), (0, .ref mz)] := hl
    refine lv_iload_n hx hb dX7_clears_43 rfl (lv_at hl 0 rfl) ?_
    refine lv_bipush (v := 40) hx hb dX7_clears_44 (by decide) ?_
    refine lv_icmp_ge (tgt := 66) hx hb dX7_clears_46 (by decide) (fun c_3 => ?_) (fun c_3 => ?_)
    · have c_3 : 40 ≤ i2.toInt := i_le (a := 40) (b := i2) (by decide) rfl c_3
      refine lv_aload_n hx hb dX7_clears_66 rfl (lv_at hl 1 rfl) ?_
      refine lv_iconst (v := 0) hx hb dX7_clears_67 (by decide) ?_
      refine va_put (D := (dC, dI)) (ci := 7) (v := .int 0) (ty := .boolean) (C := RX7) (T := TX7) (N := 39) hx hb hts in_X7_clears_X7 tyX7 tyX7_ok nmX7 hown hK hP hD hS 0 rfl rfl 22 (by decide) (hts _ wd_X7_clears_1) (fun _ h9 => h9) rfl (by decide +kernel) (by decide) (by decide) (Nat.le_of_ble_eq_true rfl) dX7_clears_68 (fun H locs hP hD hS => ?_)
      have hP : va_P (dC, dI) vwCl [(mz, .inr (7, [.int mth, .ref mq1, .ref mq2, .ref mq3, .ref mq4, .ref mq5, .int mtd, .int mat, .int mtk, .int mpl, .int mva, .long mwd, .int mbd, .int mbp, .int mft, .int mfp, .ref mq16, .ref mq17, .ref mq18, .ref mq19, .ref mq20, .ref mq21, .int 0, .ref mq23, .ref mq24, .ref mq25, .int msd, .ref mq27, .ref mq28, .ref mq29, .ref mq30, .ref mq31, .ref mq32, .int mlr, .int mst, .long mob, .long msb, .ref mq37, .int mln])), (mq16, .inl (mk16, 5, .inl f_1)), (mq17, .inl (mk17, 45, .inl g1)), (mq18, .inl (mk18, 200, .inl S2))] H := hP
      have hD : va_D A [(mz, .inr (7, [.int mth, .ref mq1, .ref mq2, .ref mq3, .ref mq4, .ref mq5, .int mtd, .int mat, .int mtk, .int mpl, .int mva, .long mwd, .int mbd, .int mbp, .int mft, .int mfp, .ref mq16, .ref mq17, .ref mq18, .ref mq19, .ref mq20, .ref mq21, .int 0, .ref mq23, .ref mq24, .ref mq25, .int msd, .ref mq27, .ref mq28, .ref mq29, .ref mq30, .ref mq31, .ref mq32, .int mlr, .int mst, .long mob, .long msb, .ref mq37, .int mln])), (mq16, .inl (mk16, 5, .inl f_1)), (mq17, .inl (mk17, 45, .inl g1)), (mq18, .inl (mk18, 200, .inl S2))] := hD
      have hP9 := hP.sub (ws' := [(mz, .inr (7, [.int mth, .ref mq1, .ref mq2, .ref mq3, .ref mq4, .ref mq5, .int mtd, .int mat, .int mtk, .int mpl, .int mva, .long mwd, .int mbd, .int mbp, .int mft, .int mfp, .ref mq16, .ref mq17, .ref mq18, .ref mq19, .ref mq20, .ref mq21, .int 0, .ref mq23, .ref mq24, .ref mq25, .int msd, .ref mq27, .ref mq28, .ref mq29, .ref mq30, .ref mq31, .ref mq32, .int mlr, .int mst, .long mob, .long msb, .ref mq37, .int mln])), (mq16, .inl (mk16, 5, .inl f_1)), (mq17, .inl (mk17, 45, .inl g1)), (mq18, .inl (mk18, 200, .inl S2))]) [0, 1, 2, 3] rfl
      have hD9 := hD.sub (ws' := [(mz, .inr (7, [.int mth, .ref mq1, .ref mq2, .ref mq3, .ref mq4, .ref mq5, .int mtd, .int mat, .int mtk, .int mpl, .int mva, .long mwd, .int mbd, .int mbp, .int mft, .int mfp, .ref mq16, .ref mq17, .ref mq18, .ref mq19, .ref mq20, .ref mq21, .int 0, .ref mq23, .ref mq24, .ref mq25, .int msd, .ref mq27, .ref mq28, .ref mq29, .ref mq30, .ref mq31, .ref mq32, .int mlr, .int mst, .long mob, .long msb, .ref mq37, .int mln])), (mq16, .inl (mk16, 5, .inl f_1)), (mq17, .inl (mk17, 45, .inl g1)), (mq18, .inl (mk18, 200, .inl S2))]) [0, 1, 2, 3] (by decide) rfl
      have hK9 := hK.sub (tys' := []) [] rfl
      refine W.widen (k := 0) (n := 0) (by omega) (by omega) ?_
      exact W.vret hx hb hr (fun t ht hW => ⟨⟨(f_1, g1, S2), rfl, ⟨(by first | rfl | trivial | (dsimp only; omega) | omega | (left; rfl) | (right; rfl) | (dsimp only; first | (left; rfl) | (right; rfl))), hR9⟩, by rw [ht]; exact hP9, va_K.moved hW.alike hK9, hD9⟩, hS.F ht⟩) hS.2.2 dX7_clears_71
    · have c_3 : i2.toInt < 40 := i_nle (a := 40) (b := i2) (by decide) rfl c_3
      refine lv_aload_n hx hb dX7_clears_49 rfl (lv_at hl 1 rfl) ?_
      refine va_get (D := (dC, dI)) (ci := 7) (v := .ref mq18) (C := RX7) (T := TX7) (N := 39) hx hb hts in_X7_clears_X7 hown hK hP 0 rfl rfl 18 (by decide) (hts _ wd_X7_clears_2) (fun _ h9 => h9) rfl dX7_clears_50 ?_
      refine lv_sipush (v := 160) hx hb dX7_clears_53 (by decide) ?_
      refine lv_iload_n hx hb dX7_clears_56 rfl (lv_at hl 0 rfl) ?_
      refine lv_iadd hx hb dX7_clears_57 ?_
      refine lv_topi (fun x_4 ex_4 => ?_)
      have zx_4 : x_4.toInt = 160 + i2.toInt := by rw [ex_4]; exact i_add (by decide) rfl (by omega) (by omega)
      refine lv_iconst (v := 0) hx hb dX7_clears_58 (by decide) ?_
      refine va_iast hx hb hK hP hD hS 3 2 rfl rfl (i_in rfl (by omega) (by omega)) dX7_clears_59 (fun H locs hP hD hS => ?_)
      have hP : va_P (dC, dI) vwCl [(mz, .inr (7, [.int mth, .ref mq1, .ref mq2, .ref mq3, .ref mq4, .ref mq5, .int mtd, .int mat, .int mtk, .int mpl, .int mva, .long mwd, .int mbd, .int mbp, .int mft, .int mfp, .ref mq16, .ref mq17, .ref mq18, .ref mq19, .ref mq20, .ref mq21, .int mlt, .ref mq23, .ref mq24, .ref mq25, .int msd, .ref mq27, .ref mq28, .ref mq29, .ref mq30, .ref mq31, .ref mq32, .int mlr, .int mst, .long mob, .long msb, .ref mq37, .int mln])), (mq16, .inl (mk16, 5, .inl f_1)), (mq17, .inl (mk17, 45, .inl g1)), (mq18, .inl (mk18, 200, .inl (upd S2 x_4.toNatClampNeg 0)))] H := hP
      have hD : va_D A [(mz, .inr (7, [.int mth, .ref mq1, .ref mq2, .ref mq3, .ref mq4, .ref mq5, .int mtd, .int mat, .int mtk, .int mpl, .int mva, .long mwd, .int mbd, .int mbp, .int mft, .int mfp, .ref mq16, .ref mq17, .ref mq18, .ref mq19, .ref mq20, .ref mq21, .int mlt, .ref mq23, .ref mq24, .ref mq25, .int msd, .ref mq27, .ref mq28, .ref mq29, .ref mq30, .ref mq31, .ref mq32, .int mlr, .int mst, .long mob, .long msb, .ref mq37, .int mln])), (mq16, .inl (mk16, 5, .inl f_1)), (mq17, .inl (mk17, 45, .inl g1)), (mq18, .inl (mk18, 200, .inl (upd S2 x_4.toNatClampNeg 0)))] := hD
      obtain ⟨f_5, ef_5⟩ : ∃ g, g = upd S2 x_4.toNatClampNeg 0 := ⟨_, rfl⟩
      rw [← ef_5] at hP hD
      obtain ⟨x_6, ex_6⟩ : ∃ y9 : Int32, y9 = i2 + Int32.ofInt 1 := ⟨_, rfl⟩
      have zx_6 : x_6.toInt = i2.toInt + 1 := by rw [ex_6]; exact i_add rfl (show (Int32.ofInt 1).toInt = 1 by decide) (by omega) (by omega)
      refine lv_iinc (v := x_6) (lv' := [(1, .int x_6), (0, .ref mz)]) hx hb dX7_clears_60 hl (k := 0) rfl (by rw [ex_6]) (by decide) rfl (fun ls hl => ?_)
      refine lv_goto (tgt := 43) hx hb dX7_clears_63 (by decide) ?_
      exact ih43 (x_6, f_5) _ _ _ ⟨(by (try dsimp only); omega), hP.sub [0, 1, 2, 3] rfl, hD.sub [0, 1, 2, 3] (by decide) rfl, hS, lv_sub hl [0, 1] rfl⟩ (by (try dsimp only); omega)
  · have c_2 : i1.toInt < 9 := i_nle (a := 9) (b := i1) (by decide) rfl c_2
    refine lv_aload_n hx hb dX7_clears_15 rfl (lv_at hl 1 rfl) ?_
    refine va_get (D := (dC, dI)) (ci := 7) (v := .ref mq17) (C := RX7) (T := TX7) (N := 39) hx hb hts in_X7_clears_X7 hown hK hP 0 rfl rfl 17 (by decide) (hts _ wd_X7_clears_3) (fun _ h9 => h9) rfl dX7_clears_16 ?_
    refine lv_bipush (v := 36) hx hb dX7_clears_19 (by decide) ?_
    refine lv_iload_n hx hb dX7_clears_21 rfl (lv_at hl 0 rfl) ?_
    refine lv_iadd hx hb dX7_clears_22 ?_
    refine lv_topi (fun x_7 ex_7 => ?_)
    have zx_7 : x_7.toInt = 36 + i1.toInt := by rw [ex_7]; exact i_add (by decide) rfl (by omega) (by omega)
    refine lv_iload_n hx hb dX7_clears_23 rfl (lv_at hl 0 rfl) ?_
    refine lv_bipush (v := 7) hx hb dX7_clears_24 (by decide) ?_
    refine lv_icmp_ne (tgt := 33) hx hb dX7_clears_26 (by decide) (fun c_8 => ?_) (fun c_8 => ?_)
    · have c_8 : i1.toInt ≠ 7 := i_ne (a := i1) (b := 7) rfl (by decide) c_8
      refine lv_iconst (v := 0) hx hb dX7_clears_33 (by decide) ?_
      refine va_iast hx hb hK hP hD hS 2 1 rfl rfl (i_in rfl (by omega) (by omega)) dX7_clears_34 (fun H locs hP hD hS => ?_)
      have hP : va_P (dC, dI) vwCl [(mz, .inr (7, [.int mth, .ref mq1, .ref mq2, .ref mq3, .ref mq4, .ref mq5, .int mtd, .int mat, .int mtk, .int mpl, .int mva, .long mwd, .int mbd, .int mbp, .int mft, .int mfp, .ref mq16, .ref mq17, .ref mq18, .ref mq19, .ref mq20, .ref mq21, .int mlt, .ref mq23, .ref mq24, .ref mq25, .int msd, .ref mq27, .ref mq28, .ref mq29, .ref mq30, .ref mq31, .ref mq32, .int mlr, .int mst, .long mob, .long msb, .ref mq37, .int mln])), (mq16, .inl (mk16, 5, .inl f_1)), (mq17, .inl (mk17, 45, .inl (upd g1 x_7.toNatClampNeg 0))), (mq18, .inl (mk18, 200, .inl mf18))] H := hP
      have hD : va_D A [(mz, .inr (7, [.int mth, .ref mq1, .ref mq2, .ref mq3, .ref mq4, .ref mq5, .int mtd, .int mat, .int mtk, .int mpl, .int mva, .long mwd, .int mbd, .int mbp, .int mft, .int mfp, .ref mq16, .ref mq17, .ref mq18, .ref mq19, .ref mq20, .ref mq21, .int mlt, .ref mq23, .ref mq24, .ref mq25, .int msd, .ref mq27, .ref mq28, .ref mq29, .ref mq30, .ref mq31, .ref mq32, .int mlr, .int mst, .long mob, .long msb, .ref mq37, .int mln])), (mq16, .inl (mk16, 5, .inl f_1)), (mq17, .inl (mk17, 45, .inl (upd g1 x_7.toNatClampNeg 0))), (mq18, .inl (mk18, 200, .inl mf18))] := hD
      obtain ⟨f_9, ef_9⟩ : ∃ g, g = upd g1 x_7.toNatClampNeg 0 := ⟨_, rfl⟩
      rw [← ef_9] at hP hD
      obtain ⟨x_10, ex_10⟩ : ∃ y9 : Int32, y9 = i1 + Int32.ofInt 1 := ⟨_, rfl⟩
      have zx_10 : x_10.toInt = i1.toInt + 1 := by rw [ex_10]; exact i_add rfl (show (Int32.ofInt 1).toInt = 1 by decide) (by omega) (by omega)
      refine lv_iinc (v := x_10) (lv' := [(1, .int x_10), (0, .ref mz)]) hx hb dX7_clears_35 hl (k := 0) rfl (by rw [ex_10]) (by decide) rfl (fun ls hl => ?_)
      refine lv_goto (tgt := 9) hx hb dX7_clears_38 (by decide) ?_
      exact ih9 (x_10, f_9) _ _ _ ⟨(by (try dsimp only); omega), (CL.upd1 hCL (x := x_7) (by omega) (by omega) ef_9 (fun h9 => by first | rfl | exact absurd (by omega) h9) (i_sc (k := i1) (k2 := x_10) rfl (by omega) (by omega))), hP.sub [0, 1, 2, 3] rfl, hD.sub [0, 1, 2, 3] (by decide) rfl, hS, lv_sub hl [0, 1] rfl⟩ (by (try dsimp only); omega)
    · have c_8 : i1.toInt = 7 := i_eq (a := i1) (b := 7) rfl (by decide) c_8
      refine lv_iconst (v := -1) hx hb dX7_clears_29 (by decide) ?_
      refine lv_goto (tgt := 34) hx hb dX7_clears_30 (by decide) ?_
      refine va_iast hx hb hK hP hD hS 2 1 rfl rfl (i_in rfl (by omega) (by omega)) dX7_clears_34 (fun H locs hP hD hS => ?_)
      have hP : va_P (dC, dI) vwCl [(mz, .inr (7, [.int mth, .ref mq1, .ref mq2, .ref mq3, .ref mq4, .ref mq5, .int mtd, .int mat, .int mtk, .int mpl, .int mva, .long mwd, .int mbd, .int mbp, .int mft, .int mfp, .ref mq16, .ref mq17, .ref mq18, .ref mq19, .ref mq20, .ref mq21, .int mlt, .ref mq23, .ref mq24, .ref mq25, .int msd, .ref mq27, .ref mq28, .ref mq29, .ref mq30, .ref mq31, .ref mq32, .int mlr, .int mst, .long mob, .long msb, .ref mq37, .int mln])), (mq16, .inl (mk16, 5, .inl f_1)), (mq17, .inl (mk17, 45, .inl (upd g1 x_7.toNatClampNeg (-1)))), (mq18, .inl (mk18, 200, .inl mf18))] H := hP
      have hD : va_D A [(mz, .inr (7, [.int mth, .ref mq1, .ref mq2, .ref mq3, .ref mq4, .ref mq5, .int mtd, .int mat, .int mtk, .int mpl, .int mva, .long mwd, .int mbd, .int mbp, .int mft, .int mfp, .ref mq16, .ref mq17, .ref mq18, .ref mq19, .ref mq20, .ref mq21, .int mlt, .ref mq23, .ref mq24, .ref mq25, .int msd, .ref mq27, .ref mq28, .ref mq29, .ref mq30, .ref mq31, .ref mq32, .int mlr, .int mst, .long mob, .long msb, .ref mq37, .int mln])), (mq16, .inl (mk16, 5, .inl f_1)), (mq17, .inl (mk17, 45, .inl (upd g1 x_7.toNatClampNeg (-1)))), (mq18, .inl (mk18, 200, .inl mf18))] := hD
      obtain ⟨f_11, ef_11⟩ : ∃ g, g = upd g1 x_7.toNatClampNeg (-1) := ⟨_, rfl⟩
      rw [← ef_11] at hP hD
      obtain ⟨x_12, ex_12⟩ : ∃ y9 : Int32, y9 = i1 + Int32.ofInt 1 := ⟨_, rfl⟩
      have zx_12 : x_12.toInt = i1.toInt + 1 := by rw [ex_12]; exact i_add rfl (show (Int32.ofInt 1).toInt = 1 by decide) (by omega) (by omega)
      refine lv_iinc (v := x_12) (lv' := [(1, .int x_12), (0, .ref mz)]) hx hb dX7_clears_35 hl (k := 0) rfl (by rw [ex_12]) (by decide) rfl (fun ls hl => ?_)
      refine lv_goto (tgt := 9) hx hb dX7_clears_38 (by decide) ?_
      exact ih9 (x_12, f_11) _ _ _ ⟨(by (try dsimp only); omega), (CL.upd1 hCL (x := x_7) (by omega) (by omega) ef_11 (fun h9 => by first | rfl | exact absurd (by omega) h9) (i_sc (k := i1) (k2 := x_12) rfl (by omega) (by omega))), hP.sub [0, 1, 2, 3] rfl, hD.sub [0, 1, 2, 3] (by decide) rfl, hS, lv_sub hl [0, 1] rfl⟩ (by (try dsimp only); omega)

theorem dX7_nears_0 : decode cX7_nears 0 = .ok (.aload_n 0, 1) := by decide +kernel
theorem dX7_nears_1 : decode cX7_nears 1 = .ok (.getfield 59, 3) := by decide +kernel
theorem dX7_nears_4 : decode cX7_nears 4 = .ok (.iload_n 1, 1) := by decide +kernel
theorem dX7_nears_5 : decode cX7_nears 5 = .ok (.iaload, 1) := by decide +kernel
theorem dX7_nears_6 : decode cX7_nears 6 = .ok (.iconst (-1), 1) := by decide +kernel
theorem dX7_nears_7 : decode cX7_nears 7 = .ok (.if_icmp .eq 30, 3) := by decide +kernel
theorem dX7_nears_10 : decode cX7_nears 10 = .ok (.aload_n 0, 1) := by decide +kernel
theorem dX7_nears_11 : decode cX7_nears 11 = .ok (.getfield 59, 3) := by decide +kernel
theorem dX7_nears_14 : decode cX7_nears 14 = .ok (.iload_n 2, 1) := by decide +kernel
theorem dX7_nears_15 : decode cX7_nears 15 = .ok (.iaload, 1) := by decide +kernel
theorem dX7_nears_16 : decode cX7_nears 16 = .ok (.iconst (-1), 1) := by decide +kernel
theorem dX7_nears_17 : decode cX7_nears 17 = .ok (.if_icmp .eq 22, 3) := by decide +kernel
theorem dX7_nears_20 : decode cX7_nears 20 = .ok (.aload_n 0, 1) := by decide +kernel
theorem dX7_nears_21 : decode cX7_nears 21 = .ok (.getfield 59, 3) := by decide +kernel
theorem dX7_nears_24 : decode cX7_nears 24 = .ok (.iload_n 2, 1) := by decide +kernel
theorem dX7_nears_25 : decode cX7_nears 25 = .ok (.iaload, 1) := by decide +kernel
theorem dX7_nears_26 : decode cX7_nears 26 = .ok (.aload_n 0, 1) := by decide +kernel
theorem dX7_nears_27 : decode cX7_nears 27 = .ok (.getfield 59, 3) := by decide +kernel
theorem dX7_nears_30 : decode cX7_nears 30 = .ok (.iload_n 1, 1) := by decide +kernel
theorem dX7_nears_31 : decode cX7_nears 31 = .ok (.iaload, 1) := by decide +kernel
theorem dX7_nears_32 : decode cX7_nears 32 = .ok (.iconst 1, 1) := by decide +kernel
theorem dX7_nears_33 : decode cX7_nears 33 = .ok (.iadd, 1) := by decide +kernel
theorem dX7_nears_34 : decode cX7_nears 34 = .ok (.if_icmp .gt 5, 3) := by decide +kernel
theorem dX7_nears_37 : decode cX7_nears 37 = .ok (.iconst 0, 1) := by decide +kernel
theorem dX7_nears_38 : decode cX7_nears 38 = .ok (.ireturn, 1) := by decide +kernel
theorem dX7_nears_39 : decode cX7_nears 39 = .ok (.aload_n 0, 1) := by decide +kernel
theorem dX7_nears_40 : decode cX7_nears 40 = .ok (.getfield 59, 3) := by decide +kernel
theorem dX7_nears_43 : decode cX7_nears 43 = .ok (.iload_n 2, 1) := by decide +kernel
theorem dX7_nears_44 : decode cX7_nears 44 = .ok (.aload_n 0, 1) := by decide +kernel
theorem dX7_nears_45 : decode cX7_nears 45 = .ok (.getfield 59, 3) := by decide +kernel
theorem dX7_nears_48 : decode cX7_nears 48 = .ok (.iload_n 1, 1) := by decide +kernel
theorem dX7_nears_49 : decode cX7_nears 49 = .ok (.iaload, 1) := by decide +kernel
theorem dX7_nears_50 : decode cX7_nears 50 = .ok (.iconst 1, 1) := by decide +kernel
theorem dX7_nears_51 : decode cX7_nears 51 = .ok (.iadd, 1) := by decide +kernel
theorem dX7_nears_52 : decode cX7_nears 52 = .ok (.iastore, 1) := by decide +kernel
theorem dX7_nears_53 : decode cX7_nears 53 = .ok (.iconst 1, 1) := by decide +kernel
theorem dX7_nears_54 : decode cX7_nears 54 = .ok (.ireturn, 1) := by decide +kernel
def wz_X7_nears : List Cond := .code yX7_nears cX7_nears 3 (some .boolean) :: ([Cond.fieldLink RX7 59 "HedgeMazeModel" "far" "[I"] ++ wsX70)
theorem wd_X7_nears_0 : Cond.fieldLink RX7 59 "HedgeMazeModel" "far" "[I" ∈ wz_X7_nears := List.mem_of_getElem? (i := 1) rfl
theorem in_X7_nears_X7 : ∀ w ∈ wsX70, w ∈ wz_X7_nears := fun _ h => List.mem_cons_of_mem _ (List.mem_append_right _ h)
set_option maxHeartbeats 4000000 in
set_option maxRecDepth 100000 in
theorem c_X7_nears (l : Launch) (dC : Nat → ClassId) (dI : Nat → Nat → Nat) (sz : Nat) (mz : Nat) (mth : Int32) (mq1 : Nat) (mq2 : Nat) (mq3 : Nat) (mq4 : Nat) (mq5 : Nat) (mtd : Int32) (mat : Int32) (mtk : Int32) (mpl : Int32) (mva : Int32) (mwd : Int64) (mbd : Int32) (mbp : Int32) (mft : Int32) (mfp : Int32) (mq16 : Nat) (mq17 : Nat) (mq18 : Nat) (mq19 : Nat) (mq20 : Nat) (mq21 : Nat) (mlt : Int32) (mq23 : Nat) (mq24 : Nat) (mq25 : Nat) (msd : Int32) (mq27 : Nat) (mq28 : Nat) (mq29 : Nat) (mq30 : Nat) (mq31 : Nat) (mq32 : Nat) (mlr : Int32) (mst : Int32) (mob : Int64) (msb : Int64) (mq37 : Nat) (mln : Int32) (mk27 : ClassId) (mf27 : Nat → Int32) (p0 : Int32) (p1 : Int32) (h_p0 : 0 ≤ p0.toInt ∧ p0.toInt ≤ 24) (h_p1 : 0 ≤ p1.toInt ∧ p1.toInt ≤ 24) (hR_mq27 : FI mf27) : Met l yX7_nears wz_X7_nears ({ frames := 0, cells := 0, slots := 0, locals := 0 }) (va_Pc [.ref mz, .int p0, .int p1] (fun U => U.heap.size = sz ∧ va_P (dC, dI) vwCl [(mz, .inr (7, [.int mth, .ref mq1, .ref mq2, .ref mq3, .ref mq4, .ref mq5, .int mtd, .int mat, .int mtk, .int mpl, .int mva, .long mwd, .int mbd, .int mbp, .int mft, .int mfp, .ref mq16, .ref mq17, .ref mq18, .ref mq19, .ref mq20, .ref mq21, .int mlt, .ref mq23, .ref mq24, .ref mq25, .int msd, .ref mq27, .ref mq28, .ref mq29, .ref mq30, .ref mq31, .ref mq32, .int mlr, .int mst, .long mob, .long msb, .ref mq37, .int mln])), (mq27, .inl (mk27, 25, .inl mf27))] U.heap ∧ va_K (dC, dI) vwCl [(mk27, .int)] U ∧ va_D (fun _ => True) [(mz, .inr (7, [.int mth, .ref mq1, .ref mq2, .ref mq3, .ref mq4, .ref mq5, .int mtd, .int mat, .int mtk, .int mpl, .int mva, .long mwd, .int mbd, .int mbp, .int mft, .int mfp, .ref mq16, .ref mq17, .ref mq18, .ref mq19, .ref mq20, .ref mq21, .int mlt, .ref mq23, .ref mq24, .ref mq25, .int msd, .ref mq27, .ref mq28, .ref mq29, .ref mq30, .ref mq31, .ref mq32, .int mlr, .int mst, .long mob, .long msb, .ref mq37, .int mln])), (mq27, .inl (mk27, 25, .inl mf27))])) (va_Qi (fun (r : Int32) (u : (Nat → Int32)) => (NRp mf27 u p0.toNatClampNeg p1.toNatClampNeg r) ∧ (FI u)) (fun (u : (Nat → Int32)) (t : State) => va_P (dC, dI) vwCl [(mz, .inr (7, [.int mth, .ref mq1, .ref mq2, .ref mq3, .ref mq4, .ref mq5, .int mtd, .int mat, .int mtk, .int mpl, .int mva, .long mwd, .int mbd, .int mbp, .int mft, .int mfp, .ref mq16, .ref mq17, .ref mq18, .ref mq19, .ref mq20, .ref mq21, .int mlt, .ref mq23, .ref mq24, .ref mq25, .int msd, .ref mq27, .ref mq28, .ref mq29, .ref mq30, .ref mq31, .ref mq32, .int mlr, .int mst, .long mob, .long msb, .ref mq37, .int mln])), (mq27, .inl (mk27, 25, .inl u))] t.heap ∧ va_K (dC, dI) vwCl [] t ∧ va_D (va_A [(mz, .inr (7, [.int mth, .ref mq1, .ref mq2, .ref mq3, .ref mq4, .ref mq5, .int mtd, .int mat, .int mtk, .int mpl, .int mva, .long mwd, .int mbd, .int mbp, .int mft, .int mfp, .ref mq16, .ref mq17, .ref mq18, .ref mq19, .ref mq20, .ref mq21, .int mlt, .ref mq23, .ref mq24, .ref mq25, .int msd, .ref mq27, .ref mq28, .ref mq29, .ref mq30, .ref mq31, .ref mq32, .int mlr, .int mst, .long mob, .long msb, .ref mq37, .int mln])), (mq27, .inl (mk27, 25, .inl mf27))] sz) [(mz, .inr (7, [.int mth, .ref mq1, .ref mq2, .ref mq3, .ref mq4, .ref mq5, .int mtd, .int mat, .int mtk, .int mpl, .int mva, .long mwd, .int mbd, .int mbp, .int mft, .int mfp, .ref mq16, .ref mq17, .ref mq18, .ref mq19, .ref mq20, .ref mq21, .int mlt, .ref mq23, .ref mq24, .ref mq25, .int msd, .ref mq27, .ref mq28, .ref mq29, .ref mq30, .ref mq31, .ref mq32, .int mlr, .int mst, .long mob, .long msb, .ref mq37, .int mln])), (mq27, .inl (mk27, 25, .inl u))]) (va_A [(mz, .inr (7, [.int mth, .ref mq1, .ref mq2, .ref mq3, .ref mq4, .ref mq5, .int mtd, .int mat, .int mtk, .int mpl, .int mva, .long mwd, .int mbd, .int mbp, .int mft, .int mfp, .ref mq16, .ref mq17, .ref mq18, .ref mq19, .ref mq20, .ref mq21, .int mlt, .ref mq23, .ref mq24, .ref mq25, .int msd, .ref mq27, .ref mq28, .ref mq29, .ref mq30, .ref mq31, .ref mq32, .int mlr, .int mst, .long mob, .long msb, .ref mq37, .int mln])), (mq27, .inl (mk27, 25, .inl mf27))] sz)) 0 0 (va_A [(mz, .inr (7, [.int mth, .ref mq1, .ref mq2, .ref mq3, .ref mq4, .ref mq5, .int mtd, .int mat, .int mtk, .int mpl, .int mva, .long mwd, .int mbd, .int mbp, .int mft, .int mfp, .ref mq16, .ref mq17, .ref mq18, .ref mq19, .ref mq20, .ref mq21, .int mlt, .ref mq23, .ref mq24, .ref mq25, .int msd, .ref mq27, .ref mq28, .ref mq29, .ref mq30, .ref mq31, .ref mq32, .int mlr, .int mst, .long mob, .long msb, .ref mq37, .int mln])), (mq27, .inl (mk27, 25, .inl mf27))] sz) := by
  refine Met.ofW (cc := cX7_nears) (maxL := 3) (ret := (some .boolean)) (by decide) rfl ?_
  intro p e s m args below meth c s₁ B hml hv
  obtain ⟨rfl, hsz, hP, hK, hD0⟩ := hv
  have hx := B.exec
  have hb := B.bytes
  have hr := B.returns
  have hts := atoms_spec (ws := wz_X7_nears) B.pre
  have hown : s.vm.findClass RX7 = some m.cls := findClass_of_methodNamed B.named
  have hlocks := B.notSynchronized
  subst hsz
  have hD := hD0.self (sz := s.heap.size)
  generalize hAe : va_A [(mz, .inr (7, [.int mth, .ref mq1, .ref mq2, .ref mq3, .ref mq4, .ref mq5, .int mtd, .int mat, .int mtk, .int mpl, .int mva, .long mwd, .int mbd, .int mbp, .int mft, .int mfp, .ref mq16, .ref mq17, .ref mq18, .ref mq19, .ref mq20, .ref mq21, .int mlt, .ref mq23, .ref mq24, .ref mq25, .int msd, .ref mq27, .ref mq28, .ref mq29, .ref mq30, .ref mq31, .ref mq32, .int mlr, .int mst, .long mob, .long msb, .ref mq37, .int mln])), (mq27, .inl (mk27, 25, .inl mf27))] s.heap.size = A at hD ⊢
  have hA : ∀ q : Nat, s.heap.size ≤ q → A q := fun q h => by rw [← hAe]; exact Or.inr h
  have hS : va_S A s.heap s.heap [] := va_S.rf
  have hP : va_P (dC, dI) vwCl [(mz, .inr (7, [.int mth, .ref mq1, .ref mq2, .ref mq3, .ref mq4, .ref mq5, .int mtd, .int mat, .int mtk, .int mpl, .int mva, .long mwd, .int mbd, .int mbp, .int mft, .int mfp, .ref mq16, .ref mq17, .ref mq18, .ref mq19, .ref mq20, .ref mq21, .int mlt, .ref mq23, .ref mq24, .ref mq25, .int msd, .ref mq27, .ref mq28, .ref mq29, .ref mq30, .ref mq31, .ref mq32, .int mlr, .int mst, .long mob, .long msb, .ref mq37, .int mln])), (mq27, .inl (mk27, 25, .inl mf27))] s.heap := hP
  have hl := lv_entry ([.ref mz, .int p0, .int p1]) (n := 3) (Nat.le_of_ble_eq_true rfl)
  rw [lg_entry_eq]
  generalize (lg_sl ([.ref mz, .int p0, .int p1]) ++ List.replicate (3 - (lg_sl ([.ref mz, .int p0, .int p1])).length) Slot.unset).toArray = ls at hl ⊢
  have hl : lv_has ls 3 [(0, .ref mz), (1, .int p0), (2, .int p1)] := hl
  refine lv_aload_n hx hb dX7_nears_0 rfl (lv_at hl 0 rfl) ?_
  refine va_get (D := (dC, dI)) (ci := 7) (v := .ref mq27) (C := RX7) (T := TX7) (N := 39) hx hb hts in_X7_nears_X7 hown hK hP 0 rfl rfl 27 (by decide) (hts _ wd_X7_nears_0) (fun _ h9 => h9) rfl dX7_nears_1 ?_
  refine lv_iload_n hx hb dX7_nears_4 rfl (lv_at hl 1 rfl) ?_
  have hin_1 : vp_in p0 25 := (i_in rfl (by omega) (by omega))
  refine va_iald hx hb hK hP 1 0 rfl rfl hin_1 dX7_nears_5 ?_
  refine lv_topi (fun v_2 ev_2 => ?_)
  have kv_2 : v_2.toInt = (mf27 p0.toNatClampNeg).toInt := congrArg Int32.toInt ev_2
  have hv_2 := FI.at hR_mq27 hin_1 ev_2
  refine lv_iconst (v := -1) hx hb dX7_nears_6 (by decide) ?_
  refine lv_icmp_eq (tgt := 37) hx hb dX7_nears_7 (by decide) (fun c_3 => ?_) (fun c_3 => ?_)
  · have c_3 : v_2.toInt = (-1) := i_eq (a := v_2) (b := -1) rfl (by decide) c_3
    refine lv_iconst (v := 0) hx hb dX7_nears_37 (by decide) ?_
    have hP9 := hP.sub (ws' := [(mz, .inr (7, [.int mth, .ref mq1, .ref mq2, .ref mq3, .ref mq4, .ref mq5, .int mtd, .int mat, .int mtk, .int mpl, .int mva, .long mwd, .int mbd, .int mbp, .int mft, .int mfp, .ref mq16, .ref mq17, .ref mq18, .ref mq19, .ref mq20, .ref mq21, .int mlt, .ref mq23, .ref mq24, .ref mq25, .int msd, .ref mq27, .ref mq28, .ref mq29, .ref mq30, .ref mq31, .ref mq32, .int mlr, .int mst, .long mob, .long msb, .ref mq37, .int mln])), (mq27, .inl (mk27, 25, .inl mf27))]) [0, 1] rfl
    have hD9 := hD.sub (ws' := [(mz, .inr (7, [.int mth, .ref mq1, .ref mq2, .ref mq3, .ref mq4, .ref mq5, .int mtd, .int mat, .int mtk, .int mpl, .int mva, .long mwd, .int mbd, .int mbp, .int mft, .int mfp, .ref mq16, .ref mq17, .ref mq18, .ref mq19, .ref mq20, .ref mq21, .int mlt, .ref mq23, .ref mq24, .ref mq25, .int msd, .ref mq27, .ref mq28, .ref mq29, .ref mq30, .ref mq31, .ref mq32, .int mlr, .int mst, .long mob, .long msb, .ref mq37, .int mln])), (mq27, .inl (mk27, 25, .inl mf27))]) [0, 1] (by decide) rfl
    have hK9 := hK.sub (tys' := []) [] rfl
    refine W.widen (k := 0) (n := 0) (by omega) (by omega) ?_
    exact W.zret (v := 0) hx hb hr (by decide) (fun t ht hW => ⟨⟨0, (mf27), rfl, ⟨Or.inl ⟨rfl, rfl, if_neg (by omega)⟩, hR_mq27⟩, by rw [ht]; exact hP9, va_K.moved hW.alike hK9, hD9⟩, hS.F ht⟩) hS.2.2 dX7_nears_38
  · have c_3 : v_2.toInt ≠ (-1) := i_ne (a := v_2) (b := -1) rfl (by decide) c_3
    refine lv_aload_n hx hb dX7_nears_10 rfl (lv_at hl 0 rfl) ?_
    refine va_get (D := (dC, dI)) (ci := 7) (v := .ref mq27) (C := RX7) (T := TX7) (N := 39) hx hb hts in_X7_nears_X7 hown hK hP 0 rfl rfl 27 (by decide) (hts _ wd_X7_nears_0) (fun _ h9 => h9) rfl dX7_nears_11 ?_
    refine lv_iload_n hx hb dX7_nears_14 rfl (lv_at hl 2 rfl) ?_
    have hin_4 : vp_in p1 25 := (i_in rfl (by omega) (by omega))
    refine va_iald hx hb hK hP 1 0 rfl rfl hin_4 dX7_nears_15 ?_
    refine lv_topi (fun v_5 ev_5 => ?_)
    have kv_5 : v_5.toInt = (mf27 p1.toNatClampNeg).toInt := congrArg Int32.toInt ev_5
    have hv_5 := FI.at hR_mq27 hin_4 ev_5
    refine lv_iconst (v := -1) hx hb dX7_nears_16 (by decide) ?_
    refine lv_icmp_eq (tgt := 39) hx hb dX7_nears_17 (by decide) (fun c_6 => ?_) (fun c_6 => ?_)
    · have c_6 : v_5.toInt = (-1) := i_eq (a := v_5) (b := -1) rfl (by decide) c_6
      refine lv_aload_n hx hb dX7_nears_39 rfl (lv_at hl 0 rfl) ?_
      refine va_get (D := (dC, dI)) (ci := 7) (v := .ref mq27) (C := RX7) (T := TX7) (N := 39) hx hb hts in_X7_nears_X7 hown hK hP 0 rfl rfl 27 (by decide) (hts _ wd_X7_nears_0) (fun _ h9 => h9) rfl dX7_nears_40 ?_
      refine lv_iload_n hx hb dX7_nears_43 rfl (lv_at hl 2 rfl) ?_
      refine lv_aload_n hx hb dX7_nears_44 rfl (lv_at hl 0 rfl) ?_
      refine va_get (D := (dC, dI)) (ci := 7) (v := .ref mq27) (C := RX7) (T := TX7) (N := 39) hx hb hts in_X7_nears_X7 hown hK hP 0 rfl rfl 27 (by decide) (hts _ wd_X7_nears_0) (fun _ h9 => h9) rfl dX7_nears_45 ?_
      refine lv_iload_n hx hb dX7_nears_48 rfl (lv_at hl 1 rfl) ?_
      have hin_7 : vp_in p0 25 := (i_in rfl (by omega) (by omega))
      refine va_iald hx hb hK hP 1 0 rfl rfl hin_7 dX7_nears_49 ?_
      refine lv_topi (fun v_8 ev_8 => ?_)
      have kv_8 : v_8.toInt = (mf27 p0.toNatClampNeg).toInt := congrArg Int32.toInt ev_8
      have hv_8 := FI.at hR_mq27 hin_7 ev_8
      refine lv_iconst (v := 1) hx hb dX7_nears_50 (by decide) ?_
      refine lv_iadd hx hb dX7_nears_51 ?_
      refine lv_topi (fun x_9 ex_9 => ?_)
      have zx_9 : x_9.toInt = v_8.toInt + 1 := by rw [ex_9]; exact i_add rfl (by decide) (by omega) (by omega)
      refine va_iast hx hb hK hP hD hS 1 0 rfl rfl (i_in rfl (by omega) (by omega)) dX7_nears_52 (fun H locs hP hD hS => ?_)
      have hP : va_P (dC, dI) vwCl [(mz, .inr (7, [.int mth, .ref mq1, .ref mq2, .ref mq3, .ref mq4, .ref mq5, .int mtd, .int mat, .int mtk, .int mpl, .int mva, .long mwd, .int mbd, .int mbp, .int mft, .int mfp, .ref mq16, .ref mq17, .ref mq18, .ref mq19, .ref mq20, .ref mq21, .int mlt, .ref mq23, .ref mq24, .ref mq25, .int msd, .ref mq27, .ref mq28, .ref mq29, .ref mq30, .ref mq31, .ref mq32, .int mlr, .int mst, .long mob, .long msb, .ref mq37, .int mln])), (mq27, .inl (mk27, 25, .inl (upd mf27 p1.toNatClampNeg x_9)))] H := hP
      have hD : va_D A [(mz, .inr (7, [.int mth, .ref mq1, .ref mq2, .ref mq3, .ref mq4, .ref mq5, .int mtd, .int mat, .int mtk, .int mpl, .int mva, .long mwd, .int mbd, .int mbp, .int mft, .int mfp, .ref mq16, .ref mq17, .ref mq18, .ref mq19, .ref mq20, .ref mq21, .int mlt, .ref mq23, .ref mq24, .ref mq25, .int msd, .ref mq27, .ref mq28, .ref mq29, .ref mq30, .ref mq31, .ref mq32, .int mlr, .int mst, .long mob, .long msb, .ref mq37, .int mln])), (mq27, .inl (mk27, 25, .inl (upd mf27 p1.toNatClampNeg x_9)))] := hD
      obtain ⟨f_10, ef_10⟩ : ∃ g, g = upd mf27 p1.toNatClampNeg x_9 := ⟨_, rfl⟩
      rw [← ef_10] at hP hD
      have hq9 : f_10 = upd mf27 p1.toNatClampNeg (mf27 p0.toNatClampNeg + 1) := by rw [ef_10, ex_9, ev_8]
      have hfs := FI.set hR_mq27 (a := p0.toNatClampNeg) (b := p1.toNatClampNeg) (by rw [i_cn (k := p0) rfl]; omega) (by rw [i_cn (k := p1) rfl]; omega) (by omega) (by omega)
      have hNR : NRp mf27 f_10 p0.toNatClampNeg p1.toNatClampNeg 1 := Or.inr ⟨rfl, by rw [hq9]; exact (if_pos ⟨by omega, by omega⟩).symm, by rw [hq9]; exact hfs.2⟩
      have hFI9 : FI f_10 := by rw [hq9]; exact hfs.1
      refine lv_iconst (v := 1) hx hb dX7_nears_53 (by decide) ?_
      have hP9 := hP.sub (ws' := [(mz, .inr (7, [.int mth, .ref mq1, .ref mq2, .ref mq3, .ref mq4, .ref mq5, .int mtd, .int mat, .int mtk, .int mpl, .int mva, .long mwd, .int mbd, .int mbp, .int mft, .int mfp, .ref mq16, .ref mq17, .ref mq18, .ref mq19, .ref mq20, .ref mq21, .int mlt, .ref mq23, .ref mq24, .ref mq25, .int msd, .ref mq27, .ref mq28, .ref mq29, .ref mq30, .ref mq31, .ref mq32, .int mlr, .int mst, .long mob, .long msb, .ref mq37, .int mln])), (mq27, .inl (mk27, 25, .inl f_10))]) [0, 1] rfl
      have hD9 := hD.sub (ws' := [(mz, .inr (7, [.int mth, .ref mq1, .ref mq2, .ref mq3, .ref mq4, .ref mq5, .int mtd, .int mat, .int mtk, .int mpl, .int mva, .long mwd, .int mbd, .int mbp, .int mft, .int mfp, .ref mq16, .ref mq17, .ref mq18, .ref mq19, .ref mq20, .ref mq21, .int mlt, .ref mq23, .ref mq24, .ref mq25, .int msd, .ref mq27, .ref mq28, .ref mq29, .ref mq30, .ref mq31, .ref mq32, .int mlr, .int mst, .long mob, .long msb, .ref mq37, .int mln])), (mq27, .inl (mk27, 25, .inl f_10))]) [0, 1] (by decide) rfl
      have hK9 := hK.sub (tys' := []) [] rfl
      refine W.widen (k := 0) (n := 0) (by omega) (by omega) ?_
      exact W.zret (v := 1) hx hb hr (by decide) (fun t ht hW => ⟨⟨1, (f_10), rfl, ⟨hNR, hFI9⟩, by rw [ht]; exact hP9, va_K.moved hW.alike hK9, hD9⟩, hS.F ht⟩) hS.2.2 dX7_nears_54
    · have c_6 : v_5.toInt ≠ (-1) := i_ne (a := v_5) (b := -1) rfl (by decide) c_6
      refine lv_aload_n hx hb dX7_nears_20 rfl (lv_at hl 0 rfl) ?_
      refine va_get (D := (dC, dI)) (ci := 7) (v := .ref mq27) (C := RX7) (T := TX7) (N := 39) hx hb hts in_X7_nears_X7 hown hK hP 0 rfl rfl 27 (by decide) (hts _ wd_X7_nears_0) (fun _ h9 => h9) rfl dX7_nears_21 ?_
      refine lv_iload_n hx hb dX7_nears_24 rfl (lv_at hl 2 rfl) ?_
      have hin_11 : vp_in p1 25 := (i_in rfl (by omega) (by omega))
      refine va_iald hx hb hK hP 1 0 rfl rfl hin_11 dX7_nears_25 ?_
      refine lv_topi (fun v_12 ev_12 => ?_)
      have kv_12 : v_12.toInt = (mf27 p1.toNatClampNeg).toInt := congrArg Int32.toInt ev_12
      have hv_12 := FI.at hR_mq27 hin_11 ev_12
      refine lv_aload_n hx hb dX7_nears_26 rfl (lv_at hl 0 rfl) ?_
      refine va_get (D := (dC, dI)) (ci := 7) (v := .ref mq27) (C := RX7) (T := TX7) (N := 39) hx hb hts in_X7_nears_X7 hown hK hP 0 rfl rfl 27 (by decide) (hts _ wd_X7_nears_0) (fun _ h9 => h9) rfl dX7_nears_27 ?_
      refine lv_iload_n hx hb dX7_nears_30 rfl (lv_at hl 1 rfl) ?_
      have hin_13 : vp_in p0 25 := (i_in rfl (by omega) (by omega))
      refine va_iald hx hb hK hP 1 0 rfl rfl hin_13 dX7_nears_31 ?_
      refine lv_topi (fun v_14 ev_14 => ?_)
      have kv_14 : v_14.toInt = (mf27 p0.toNatClampNeg).toInt := congrArg Int32.toInt ev_14
      have hv_14 := FI.at hR_mq27 hin_13 ev_14
      refine lv_iconst (v := 1) hx hb dX7_nears_32 (by decide) ?_
      refine lv_iadd hx hb dX7_nears_33 ?_
      refine lv_topi (fun x_15 ex_15 => ?_)
      have zx_15 : x_15.toInt = v_14.toInt + 1 := by rw [ex_15]; exact i_add rfl (by decide) (by omega) (by omega)
      refine lv_icmp_gt (tgt := 39) hx hb dX7_nears_34 (by decide) (fun c_16 => ?_) (fun c_16 => ?_)
      · have c_16 : x_15.toInt < v_12.toInt := i_lt (a := x_15) (b := v_12) rfl rfl c_16
        refine lv_aload_n hx hb dX7_nears_39 rfl (lv_at hl 0 rfl) ?_
        refine va_get (D := (dC, dI)) (ci := 7) (v := .ref mq27) (C := RX7) (T := TX7) (N := 39) hx hb hts in_X7_nears_X7 hown hK hP 0 rfl rfl 27 (by decide) (hts _ wd_X7_nears_0) (fun _ h9 => h9) rfl dX7_nears_40 ?_
        refine lv_iload_n hx hb dX7_nears_43 rfl (lv_at hl 2 rfl) ?_
        refine lv_aload_n hx hb dX7_nears_44 rfl (lv_at hl 0 rfl) ?_
        refine va_get (D := (dC, dI)) (ci := 7) (v := .ref mq27) (C := RX7) (T := TX7) (N := 39) hx hb hts in_X7_nears_X7 hown hK hP 0 rfl rfl 27 (by decide) (hts _ wd_X7_nears_0) (fun _ h9 => h9) rfl dX7_nears_45 ?_
        refine lv_iload_n hx hb dX7_nears_48 rfl (lv_at hl 1 rfl) ?_
        have hin_17 : vp_in p0 25 := (i_in rfl (by omega) (by omega))
        refine va_iald hx hb hK hP 1 0 rfl rfl hin_17 dX7_nears_49 ?_
        refine lv_topi (fun v_18 ev_18 => ?_)
        have kv_18 : v_18.toInt = (mf27 p0.toNatClampNeg).toInt := congrArg Int32.toInt ev_18
        have hv_18 := FI.at hR_mq27 hin_17 ev_18
        refine lv_iconst (v := 1) hx hb dX7_nears_50 (by decide) ?_
        refine lv_iadd hx hb dX7_nears_51 ?_
        refine lv_topi (fun x_19 ex_19 => ?_)
        have zx_19 : x_19.toInt = v_18.toInt + 1 := by rw [ex_19]; exact i_add rfl (by decide) (by omega) (by omega)
        refine va_iast hx hb hK hP hD hS 1 0 rfl rfl (i_in rfl (by omega) (by omega)) dX7_nears_52 (fun H locs hP hD hS => ?_)
        have hP : va_P (dC, dI) vwCl [(mz, .inr (7, [.int mth, .ref mq1, .ref mq2, .ref mq3, .ref mq4, .ref mq5, .int mtd, .int mat, .int mtk, .int mpl, .int mva, .long mwd, .int mbd, .int mbp, .int mft, .int mfp, .ref mq16, .ref mq17, .ref mq18, .ref mq19, .ref mq20, .ref mq21, .int mlt, .ref mq23, .ref mq24, .ref mq25, .int msd, .ref mq27, .ref mq28, .ref mq29, .ref mq30, .ref mq31, .ref mq32, .int mlr, .int mst, .long mob, .long msb, .ref mq37, .int mln])), (mq27, .inl (mk27, 25, .inl (upd mf27 p1.toNatClampNeg x_19)))] H := hP
        have hD : va_D A [(mz, .inr (7, [.int mth, .ref mq1, .ref mq2, .ref mq3, .ref mq4, .ref mq5, .int mtd, .int mat, .int mtk, .int mpl, .int mva, .long mwd, .int mbd, .int mbp, .int mft, .int mfp, .ref mq16, .ref mq17, .ref mq18, .ref mq19, .ref mq20, .ref mq21, .int mlt, .ref mq23, .ref mq24, .ref mq25, .int msd, .ref mq27, .ref mq28, .ref mq29, .ref mq30, .ref mq31, .ref mq32, .int mlr, .int mst, .long mob, .long msb, .ref mq37, .int mln])), (mq27, .inl (mk27, 25, .inl (upd mf27 p1.toNatClampNeg x_19)))] := hD
        obtain ⟨f_20, ef_20⟩ : ∃ g, g = upd mf27 p1.toNatClampNeg x_19 := ⟨_, rfl⟩
        rw [← ef_20] at hP hD
        have hq9 : f_20 = upd mf27 p1.toNatClampNeg (mf27 p0.toNatClampNeg + 1) := by rw [ef_20, ex_19, ev_18]
        have hfs := FI.set hR_mq27 (a := p0.toNatClampNeg) (b := p1.toNatClampNeg) (by rw [i_cn (k := p0) rfl]; omega) (by rw [i_cn (k := p1) rfl]; omega) (by omega) (by omega)
        have hNR : NRp mf27 f_20 p0.toNatClampNeg p1.toNatClampNeg 1 := Or.inr ⟨rfl, by rw [hq9]; exact (if_pos ⟨by omega, by omega⟩).symm, by rw [hq9]; exact hfs.2⟩
        have hFI9 : FI f_20 := by rw [hq9]; exact hfs.1
        refine lv_iconst (v := 1) hx hb dX7_nears_53 (by decide) ?_
        have hP9 := hP.sub (ws' := [(mz, .inr (7, [.int mth, .ref mq1, .ref mq2, .ref mq3, .ref mq4, .ref mq5, .int mtd, .int mat, .int mtk, .int mpl, .int mva, .long mwd, .int mbd, .int mbp, .int mft, .int mfp, .ref mq16, .ref mq17, .ref mq18, .ref mq19, .ref mq20, .ref mq21, .int mlt, .ref mq23, .ref mq24, .ref mq25, .int msd, .ref mq27, .ref mq28, .ref mq29, .ref mq30, .ref mq31, .ref mq32, .int mlr, .int mst, .long mob, .long msb, .ref mq37, .int mln])), (mq27, .inl (mk27, 25, .inl f_20))]) [0, 1] rfl
        have hD9 := hD.sub (ws' := [(mz, .inr (7, [.int mth, .ref mq1, .ref mq2, .ref mq3, .ref mq4, .ref mq5, .int mtd, .int mat, .int mtk, .int mpl, .int mva, .long mwd, .int mbd, .int mbp, .int mft, .int mfp, .ref mq16, .ref mq17, .ref mq18, .ref mq19, .ref mq20, .ref mq21, .int mlt, .ref mq23, .ref mq24, .ref mq25, .int msd, .ref mq27, .ref mq28, .ref mq29, .ref mq30, .ref mq31, .ref mq32, .int mlr, .int mst, .long mob, .long msb, .ref mq37, .int mln])), (mq27, .inl (mk27, 25, .inl f_20))]) [0, 1] (by decide) rfl
        have hK9 := hK.sub (tys' := []) [] rfl
        refine W.widen (k := 0) (n := 0) (by omega) (by omega) ?_
        exact W.zret (v := 1) hx hb hr (by decide) (fun t ht hW => ⟨⟨1, (f_20), rfl, ⟨hNR, hFI9⟩, by rw [ht]; exact hP9, va_K.moved hW.alike hK9, hD9⟩, hS.F ht⟩) hS.2.2 dX7_nears_54
      · have c_16 : v_12.toInt ≤ x_15.toInt := i_nlt (a := x_15) (b := v_12) rfl rfl c_16
        refine lv_iconst (v := 0) hx hb dX7_nears_37 (by decide) ?_
        have hP9 := hP.sub (ws' := [(mz, .inr (7, [.int mth, .ref mq1, .ref mq2, .ref mq3, .ref mq4, .ref mq5, .int mtd, .int mat, .int mtk, .int mpl, .int mva, .long mwd, .int mbd, .int mbp, .int mft, .int mfp, .ref mq16, .ref mq17, .ref mq18, .ref mq19, .ref mq20, .ref mq21, .int mlt, .ref mq23, .ref mq24, .ref mq25, .int msd, .ref mq27, .ref mq28, .ref mq29, .ref mq30, .ref mq31, .ref mq32, .int mlr, .int mst, .long mob, .long msb, .ref mq37, .int mln])), (mq27, .inl (mk27, 25, .inl mf27))]) [0, 1] rfl
        have hD9 := hD.sub (ws' := [(mz, .inr (7, [.int mth, .ref mq1, .ref mq2, .ref mq3, .ref mq4, .ref mq5, .int mtd, .int mat, .int mtk, .int mpl, .int mva, .long mwd, .int mbd, .int mbp, .int mft, .int mfp, .ref mq16, .ref mq17, .ref mq18, .ref mq19, .ref mq20, .ref mq21, .int mlt, .ref mq23, .ref mq24, .ref mq25, .int msd, .ref mq27, .ref mq28, .ref mq29, .ref mq30, .ref mq31, .ref mq32, .int mlr, .int mst, .long mob, .long msb, .ref mq37, .int mln])), (mq27, .inl (mk27, 25, .inl mf27))]) [0, 1] (by decide) rfl
        have hK9 := hK.sub (tys' := []) [] rfl
        refine W.widen (k := 0) (n := 0) (by omega) (by omega) ?_
        exact W.zret (v := 0) hx hb hr (by decide) (fun t ht hW => ⟨⟨0, (mf27), rfl, ⟨Or.inl ⟨rfl, rfl, if_neg (by omega)⟩, hR_mq27⟩, by rw [ht]; exact hP9, va_K.moved hW.alike hK9, hD9⟩, hS.F ht⟩) hS.2.2 dX7_nears_38

theorem dX7_spreads_0 : decode cX7_spreads 0 = .ok (.iconst 1, 1) := by decide +kernel
theorem dX7_spreads_1 : decode cX7_spreads 1 = .ok (.istore_n 2, 1) := by decide +kernel
theorem dX7_spreads_2 : decode cX7_spreads 2 = .ok (.iload_n 2, 1) := by decide +kernel
theorem dX7_spreads_3 : decode cX7_spreads 3 = .ok (.ifCond .eq 99, 3) := by decide +kernel
theorem dX7_spreads_6 : decode cX7_spreads 6 = .ok (.iconst 0, 1) := by decide +kernel
theorem dX7_spreads_7 : decode cX7_spreads 7 = .ok (.istore_n 2, 1) := by decide +kernel
theorem dX7_spreads_8 : decode cX7_spreads 8 = .ok (.iconst 0, 1) := by decide +kernel
theorem dX7_spreads_9 : decode cX7_spreads 9 = .ok (.istore_n 3, 1) := by decide +kernel
theorem dX7_spreads_10 : decode cX7_spreads 10 = .ok (.iload_n 3, 1) := by decide +kernel
theorem dX7_spreads_11 : decode cX7_spreads 11 = .ok (.aload_n 0, 1) := by decide +kernel
theorem dX7_spreads_12 : decode cX7_spreads 12 = .ok (.getfield 162, 3) := by decide +kernel
theorem dX7_spreads_15 : decode cX7_spreads 15 = .ok (.if_icmp .ge 84, 3) := by decide +kernel
theorem dX7_spreads_18 : decode cX7_spreads 18 = .ok (.aload_n 0, 1) := by decide +kernel
theorem dX7_spreads_19 : decode cX7_spreads 19 = .ok (.getfield 37, 3) := by decide +kernel
theorem dX7_spreads_22 : decode cX7_spreads 22 = .ok (.bipush 40, 2) := by decide +kernel
theorem dX7_spreads_24 : decode cX7_spreads 24 = .ok (.iload_n 1, 1) := by decide +kernel
theorem dX7_spreads_25 : decode cX7_spreads 25 = .ok (.imul, 1) := by decide +kernel
theorem dX7_spreads_26 : decode cX7_spreads 26 = .ok (.iload_n 3, 1) := by decide +kernel
theorem dX7_spreads_27 : decode cX7_spreads 27 = .ok (.iadd, 1) := by decide +kernel
theorem dX7_spreads_28 : decode cX7_spreads 28 = .ok (.iaload, 1) := by decide +kernel
theorem dX7_spreads_29 : decode cX7_spreads 29 = .ok (.ifCond .eq 6, 3) := by decide +kernel
theorem dX7_spreads_32 : decode cX7_spreads 32 = .ok (.goto 61, 3) := by decide +kernel
theorem dX7_spreads_35 : decode cX7_spreads 35 = .ok (.aload_n 0, 1) := by decide +kernel
theorem dX7_spreads_36 : decode cX7_spreads 36 = .ok (.aload_n 0, 1) := by decide +kernel
theorem dX7_spreads_37 : decode cX7_spreads 37 = .ok (.getfield 53, 3) := by decide +kernel
theorem dX7_spreads_40 : decode cX7_spreads 40 = .ok (.iload_n 3, 1) := by decide +kernel
theorem dX7_spreads_41 : decode cX7_spreads 41 = .ok (.iaload, 1) := by decide +kernel
theorem dX7_spreads_42 : decode cX7_spreads 42 = .ok (.aload_n 0, 1) := by decide +kernel
theorem dX7_spreads_43 : decode cX7_spreads 43 = .ok (.getfield 56, 3) := by decide +kernel
theorem dX7_spreads_46 : decode cX7_spreads 46 = .ok (.iload_n 3, 1) := by decide +kernel
theorem dX7_spreads_47 : decode cX7_spreads 47 = .ok (.iaload, 1) := by decide +kernel
theorem dX7_spreads_48 : decode cX7_spreads 48 = .ok (.invokevirtual 269, 3) := by decide +kernel
theorem dX7_spreads_51 : decode cX7_spreads 51 = .ok (.ifCond .ne 7, 3) := by decide +kernel
theorem dX7_spreads_54 : decode cX7_spreads 54 = .ok (.iload_n 2, 1) := by decide +kernel
theorem dX7_spreads_55 : decode cX7_spreads 55 = .ok (.ifCond .eq 7, 3) := by decide +kernel
theorem dX7_spreads_58 : decode cX7_spreads 58 = .ok (.iconst 1, 1) := by decide +kernel
theorem dX7_spreads_59 : decode cX7_spreads 59 = .ok (.goto 4, 3) := by decide +kernel
theorem dX7_spreads_62 : decode cX7_spreads 62 = .ok (.iconst 0, 1) := by decide +kernel
theorem dX7_spreads_63 : decode cX7_spreads 63 = .ok (.istore_n 2, 1) := by decide +kernel
theorem dX7_spreads_64 : decode cX7_spreads 64 = .ok (.aload_n 0, 1) := by decide +kernel
theorem dX7_spreads_65 : decode cX7_spreads 65 = .ok (.aload_n 0, 1) := by decide +kernel
theorem dX7_spreads_66 : decode cX7_spreads 66 = .ok (.getfield 56, 3) := by decide +kernel
theorem dX7_spreads_69 : decode cX7_spreads 69 = .ok (.iload_n 3, 1) := by decide +kernel
theorem dX7_spreads_70 : decode cX7_spreads 70 = .ok (.iaload, 1) := by decide +kernel
theorem dX7_spreads_71 : decode cX7_spreads 71 = .ok (.aload_n 0, 1) := by decide +kernel
theorem dX7_spreads_72 : decode cX7_spreads 72 = .ok (.getfield 53, 3) := by decide +kernel
theorem dX7_spreads_75 : decode cX7_spreads 75 = .ok (.iload_n 3, 1) := by decide +kernel
theorem dX7_spreads_76 : decode cX7_spreads 76 = .ok (.iaload, 1) := by decide +kernel
theorem dX7_spreads_77 : decode cX7_spreads 77 = .ok (.invokevirtual 269, 3) := by decide +kernel
theorem dX7_spreads_80 : decode cX7_spreads 80 = .ok (.ifCond .ne 7, 3) := by decide +kernel
theorem dX7_spreads_83 : decode cX7_spreads 83 = .ok (.iload_n 2, 1) := by decide +kernel
theorem dX7_spreads_84 : decode cX7_spreads 84 = .ok (.ifCond .eq 7, 3) := by decide +kernel
theorem dX7_spreads_87 : decode cX7_spreads 87 = .ok (.iconst 1, 1) := by decide +kernel
theorem dX7_spreads_88 : decode cX7_spreads 88 = .ok (.goto 4, 3) := by decide +kernel
theorem dX7_spreads_91 : decode cX7_spreads 91 = .ok (.iconst 0, 1) := by decide +kernel
theorem dX7_spreads_92 : decode cX7_spreads 92 = .ok (.istore_n 2, 1) := by decide +kernel
theorem dX7_spreads_93 : decode cX7_spreads 93 = .ok (.iinc 3 1, 3) := by decide +kernel
theorem dX7_spreads_96 : decode cX7_spreads 96 = .ok (.goto (-86), 3) := by decide +kernel
theorem dX7_spreads_99 : decode cX7_spreads 99 = .ok (.goto (-97), 3) := by decide +kernel
theorem dX7_spreads_102 : decode cX7_spreads 102 = .ok (.return_, 1) := by decide +kernel
def wz_X7_spreads_0 : List Cond := .code yX7_spreads cX7_spreads 4 none :: ([Cond.fieldLink RX7 162 "HedgeMazeModel" "sides" "I", Cond.fieldLink RX7 37 "HedgeMazeModel" "state" "[I", Cond.fieldLink RX7 53 "HedgeMazeModel" "first" "[I", Cond.fieldLink RX7 56 "HedgeMazeModel" "second" "[I", Cond.methodLink RX7 269 yX7_nears, Cond.instanceMethod yX7_nears, Cond.selects RX7 yX7_nears yX7_nears, Cond.initialized RX7, Cond.code yX7_nears cX7_nears 3 (some .boolean), Cond.fieldLink RX7 59 "HedgeMazeModel" "far" "[I"] ++ wsX70)
theorem wd_X7_spreads_0_0 : Cond.fieldLink RX7 162 "HedgeMazeModel" "sides" "I" ∈ wz_X7_spreads_0 := List.mem_of_getElem? (i := 1) rfl
theorem wd_X7_spreads_0_1 : Cond.fieldLink RX7 37 "HedgeMazeModel" "state" "[I" ∈ wz_X7_spreads_0 := List.mem_of_getElem? (i := 2) rfl
theorem wd_X7_spreads_0_2 : Cond.fieldLink RX7 53 "HedgeMazeModel" "first" "[I" ∈ wz_X7_spreads_0 := List.mem_of_getElem? (i := 3) rfl
theorem wd_X7_spreads_0_3 : Cond.fieldLink RX7 56 "HedgeMazeModel" "second" "[I" ∈ wz_X7_spreads_0 := List.mem_of_getElem? (i := 4) rfl
theorem in_X7_spreads_0_X7 : ∀ w ∈ wsX70, w ∈ wz_X7_spreads_0 := fun _ h => List.mem_cons_of_mem _ (List.mem_append_right _ h)
set_option maxRecDepth 20000 in
theorem g_X7_spreads_0_X7_nears : GoodIn wz_X7_spreads_0 (wsV RX7 269 RX7 yX7_nears wz_X7_nears) := goodIn_r _ [5, 6, 7, 8, 9, 10, 11, 12, 13, 14, 15, 16, 17, 18, 19, 20, 21, 22, 23, 24, 25, 26, 27, 28, 29, 30, 31, 32, 33, 34, 35, 36, 37, 38, 39, 40, 41, 42, 43, 44, 45, 46, 47, 48, 49] rfl (by decide +kernel)
set_option maxHeartbeats 4000000 in
set_option maxRecDepth 100000 in
theorem c_X7_spreads_0 (l : Launch) (dC : Nat → ClassId) (dI : Nat → Nat → Nat) (sz : Nat) (mz : Nat) (mth : Int32) (mq1 : Nat) (mq2 : Nat) (mq3 : Nat) (mq4 : Nat) (mq5 : Nat) (mtd : Int32) (mat : Int32) (mtk : Int32) (mpl : Int32) (mva : Int32) (mwd : Int64) (mbd : Int32) (mbp : Int32) (mft : Int32) (mfp : Int32) (mq16 : Nat) (mq17 : Nat) (mq18 : Nat) (mq19 : Nat) (mq20 : Nat) (mq21 : Nat) (mlt : Int32) (mq23 : Nat) (mq24 : Nat) (mq25 : Nat) (msd : Int32) (mq27 : Nat) (mq28 : Nat) (mq29 : Nat) (mq30 : Nat) (mq31 : Nat) (mq32 : Nat) (mlr : Int32) (mst : Int32) (mob : Int64) (msb : Int64) (mq37 : Nat) (mln : Int32) (mk18 : ClassId) (mf18 : Nat → Int32) (mk24 : ClassId) (mf24 : Nat → Int32) (mk25 : ClassId) (mf25 : Nat → Int32) (mk27 : ClassId) (mf27 : Nat → Int32) (h_sd : 0 ≤ msd.toInt ∧ msd.toInt ≤ 40) (hR_mq24 : RG mf24 40 0 24) (hR_mq25 : RG mf25 40 0 24) (hR_mq27 : FI mf27) : Met l yX7_spreads wz_X7_spreads_0 ({ frames := 1, cells := 0, slots := 0, locals := 22 }) (va_Pc [.ref mz, .int 0] (fun U => U.heap.size = sz ∧ va_P (dC, dI) vwCl [(mz, .inr (7, [.int mth, .ref mq1, .ref mq2, .ref mq3, .ref mq4, .ref mq5, .int mtd, .int mat, .int mtk, .int mpl, .int mva, .long mwd, .int mbd, .int mbp, .int mft, .int mfp, .ref mq16, .ref mq17, .ref mq18, .ref mq19, .ref mq20, .ref mq21, .int mlt, .ref mq23, .ref mq24, .ref mq25, .int msd, .ref mq27, .ref mq28, .ref mq29, .ref mq30, .ref mq31, .ref mq32, .int mlr, .int mst, .long mob, .long msb, .ref mq37, .int mln])), (mq18, .inl (mk18, 200, .inl mf18)), (mq24, .inl (mk24, 40, .inl mf24)), (mq25, .inl (mk25, 40, .inl mf25)), (mq27, .inl (mk27, 25, .inl mf27))] U.heap ∧ va_K (dC, dI) vwCl [(mk18, .int), (mk24, .int), (mk25, .int), (mk27, .int)] U ∧ va_D (fun _ => True) [(mz, .inr (7, [.int mth, .ref mq1, .ref mq2, .ref mq3, .ref mq4, .ref mq5, .int mtd, .int mat, .int mtk, .int mpl, .int mva, .long mwd, .int mbd, .int mbp, .int mft, .int mfp, .ref mq16, .ref mq17, .ref mq18, .ref mq19, .ref mq20, .ref mq21, .int mlt, .ref mq23, .ref mq24, .ref mq25, .int msd, .ref mq27, .ref mq28, .ref mq29, .ref mq30, .ref mq31, .ref mq32, .int mlr, .int mst, .long mob, .long msb, .ref mq37, .int mln])), (mq18, .inl (mk18, 200, .inl mf18)), (mq24, .inl (mk24, 40, .inl mf24)), (mq25, .inl (mk25, 40, .inl mf25)), (mq27, .inl (mk27, 25, .inl mf27))])) (va_Qv (fun (u : (Nat → Int32)) => (SPD (ps mf18 mf24 mf25 0 msd.toNatClampNeg) mf27 u) ∧ (FI u)) (fun (u : (Nat → Int32)) (t : State) => va_P (dC, dI) vwCl [(mz, .inr (7, [.int mth, .ref mq1, .ref mq2, .ref mq3, .ref mq4, .ref mq5, .int mtd, .int mat, .int mtk, .int mpl, .int mva, .long mwd, .int mbd, .int mbp, .int mft, .int mfp, .ref mq16, .ref mq17, .ref mq18, .ref mq19, .ref mq20, .ref mq21, .int mlt, .ref mq23, .ref mq24, .ref mq25, .int msd, .ref mq27, .ref mq28, .ref mq29, .ref mq30, .ref mq31, .ref mq32, .int mlr, .int mst, .long mob, .long msb, .ref mq37, .int mln])), (mq18, .inl (mk18, 200, .inl mf18)), (mq24, .inl (mk24, 40, .inl mf24)), (mq25, .inl (mk25, 40, .inl mf25)), (mq27, .inl (mk27, 25, .inl u))] t.heap ∧ va_K (dC, dI) vwCl [] t ∧ va_D (va_A [(mz, .inr (7, [.int mth, .ref mq1, .ref mq2, .ref mq3, .ref mq4, .ref mq5, .int mtd, .int mat, .int mtk, .int mpl, .int mva, .long mwd, .int mbd, .int mbp, .int mft, .int mfp, .ref mq16, .ref mq17, .ref mq18, .ref mq19, .ref mq20, .ref mq21, .int mlt, .ref mq23, .ref mq24, .ref mq25, .int msd, .ref mq27, .ref mq28, .ref mq29, .ref mq30, .ref mq31, .ref mq32, .int mlr, .int mst, .long mob, .long msb, .ref mq37, .int mln])), (mq18, .inl (mk18, 200, .inl mf18)), (mq24, .inl (mk24, 40, .inl mf24)), (mq25, .inl (mk25, 40, .inl mf25)), (mq27, .inl (mk27, 25, .inl mf27))] sz) [(mz, .inr (7, [.int mth, .ref mq1, .ref mq2, .ref mq3, .ref mq4, .ref mq5, .int mtd, .int mat, .int mtk, .int mpl, .int mva, .long mwd, .int mbd, .int mbp, .int mft, .int mfp, .ref mq16, .ref mq17, .ref mq18, .ref mq19, .ref mq20, .ref mq21, .int mlt, .ref mq23, .ref mq24, .ref mq25, .int msd, .ref mq27, .ref mq28, .ref mq29, .ref mq30, .ref mq31, .ref mq32, .int mlr, .int mst, .long mob, .long msb, .ref mq37, .int mln])), (mq18, .inl (mk18, 200, .inl mf18)), (mq24, .inl (mk24, 40, .inl mf24)), (mq25, .inl (mk25, 40, .inl mf25)), (mq27, .inl (mk27, 25, .inl u))]) (va_A [(mz, .inr (7, [.int mth, .ref mq1, .ref mq2, .ref mq3, .ref mq4, .ref mq5, .int mtd, .int mat, .int mtk, .int mpl, .int mva, .long mwd, .int mbd, .int mbp, .int mft, .int mfp, .ref mq16, .ref mq17, .ref mq18, .ref mq19, .ref mq20, .ref mq21, .int mlt, .ref mq23, .ref mq24, .ref mq25, .int msd, .ref mq27, .ref mq28, .ref mq29, .ref mq30, .ref mq31, .ref mq32, .int mlr, .int mst, .long mob, .long msb, .ref mq37, .int mln])), (mq18, .inl (mk18, 200, .inl mf18)), (mq24, .inl (mk24, 40, .inl mf24)), (mq25, .inl (mk25, 40, .inl mf25)), (mq27, .inl (mk27, 25, .inl mf27))] sz)) 0 0 (va_A [(mz, .inr (7, [.int mth, .ref mq1, .ref mq2, .ref mq3, .ref mq4, .ref mq5, .int mtd, .int mat, .int mtk, .int mpl, .int mva, .long mwd, .int mbd, .int mbp, .int mft, .int mfp, .ref mq16, .ref mq17, .ref mq18, .ref mq19, .ref mq20, .ref mq21, .int mlt, .ref mq23, .ref mq24, .ref mq25, .int msd, .ref mq27, .ref mq28, .ref mq29, .ref mq30, .ref mq31, .ref mq32, .int mlr, .int mst, .long mob, .long msb, .ref mq37, .int mln])), (mq18, .inl (mk18, 200, .inl mf18)), (mq24, .inl (mk24, 40, .inl mf24)), (mq25, .inl (mk25, 40, .inl mf25)), (mq27, .inl (mk27, 25, .inl mf27))] sz) := by
  refine Met.ofW (cc := cX7_spreads) (maxL := 4) (ret := none) (by decide) rfl ?_
  intro p e s m args below meth c s₁ B hml hv
  obtain ⟨rfl, hsz, hP, hK, hD0⟩ := hv
  have hx := B.exec
  have hb := B.bytes
  have hr := B.returns
  have hts := atoms_spec (ws := wz_X7_spreads_0) B.pre
  have hown : s.vm.findClass RX7 = some m.cls := findClass_of_methodNamed B.named
  have hlocks := B.notSynchronized
  subst hsz
  have hD := hD0.self (sz := s.heap.size)
  generalize hAe : va_A [(mz, .inr (7, [.int mth, .ref mq1, .ref mq2, .ref mq3, .ref mq4, .ref mq5, .int mtd, .int mat, .int mtk, .int mpl, .int mva, .long mwd, .int mbd, .int mbp, .int mft, .int mfp, .ref mq16, .ref mq17, .ref mq18, .ref mq19, .ref mq20, .ref mq21, .int mlt, .ref mq23, .ref mq24, .ref mq25, .int msd, .ref mq27, .ref mq28, .ref mq29, .ref mq30, .ref mq31, .ref mq32, .int mlr, .int mst, .long mob, .long msb, .ref mq37, .int mln])), (mq18, .inl (mk18, 200, .inl mf18)), (mq24, .inl (mk24, 40, .inl mf24)), (mq25, .inl (mk25, 40, .inl mf25)), (mq27, .inl (mk27, 25, .inl mf27))] s.heap.size = A at hD ⊢
  have hA : ∀ q : Nat, s.heap.size ≤ q → A q := fun q h => by rw [← hAe]; exact Or.inr h
  have hS : va_S A s.heap s.heap [] := va_S.rf
  have hP : va_P (dC, dI) vwCl [(mz, .inr (7, [.int mth, .ref mq1, .ref mq2, .ref mq3, .ref mq4, .ref mq5, .int mtd, .int mat, .int mtk, .int mpl, .int mva, .long mwd, .int mbd, .int mbp, .int mft, .int mfp, .ref mq16, .ref mq17, .ref mq18, .ref mq19, .ref mq20, .ref mq21, .int mlt, .ref mq23, .ref mq24, .ref mq25, .int msd, .ref mq27, .ref mq28, .ref mq29, .ref mq30, .ref mq31, .ref mq32, .int mlr, .int mst, .long mob, .long msb, .ref mq37, .int mln])), (mq18, .inl (mk18, 200, .inl mf18)), (mq24, .inl (mk24, 40, .inl mf24)), (mq25, .inl (mk25, 40, .inl mf25)), (mq27, .inl (mk27, 25, .inl mf27))] s.heap := hP
  have hl := lv_entry ([.ref mz, .int 0]) (n := 4) (Nat.le_of_ble_eq_true rfl)
  rw [lg_entry_eq]
  generalize (lg_sl ([.ref mz, .int 0]) ++ List.replicate (4 - (lg_sl ([.ref mz, .int 0])).length) Slot.unset).toArray = ls at hl ⊢
  have hl : lv_has ls 4 [(0, .ref mz), (1, .int 0)] := hl
  refine lv_iconst (v := 1) hx hb dX7_spreads_0 (by decide) ?_
  refine lv_istore_n (lv' := [(2, .int 1), (0, .ref mz), (1, .int 0)]) hx hb dX7_spreads_1 rfl hl (by decide) rfl (fun ls hl => ?_)
  refine lp_W (I := fun (a : Int32 × (Nat → Int32)) H locs ls => (0 ≤ a.1.toInt ∧ a.1.toInt ≤ 1) ∧ (∃ j, a.2 = it (ps mf18 mf24 mf25 0 msd.toNatClampNeg) j mf27) ∧ (a.1.toInt = 0 → ps mf18 mf24 mf25 0 msd.toNatClampNeg a.2 = a.2) ∧ (FI a.2) ∧ va_P (dC, dI) vwCl [(mz, .inr (7, [.int mth, .ref mq1, .ref mq2, .ref mq3, .ref mq4, .ref mq5, .int mtd, .int mat, .int mtk, .int mpl, .int mva, .long mwd, .int mbd, .int mbp, .int mft, .int mfp, .ref mq16, .ref mq17, .ref mq18, .ref mq19, .ref mq20, .ref mq21, .int mlt, .ref mq23, .ref mq24, .ref mq25, .int msd, .ref mq27, .ref mq28, .ref mq29, .ref mq30, .ref mq31, .ref mq32, .int mlr, .int mst, .long mob, .long msb, .ref mq37, .int mln])), (mq18, .inl (mk18, 200, .inl mf18)), (mq24, .inl (mk24, 40, .inl mf24)), (mq25, .inl (mk25, 40, .inl mf25)), (mq27, .inl (mk27, 25, .inl a.2))] H ∧ va_D A [(mz, .inr (7, [.int mth, .ref mq1, .ref mq2, .ref mq3, .ref mq4, .ref mq5, .int mtd, .int mat, .int mtk, .int mpl, .int mva, .long mwd, .int mbd, .int mbp, .int mft, .int mfp, .ref mq16, .ref mq17, .ref mq18, .ref mq19, .ref mq20, .ref mq21, .int mlt, .ref mq23, .ref mq24, .ref mq25, .int msd, .ref mq27, .ref mq28, .ref mq29, .ref mq30, .ref mq31, .ref mq32, .int mlr, .int mst, .long mob, .long msb, .ref mq37, .int mln])), (mq18, .inl (mk18, 200, .inl mf18)), (mq24, .inl (mk24, 40, .inl mf24)), (mq25, .inl (mk25, 40, .inl mf25)), (mq27, .inl (mk27, 25, .inl a.2))] ∧ va_S A s.heap H locs ∧ lv_has ls 4 [(2, .int a.1), (0, .ref mz), (1, .int 0)]) (μ := fun a => 2 * FM a.2 + a.1.toInt.toNat) ?_ ((1 : Int32), mf27) ⟨(by have k0 : (1 : Int32).toInt = 1 := (by decide); (try dsimp only); omega), ⟨0, rfl⟩, (fun h9 => absurd h9 (show ¬ (1 : Int32).toInt = 0 by decide)), hR_mq27, hP.sub [0, 1, 2, 3, 4] rfl, hD.sub [0, 1, 2, 3, 4] (by decide) rfl, hS, lv_sub hl [0, 1, 2] rfl⟩
  intro a H locs ls hI ih2
  obtain ⟨mo1, f1⟩ := a
  obtain ⟨h_mo1, hit, hfx, hFI, hP, hD, hS, hl⟩ := hI
  have h_mo1 : 0 ≤ mo1.toInt ∧ mo1.toInt ≤ 1 := h_mo1
  have hit : ∃ j, f1 = it (ps mf18 mf24 mf25 0 msd.toNatClampNeg) j mf27 := hit
  have hfx : mo1.toInt = 0 → ps mf18 mf24 mf25 0 msd.toNatClampNeg f1 = f1 := hfx
  have hFI : FI f1 := hFI
  have hP : va_P (dC, dI) vwCl [(mz, .inr (7, [.int mth, .ref mq1, .ref mq2, .ref mq3, .ref mq4, .ref mq5, .int mtd, .int mat, .int mtk, .int mpl, .int mva, .long mwd, .int mbd, .int mbp, .int mft, .int mfp, .ref mq16, .ref mq17, .ref mq18, .ref mq19, .ref mq20, .ref mq21, .int mlt, .ref mq23, .ref mq24, .ref mq25, .int msd, .ref mq27, .ref mq28, .ref mq29, .ref mq30, .ref mq31, .ref mq32, .int mlr, .int mst, .long mob, .long msb, .ref mq37, .int mln])), (mq18, .inl (mk18, 200, .inl mf18)), (mq24, .inl (mk24, 40, .inl mf24)), (mq25, .inl (mk25, 40, .inl mf25)), (mq27, .inl (mk27, 25, .inl f1))] H := hP
  have hD : va_D A [(mz, .inr (7, [.int mth, .ref mq1, .ref mq2, .ref mq3, .ref mq4, .ref mq5, .int mtd, .int mat, .int mtk, .int mpl, .int mva, .long mwd, .int mbd, .int mbp, .int mft, .int mfp, .ref mq16, .ref mq17, .ref mq18, .ref mq19, .ref mq20, .ref mq21, .int mlt, .ref mq23, .ref mq24, .ref mq25, .int msd, .ref mq27, .ref mq28, .ref mq29, .ref mq30, .ref mq31, .ref mq32, .int mlr, .int mst, .long mob, .long msb, .ref mq37, .int mln])), (mq18, .inl (mk18, 200, .inl mf18)), (mq24, .inl (mk24, 40, .inl mf24)), (mq25, .inl (mk25, 40, .inl mf25)), (mq27, .inl (mk27, 25, .inl f1))] := hD
  have hl : lv_has ls 4 [(2, .int mo1), (0, .ref mz), (1, .int 0)] := hl
  refine lv_iload_n hx hb dX7_spreads_2 rfl (lv_at hl 0 rfl) ?_
  refine lv_if_eq (tgt := 102) hx hb dX7_spreads_3 (by decide) (fun c_1 => ?_) (fun c_1 => ?_)
  · have c_1 : mo1.toInt = 0 := i_eq (a := mo1) (b := 0) rfl (by decide) c_1
    have hP9 := hP.sub (ws' := [(mz, .inr (7, [.int mth, .ref mq1, .ref mq2, .ref mq3, .ref mq4, .ref mq5, .int mtd, .int mat, .int mtk, .int mpl, .int mva, .long mwd, .int mbd, .int mbp, .int mft, .int mfp, .ref mq16, .ref mq17, .ref mq18, .ref mq19, .ref mq20, .ref mq21, .int mlt, .ref mq23, .ref mq24, .ref mq25, .int msd, .ref mq27, .ref mq28, .ref mq29, .ref mq30, .ref mq31, .ref mq32, .int mlr, .int mst, .long mob, .long msb, .ref mq37, .int mln])), (mq18, .inl (mk18, 200, .inl mf18)), (mq24, .inl (mk24, 40, .inl mf24)), (mq25, .inl (mk25, 40, .inl mf25)), (mq27, .inl (mk27, 25, .inl f1))]) [0, 1, 2, 3, 4] rfl
    have hD9 := hD.sub (ws' := [(mz, .inr (7, [.int mth, .ref mq1, .ref mq2, .ref mq3, .ref mq4, .ref mq5, .int mtd, .int mat, .int mtk, .int mpl, .int mva, .long mwd, .int mbd, .int mbp, .int mft, .int mfp, .ref mq16, .ref mq17, .ref mq18, .ref mq19, .ref mq20, .ref mq21, .int mlt, .ref mq23, .ref mq24, .ref mq25, .int msd, .ref mq27, .ref mq28, .ref mq29, .ref mq30, .ref mq31, .ref mq32, .int mlr, .int mst, .long mob, .long msb, .ref mq37, .int mln])), (mq18, .inl (mk18, 200, .inl mf18)), (mq24, .inl (mk24, 40, .inl mf24)), (mq25, .inl (mk25, 40, .inl mf25)), (mq27, .inl (mk27, 25, .inl f1))]) [0, 1, 2, 3, 4] (by decide) rfl
    have hK9 := hK.sub (tys' := []) [] rfl
    refine W.widen (k := 0) (n := 0) (by omega) (by omega) ?_
    exact W.vret hx hb hr (fun t ht hW => ⟨⟨(f1), rfl, ⟨⟨hit, hfx (by omega)⟩, hFI⟩, by rw [ht]; exact hP9, va_K.moved hW.alike hK9, hD9⟩, hS.F ht⟩) hS.2.2 dX7_spreads_102
  · have c_1 : mo1.toInt ≠ 0 := i_ne (a := mo1) (b := 0) rfl (by decide) c_1
    refine lv_iconst (v := 0) hx hb dX7_spreads_6 (by decide) ?_
    refine lv_istore_n (lv' := [(2, .int 0), (0, .ref mz), (1, .int 0)]) hx hb dX7_spreads_7 rfl hl (by decide) rfl (fun ls hl => ?_)
    refine lv_iconst (v := 0) hx hb dX7_spreads_8 (by decide) ?_
    refine lv_istore_n (lv' := [(3, .int 0), (2, .int 0), (0, .ref mz), (1, .int 0)]) hx hb dX7_spreads_9 rfl hl (by decide) rfl (fun ls hl => ?_)
    refine lp_W (I := fun (a : Int32 × Int32 × (Nat → Int32)) H locs ls => (0 ≤ a.1.toInt ∧ a.1.toInt ≤ msd.toInt) ∧ (0 ≤ a.2.1.toInt ∧ a.2.1.toInt ≤ 1) ∧ (a.2.2 = ps mf18 mf24 mf25 0 a.1.toNatClampNeg f1) ∧ (FM a.2.2 ≤ FM f1) ∧ (a.2.1.toInt = 0 → a.2.2 = f1) ∧ (a.2.1.toInt ≠ 0 → FM a.2.2 < FM f1) ∧ (FI a.2.2) ∧ va_P (dC, dI) vwCl [(mz, .inr (7, [.int mth, .ref mq1, .ref mq2, .ref mq3, .ref mq4, .ref mq5, .int mtd, .int mat, .int mtk, .int mpl, .int mva, .long mwd, .int mbd, .int mbp, .int mft, .int mfp, .ref mq16, .ref mq17, .ref mq18, .ref mq19, .ref mq20, .ref mq21, .int mlt, .ref mq23, .ref mq24, .ref mq25, .int msd, .ref mq27, .ref mq28, .ref mq29, .ref mq30, .ref mq31, .ref mq32, .int mlr, .int mst, .long mob, .long msb, .ref mq37, .int mln])), (mq18, .inl (mk18, 200, .inl mf18)), (mq24, .inl (mk24, 40, .inl mf24)), (mq25, .inl (mk25, 40, .inl mf25)), (mq27, .inl (mk27, 25, .inl a.2.2))] H ∧ va_D A [(mz, .inr (7, [.int mth, .ref mq1, .ref mq2, .ref mq3, .ref mq4, .ref mq5, .int mtd, .int mat, .int mtk, .int mpl, .int mva, .long mwd, .int mbd, .int mbp, .int mft, .int mfp, .ref mq16, .ref mq17, .ref mq18, .ref mq19, .ref mq20, .ref mq21, .int mlt, .ref mq23, .ref mq24, .ref mq25, .int msd, .ref mq27, .ref mq28, .ref mq29, .ref mq30, .ref mq31, .ref mq32, .int mlr, .int mst, .long mob, .long msb, .ref mq37, .int mln])), (mq18, .inl (mk18, 200, .inl mf18)), (mq24, .inl (mk24, 40, .inl mf24)), (mq25, .inl (mk25, 40, .inl mf25)), (mq27, .inl (mk27, 25, .inl a.2.2))] ∧ va_S A s.heap H locs ∧ lv_has ls 4 [(3, .int a.1), (2, .int a.2.1), (0, .ref mz), (1, .int 0)]) (μ := fun a => (msd.toInt - a.1.toInt).toNat) ?_ ((0 : Int32), (0 : Int32), f1) ⟨(by have k0 : (0 : Int32).toInt = 0 := (by decide); (try dsimp only); omega), (by have k0 : (0 : Int32).toInt = 0 := (by decide); (try dsimp only); omega), rfl, (Nat.le_refl _), (fun _ => rfl), (fun h9 => absurd rfl h9), hFI, hP.sub [0, 1, 2, 3, 4] rfl, hD.sub [0, 1, 2, 3, 4] (by decide) rfl, hS, lv_sub hl [0, 1, 2, 3] rfl⟩
    intro a H locs ls hI ih10
    obtain ⟨s1, mo2, f2⟩ := a
    obtain ⟨h_s1, h_mo2, hps, hm, hmz, hmn, hFI2, hP, hD, hS, hl⟩ := hI
    have h_s1 : 0 ≤ s1.toInt ∧ s1.toInt ≤ msd.toInt := h_s1
    have h_mo2 : 0 ≤ mo2.toInt ∧ mo2.toInt ≤ 1 := h_mo2
    have hps : f2 = ps mf18 mf24 mf25 0 s1.toNatClampNeg f1 := hps
    have hm : FM f2 ≤ FM f1 := hm
    have hmz : mo2.toInt = 0 → f2 = f1 := hmz
    have hmn : mo2.toInt ≠ 0 → FM f2 < FM f1 := hmn
    have hFI2 : FI f2 := hFI2
    have hP : va_P (dC, dI) vwCl [(mz, .inr (7, [.int mth, .ref mq1, .ref mq2, .ref mq3, .ref mq4, .ref mq5, .int mtd, .int mat, .int mtk, .int mpl, .int mva, .long mwd, .int mbd, .int mbp, .int mft, .int mfp, .ref mq16, .ref mq17, .ref mq18, .ref mq19, .ref mq20, .ref mq21, .int mlt, .ref mq23, .ref mq24, .ref mq25, .int msd, .ref mq27, .ref mq28, .ref mq29, .ref mq30, .ref mq31, .ref mq32, .int mlr, .int mst, .long mob, .long msb, .ref mq37, .int mln])), (mq18, .inl (mk18, 200, .inl mf18)), (mq24, .inl (mk24, 40, .inl mf24)), (mq25, .inl (mk25, 40, .inl mf25)), (mq27, .inl (mk27, 25, .inl f2))] H := hP
    have hD : va_D A [(mz, .inr (7, [.int mth, .ref mq1, .ref mq2, .ref mq3, .ref mq4, .ref mq5, .int mtd, .int mat, .int mtk, .int mpl, .int mva, .long mwd, .int mbd, .int mbp, .int mft, .int mfp, .ref mq16, .ref mq17, .ref mq18, .ref mq19, .ref mq20, .ref mq21, .int mlt, .ref mq23, .ref mq24, .ref mq25, .int msd, .ref mq27, .ref mq28, .ref mq29, .ref mq30, .ref mq31, .ref mq32, .int mlr, .int mst, .long mob, .long msb, .ref mq37, .int mln])), (mq18, .inl (mk18, 200, .inl mf18)), (mq24, .inl (mk24, 40, .inl mf24)), (mq25, .inl (mk25, 40, .inl mf25)), (mq27, .inl (mk27, 25, .inl f2))] := hD
    have hl : lv_has ls 4 [(3, .int s1), (2, .int mo2), (0, .ref mz), (1, .int 0)] := hl
    refine lv_iload_n hx hb dX7_spreads_10 rfl (lv_at hl 0 rfl) ?_
    refine lv_aload_n hx hb dX7_spreads_11 rfl (lv_at hl 2 rfl) ?_
    refine va_get (D := (dC, dI)) (ci := 7) (v := .int msd) (C := RX7) (T := TX7) (N := 39) hx hb hts in_X7_spreads_0_X7 hown hK hP 0 rfl rfl 26 (by decide) (hts _ wd_X7_spreads_0_0) (fun _ h9 => h9) rfl dX7_spreads_12 ?_
    refine lv_icmp_ge (tgt := 99) hx hb dX7_spreads_15 (by decide) (fun c_2 => ?_) (fun c_2 => ?_)
    · have c_2 : msd.toInt ≤ s1.toInt := i_le (a := msd) (b := s1) rfl rfl c_2
      refine lv_goto (tgt := 2) hx hb dX7_spreads_99 (by decide) ?_
      exact ih2 (mo2, f2) _ _ _ ⟨(by (try dsimp only); omega), (sp_again (k := s1) (n := msd) (by omega) hps hit), (fun h9 => sp_fix (k := s1) (n := msd) (by omega) hps (hmz h9)), hFI2, hP.sub [0, 1, 2, 3, 4] rfl, hD.sub [0, 1, 2, 3, 4] (by decide) rfl, hS, lv_sub hl [1, 2, 3] rfl⟩ (by (try dsimp only); omega)
    · have c_2 : s1.toInt < msd.toInt := i_nle (a := msd) (b := s1) rfl rfl c_2
      refine lv_aload_n hx hb dX7_spreads_18 rfl (lv_at hl 2 rfl) ?_
      refine va_get (D := (dC, dI)) (ci := 7) (v := .ref mq18) (C := RX7) (T := TX7) (N := 39) hx hb hts in_X7_spreads_0_X7 hown hK hP 0 rfl rfl 18 (by decide) (hts _ wd_X7_spreads_0_1) (fun _ h9 => h9) rfl dX7_spreads_19 ?_
      refine lv_bipush (v := 40) hx hb dX7_spreads_22 (by decide) ?_
      refine lv_iload_n hx hb dX7_spreads_24 rfl (lv_at hl 3 rfl) ?_
      refine lv_imul hx hb dX7_spreads_25 ?_
      refine lv_topi (fun z_3 ez_3 => ?_)
      obtain rfl : z_3 = 0 := ez_3.trans (by decide)
      refine lv_iload_n hx hb dX7_spreads_26 rfl (lv_at hl 0 rfl) ?_
      refine lv_iadd hx hb dX7_spreads_27 ?_
      refine lv_topi (fun x_4 ex_4 => ?_)
      have zx_4 : x_4.toInt = 0 + s1.toInt := by rw [ex_4]; exact i_add (by decide) rfl (by omega) (by omega)
      refine va_iald hx hb hK hP 1 0 rfl rfl (i_in rfl (by omega) (by omega)) dX7_spreads_28 ?_
      refine lv_topi (fun v_5 ev_5 => ?_)
      have kv_5 : v_5.toInt = (mf18 x_4.toNatClampNeg).toInt := congrArg Int32.toInt ev_5
      refine lv_if_eq (tgt := 35) hx hb dX7_spreads_29 (by decide) (fun c_6 => ?_) (fun c_6 => ?_)
      · have c_6 : v_5.toInt = 0 := i_eq (a := v_5) (b := 0) rfl (by decide) c_6
        refine lv_aload_n hx hb dX7_spreads_35 rfl (lv_at hl 2 rfl) ?_
        refine lv_aload_n hx hb dX7_spreads_36 rfl (lv_at hl 2 rfl) ?_
        refine va_get (D := (dC, dI)) (ci := 7) (v := .ref mq24) (C := RX7) (T := TX7) (N := 39) hx hb hts in_X7_spreads_0_X7 hown hK hP 0 rfl rfl 24 (by decide) (hts _ wd_X7_spreads_0_2) (fun _ h9 => h9) rfl dX7_spreads_37 ?_
        refine lv_iload_n hx hb dX7_spreads_40 rfl (lv_at hl 0 rfl) ?_
        have hin_7 : vp_in s1 40 := (i_in rfl (by omega) (by omega))
        refine va_iald hx hb hK hP 2 1 rfl rfl hin_7 dX7_spreads_41 ?_
        refine lv_topi (fun v_8 ev_8 => ?_)
        have kv_8 : v_8.toInt = (mf24 s1.toNatClampNeg).toInt := congrArg Int32.toInt ev_8
        have hv_8 := RG.at hR_mq24 hin_7 ev_8
        refine lv_aload_n hx hb dX7_spreads_42 rfl (lv_at hl 2 rfl) ?_
        refine va_get (D := (dC, dI)) (ci := 7) (v := .ref mq25) (C := RX7) (T := TX7) (N := 39) hx hb hts in_X7_spreads_0_X7 hown hK hP 0 rfl rfl 25 (by decide) (hts _ wd_X7_spreads_0_3) (fun _ h9 => h9) rfl dX7_spreads_43 ?_
        refine lv_iload_n hx hb dX7_spreads_46 rfl (lv_at hl 0 rfl) ?_
        have hin_9 : vp_in s1 40 := (i_in rfl (by omega) (by omega))
        refine va_iald hx hb hK hP 3 2 rfl rfl hin_9 dX7_spreads_47 ?_
        refine lv_topi (fun v_10 ev_10 => ?_)
        have kv_10 : v_10.toInt = (mf25 s1.toNatClampNeg).toInt := congrArg Int32.toInt ev_10
        have hv_10 := RG.at hR_mq25 hin_9 ev_10
        have hPc := hP.sub (ws' := [(mz, .inr (7, [.int mth, .ref mq1, .ref mq2, .ref mq3, .ref mq4, .ref mq5, .int mtd, .int mat, .int mtk, .int mpl, .int mva, .long mwd, .int mbd, .int mbp, .int mft, .int mfp, .ref mq16, .ref mq17, .ref mq18, .ref mq19, .ref mq20, .ref mq21, .int mlt, .ref mq23, .ref mq24, .ref mq25, .int msd, .ref mq27, .ref mq28, .ref mq29, .ref mq30, .ref mq31, .ref mq32, .int mlr, .int mst, .long mob, .long msb, .ref mq37, .int mln])), (mq27, .inl (mk27, 25, .inl f2))]) [0, 4] rfl
        have hDc := hD.sub (ws' := [(mz, .inr (7, [.int mth, .ref mq1, .ref mq2, .ref mq3, .ref mq4, .ref mq5, .int mtd, .int mat, .int mtk, .int mpl, .int mva, .long mwd, .int mbd, .int mbp, .int mft, .int mfp, .ref mq16, .ref mq17, .ref mq18, .ref mq19, .ref mq20, .ref mq21, .int mlt, .ref mq23, .ref mq24, .ref mq25, .int msd, .ref mq27, .ref mq28, .ref mq29, .ref mq30, .ref mq31, .ref mq32, .int mlr, .int mst, .long mob, .long msb, .ref mq37, .int mln])), (mq27, .inl (mk27, 25, .inl f2))]) [0, 4] (by decide) rfl
        have hKc := hK.sub (tys' := [(mk27, .int)]) [3] rfl
        have hFc := va_free (wc := [(mz, .inr (7, [.int mth, .ref mq1, .ref mq2, .ref mq3, .ref mq4, .ref mq5, .int mtd, .int mat, .int mtk, .int mpl, .int mva, .long mwd, .int mbd, .int mbp, .int mft, .int mfp, .ref mq16, .ref mq17, .ref mq18, .ref mq19, .ref mq20, .ref mq21, .int mlt, .ref mq23, .ref mq24, .ref mq25, .int msd, .ref mq27, .ref mq28, .ref mq29, .ref mq30, .ref mq31, .ref mq32, .int mlr, .int mst, .long mob, .long msb, .ref mq37, .int mln])), (mq27, .inl (mk27, 25, .inl f2))]) hD hS hA [0, 4] rfl
        refine va_calli (va_runV (As := [.int v_8, .int v_10]) (rest := []) ⟨hx, hb, hml, hown, hts⟩ (c_X7_nears l dC dI H.size mz mth mq1 mq2 mq3 mq4 mq5 mtd mat mtk mpl mva mwd mbd mbp mft mfp mq16 mq17 mq18 mq19 mq20 mq21 mlt mq23 mq24 mq25 msd mq27 mq28 mq29 mq30 mq31 mq32 mlr mst mob msb mq37 mln mk27 f2 v_8 v_10 (by omega) (by omega) hFI2) (cwV 2 hts g_X7_spreads_0_X7_nears rfl rfl rfl (by decide +kernel) ⟨Nat.le_of_ble_eq_true rfl, Nat.le_of_ble_eq_true rfl⟩) ⟨fun a U g mk q => by obtain ⟨q0, q1, qP, qK, qD⟩ := q; exact ⟨q0, q1, qP, va_K.moved (u := U) (U := U.calling g mk a) (Vm.Alike.refl U.vm) qK, qD⟩, va_recv hKc hPc (ci := 7) (q0 := 0) rfl rfl, fun U hU hW => ⟨rfl, by rw [hU], by rw [hU]; exact hPc, va_K.moved hW.alike hKc, hDc.weaken (fun _ _ _ _ => trivial)⟩⟩ rfl rfl hl.1 rfl (lv_room (Nat.le_of_ble_eq_true rfl)) dX7_spreads_48 ⟨Nat.le_of_ble_eq_true rfl, Nat.le_of_ble_eq_true rfl⟩) hS (fun q _ h => hFc q h) hFc (fun r_11 u t H1 locs ht hvm hw_12 hB hz1 hk1 hS => ?_)
        obtain ⟨ns27_13, rfl⟩ : ∃ z, z = u := ⟨_, rfl⟩
        obtain ⟨hP1, hK1, hD1⟩ := hB
        have hP1 : va_P (dC, dI) vwCl [(mz, .inr (7, [.int mth, .ref mq1, .ref mq2, .ref mq3, .ref mq4, .ref mq5, .int mtd, .int mat, .int mtk, .int mpl, .int mva, .long mwd, .int mbd, .int mbp, .int mft, .int mfp, .ref mq16, .ref mq17, .ref mq18, .ref mq19, .ref mq20, .ref mq21, .int mlt, .ref mq23, .ref mq24, .ref mq25, .int msd, .ref mq27, .ref mq28, .ref mq29, .ref mq30, .ref mq31, .ref mq32, .int mlr, .int mst, .long mob, .long msb, .ref mq37, .int mln])), (mq27, .inl (mk27, 25, .inl ns27_13))] t.heap := hP1
        rw [ht] at hP1
        try dsimp only at hw_12
        obtain ⟨hp_14, hp_15⟩ := hw_12
        obtain ⟨hP, hD⟩ := va_join (wr := [(mq18, .inl (mk18, 200, .inl mf18)), (mq24, .inl (mk24, 40, .inl mf24)), (mq25, .inl (mk25, 40, .inl mf25))]) (w1 := [(mz, .inr (7, [.int mth, .ref mq1, .ref mq2, .ref mq3, .ref mq4, .ref mq5, .int mtd, .int mat, .int mtk, .int mpl, .int mva, .long mwd, .int mbd, .int mbp, .int mft, .int mfp, .ref mq16, .ref mq17, .ref mq18, .ref mq19, .ref mq20, .ref mq21, .int mlt, .ref mq23, .ref mq24, .ref mq25, .int msd, .ref mq27, .ref mq28, .ref mq29, .ref mq30, .ref mq31, .ref mq32, .int mlr, .int mst, .long mob, .long msb, .ref mq37, .int mln])), (mq27, .inl (mk27, 25, .inl ns27_13))]) hP hD [0, 4] [1, 2, 3] rfl rfl (by decide) (by decide) hk1 hFc hP1 hD1
        generalize H1 = H at hP hS ⊢
        have hP : va_P (dC, dI) vwCl [(mq18, .inl (mk18, 200, .inl mf18)), (mq24, .inl (mk24, 40, .inl mf24)), (mq25, .inl (mk25, 40, .inl mf25)), (mz, .inr (7, [.int mth, .ref mq1, .ref mq2, .ref mq3, .ref mq4, .ref mq5, .int mtd, .int mat, .int mtk, .int mpl, .int mva, .long mwd, .int mbd, .int mbp, .int mft, .int mfp, .ref mq16, .ref mq17, .ref mq18, .ref mq19, .ref mq20, .ref mq21, .int mlt, .ref mq23, .ref mq24, .ref mq25, .int msd, .ref mq27, .ref mq28, .ref mq29, .ref mq30, .ref mq31, .ref mq32, .int mlr, .int mst, .long mob, .long msb, .ref mq37, .int mln])), (mq27, .inl (mk27, 25, .inl ns27_13))] H := hP
        have hD : va_D A [(mq18, .inl (mk18, 200, .inl mf18)), (mq24, .inl (mk24, 40, .inl mf24)), (mq25, .inl (mk25, 40, .inl mf25)), (mz, .inr (7, [.int mth, .ref mq1, .ref mq2, .ref mq3, .ref mq4, .ref mq5, .int mtd, .int mat, .int mtk, .int mpl, .int mva, .long mwd, .int mbd, .int mbp, .int mft, .int mfp, .ref mq16, .ref mq17, .ref mq18, .ref mq19, .ref mq20, .ref mq21, .int mlt, .ref mq23, .ref mq24, .ref mq25, .int msd, .ref mq27, .ref mq28, .ref mq29, .ref mq30, .ref mq31, .ref mq32, .int mlr, .int mst, .long mob, .long msb, .ref mq37, .int mln])), (mq27, .inl (mk27, 25, .inl ns27_13))] := hD
        rcases hp_14 with ⟨rq_16, hd1, hn1⟩ | ⟨rq_16, hd1, hn1⟩
        · obtain rfl : r_11 = 0 := rq_16
          have hq1 : ns27_13 = nr f2 (mf24 s1.toNatClampNeg).toNatClampNeg (mf25 s1.toNatClampNeg).toNatClampNeg := by rw [← ev_8, ← ev_10]; exact hd1.trans hn1.symm
          have hm1 : FM ns27_13 ≤ FM f2 := by rw [hd1]; exact Nat.le_refl _
          refine lv_if_ne (tgt := 58) hx hb dX7_spreads_51 (by decide) (fun h => absurd (by decide) h) (fun _ => ?_)
          refine lv_iload_n hx hb dX7_spreads_54 rfl (lv_at hl 1 rfl) ?_
          refine lv_if_eq (tgt := 62) hx hb dX7_spreads_55 (by decide) (fun c_18 => ?_) (fun c_18 => ?_)
          · have c_18 : mo2.toInt = 0 := i_eq (a := mo2) (b := 0) rfl (by decide) c_18
            refine lv_iconst (v := 0) hx hb dX7_spreads_62 (by decide) ?_
            refine lv_istore_n (lv' := [(2, .int 0), (3, .int s1), (0, .ref mz), (1, .int 0)]) hx hb dX7_spreads_63 rfl hl (by decide) rfl (fun ls hl => ?_)
            refine lv_aload_n hx hb dX7_spreads_64 rfl (lv_at hl 2 rfl) ?_
            refine lv_aload_n hx hb dX7_spreads_65 rfl (lv_at hl 2 rfl) ?_
            refine va_get (D := (dC, dI)) (ci := 7) (v := .ref mq25) (C := RX7) (T := TX7) (N := 39) hx hb hts in_X7_spreads_0_X7 hown hK hP 3 rfl rfl 25 (by decide) (hts _ wd_X7_spreads_0_3) (fun _ h9 => h9) rfl dX7_spreads_66 ?_
            refine lv_iload_n hx hb dX7_spreads_69 rfl (lv_at hl 1 rfl) ?_
            have hin_19 : vp_in s1 40 := (i_in rfl (by omega) (by omega))
            refine va_iald hx hb hK hP 2 2 rfl rfl hin_19 dX7_spreads_70 ?_
            refine lv_topi (fun v_20 ev_20 => ?_)
            have kv_20 : v_20.toInt = (mf25 s1.toNatClampNeg).toInt := congrArg Int32.toInt ev_20
            have hv_20 := RG.at hR_mq25 hin_19 ev_20
            refine lv_aload_n hx hb dX7_spreads_71 rfl (lv_at hl 2 rfl) ?_
            refine va_get (D := (dC, dI)) (ci := 7) (v := .ref mq24) (C := RX7) (T := TX7) (N := 39) hx hb hts in_X7_spreads_0_X7 hown hK hP 3 rfl rfl 24 (by decide) (hts _ wd_X7_spreads_0_2) (fun _ h9 => h9) rfl dX7_spreads_72 ?_
            refine lv_iload_n hx hb dX7_spreads_75 rfl (lv_at hl 1 rfl) ?_
            have hin_21 : vp_in s1 40 := (i_in rfl (by omega) (by omega))
            refine va_iald hx hb hK hP 1 1 rfl rfl hin_21 dX7_spreads_76 ?_
            refine lv_topi (fun v_22 ev_22 => ?_)
            have kv_22 : v_22.toInt = (mf24 s1.toNatClampNeg).toInt := congrArg Int32.toInt ev_22
            have hv_22 := RG.at hR_mq24 hin_21 ev_22
            have hPc := hP.sub (ws' := [(mz, .inr (7, [.int mth, .ref mq1, .ref mq2, .ref mq3, .ref mq4, .ref mq5, .int mtd, .int mat, .int mtk, .int mpl, .int mva, .long mwd, .int mbd, .int mbp, .int mft, .int mfp, .ref mq16, .ref mq17, .ref mq18, .ref mq19, .ref mq20, .ref mq21, .int mlt, .ref mq23, .ref mq24, .ref mq25, .int msd, .ref mq27, .ref mq28, .ref mq29, .ref mq30, .ref mq31, .ref mq32, .int mlr, .int mst, .long mob, .long msb, .ref mq37, .int mln])), (mq27, .inl (mk27, 25, .inl ns27_13))]) [3, 4] rfl
            have hDc := hD.sub (ws' := [(mz, .inr (7, [.int mth, .ref mq1, .ref mq2, .ref mq3, .ref mq4, .ref mq5, .int mtd, .int mat, .int mtk, .int mpl, .int mva, .long mwd, .int mbd, .int mbp, .int mft, .int mfp, .ref mq16, .ref mq17, .ref mq18, .ref mq19, .ref mq20, .ref mq21, .int mlt, .ref mq23, .ref mq24, .ref mq25, .int msd, .ref mq27, .ref mq28, .ref mq29, .ref mq30, .ref mq31, .ref mq32, .int mlr, .int mst, .long mob, .long msb, .ref mq37, .int mln])), (mq27, .inl (mk27, 25, .inl ns27_13))]) [3, 4] (by decide) rfl
            have hKc := hK.sub (tys' := [(mk27, .int)]) [3] rfl
            have hFc := va_free (wc := [(mz, .inr (7, [.int mth, .ref mq1, .ref mq2, .ref mq3, .ref mq4, .ref mq5, .int mtd, .int mat, .int mtk, .int mpl, .int mva, .long mwd, .int mbd, .int mbp, .int mft, .int mfp, .ref mq16, .ref mq17, .ref mq18, .ref mq19, .ref mq20, .ref mq21, .int mlt, .ref mq23, .ref mq24, .ref mq25, .int msd, .ref mq27, .ref mq28, .ref mq29, .ref mq30, .ref mq31, .ref mq32, .int mlr, .int mst, .long mob, .long msb, .ref mq37, .int mln])), (mq27, .inl (mk27, 25, .inl ns27_13))]) hD hS hA [3, 4] rfl
            refine va_calli (va_runV (As := [.int v_20, .int v_22]) (rest := []) ⟨hx, hb, hml, hown, hts⟩ (c_X7_nears l dC dI H.size mz mth mq1 mq2 mq3 mq4 mq5 mtd mat mtk mpl mva mwd mbd mbp mft mfp mq16 mq17 mq18 mq19 mq20 mq21 mlt mq23 mq24 mq25 msd mq27 mq28 mq29 mq30 mq31 mq32 mlr mst mob msb mq37 mln mk27 ns27_13 v_20 v_22 (by omega) (by omega) hp_15) (cwV 2 hts g_X7_spreads_0_X7_nears rfl rfl rfl (by decide +kernel) ⟨Nat.le_of_ble_eq_true rfl, Nat.le_of_ble_eq_true rfl⟩) ⟨fun a U g mk q => by obtain ⟨q0, q1, qP, qK, qD⟩ := q; exact ⟨q0, q1, qP, va_K.moved (u := U) (U := U.calling g mk a) (Vm.Alike.refl U.vm) qK, qD⟩, va_recv hKc hPc (ci := 7) (q0 := 0) rfl rfl, fun U hU hW => ⟨rfl, by rw [hU], by rw [hU]; exact hPc, va_K.moved hW.alike hKc, hDc.weaken (fun _ _ _ _ => trivial)⟩⟩ rfl rfl hl.1 rfl (lv_room (Nat.le_of_ble_eq_true rfl)) dX7_spreads_77 ⟨Nat.le_of_ble_eq_true rfl, Nat.le_of_ble_eq_true rfl⟩) hS (fun q _ h => hFc q h) hFc (fun r_23 u t H1 locs ht hvm hw_24 hB hz1 hk1 hS => ?_)
            obtain ⟨ns27_25, rfl⟩ : ∃ z, z = u := ⟨_, rfl⟩
            obtain ⟨hP1, hK1, hD1⟩ := hB
            have hP1 : va_P (dC, dI) vwCl [(mz, .inr (7, [.int mth, .ref mq1, .ref mq2, .ref mq3, .ref mq4, .ref mq5, .int mtd, .int mat, .int mtk, .int mpl, .int mva, .long mwd, .int mbd, .int mbp, .int mft, .int mfp, .ref mq16, .ref mq17, .ref mq18, .ref mq19, .ref mq20, .ref mq21, .int mlt, .ref mq23, .ref mq24, .ref mq25, .int msd, .ref mq27, .ref mq28, .ref mq29, .ref mq30, .ref mq31, .ref mq32, .int mlr, .int mst, .long mob, .long msb, .ref mq37, .int mln])), (mq27, .inl (mk27, 25, .inl ns27_25))] t.heap := hP1
            rw [ht] at hP1
            try dsimp only at hw_24
            obtain ⟨hp_26, hp_27⟩ := hw_24
            obtain ⟨hP, hD⟩ := va_join (wr := [(mq18, .inl (mk18, 200, .inl mf18)), (mq24, .inl (mk24, 40, .inl mf24)), (mq25, .inl (mk25, 40, .inl mf25))]) (w1 := [(mz, .inr (7, [.int mth, .ref mq1, .ref mq2, .ref mq3, .ref mq4, .ref mq5, .int mtd, .int mat, .int mtk, .int mpl, .int mva, .long mwd, .int mbd, .int mbp, .int mft, .int mfp, .ref mq16, .ref mq17, .ref mq18, .ref mq19, .ref mq20, .ref mq21, .int mlt, .ref mq23, .ref mq24, .ref mq25, .int msd, .ref mq27, .ref mq28, .ref mq29, .ref mq30, .ref mq31, .ref mq32, .int mlr, .int mst, .long mob, .long msb, .ref mq37, .int mln])), (mq27, .inl (mk27, 25, .inl ns27_25))]) hP hD [3, 4] [0, 1, 2] rfl rfl (by decide) (by decide) hk1 hFc hP1 hD1
            generalize H1 = H at hP hS ⊢
            have hP : va_P (dC, dI) vwCl [(mq18, .inl (mk18, 200, .inl mf18)), (mq24, .inl (mk24, 40, .inl mf24)), (mq25, .inl (mk25, 40, .inl mf25)), (mz, .inr (7, [.int mth, .ref mq1, .ref mq2, .ref mq3, .ref mq4, .ref mq5, .int mtd, .int mat, .int mtk, .int mpl, .int mva, .long mwd, .int mbd, .int mbp, .int mft, .int mfp, .ref mq16, .ref mq17, .ref mq18, .ref mq19, .ref mq20, .ref mq21, .int mlt, .ref mq23, .ref mq24, .ref mq25, .int msd, .ref mq27, .ref mq28, .ref mq29, .ref mq30, .ref mq31, .ref mq32, .int mlr, .int mst, .long mob, .long msb, .ref mq37, .int mln])), (mq27, .inl (mk27, 25, .inl ns27_25))] H := hP
            have hD : va_D A [(mq18, .inl (mk18, 200, .inl mf18)), (mq24, .inl (mk24, 40, .inl mf24)), (mq25, .inl (mk25, 40, .inl mf25)), (mz, .inr (7, [.int mth, .ref mq1, .ref mq2, .ref mq3, .ref mq4, .ref mq5, .int mtd, .int mat, .int mtk, .int mpl, .int mva, .long mwd, .int mbd, .int mbp, .int mft, .int mfp, .ref mq16, .ref mq17, .ref mq18, .ref mq19, .ref mq20, .ref mq21, .int mlt, .ref mq23, .ref mq24, .ref mq25, .int msd, .ref mq27, .ref mq28, .ref mq29, .ref mq30, .ref mq31, .ref mq32, .int mlr, .int mst, .long mob, .long msb, .ref mq37, .int mln])), (mq27, .inl (mk27, 25, .inl ns27_25))] := hD
            rcases hp_26 with ⟨rq_28, hd2, hn2⟩ | ⟨rq_28, hd2, hn2⟩
            · obtain rfl : r_23 = 0 := rq_28
              have hq2 : ns27_25 = nr ns27_13 (mf25 s1.toNatClampNeg).toNatClampNeg (mf24 s1.toNatClampNeg).toNatClampNeg := by rw [← ev_20, ← ev_22]; exact hd2.trans hn2.symm
              have hm2 : FM ns27_25 ≤ FM ns27_13 := by rw [hd2]; exact Nat.le_refl _
              rw [hq1] at hq2
              refine lv_if_ne (tgt := 87) hx hb dX7_spreads_80 (by decide) (fun h => absurd (by decide) h) (fun _ => ?_)
              refine lv_iload_n hx hb dX7_spreads_83 rfl (lv_at hl 0 rfl) ?_
              refine lv_if_eq (tgt := 91) hx hb dX7_spreads_84 (by decide) (fun _ => ?_) (fun h => absurd (by decide) h)
              refine lv_iconst (v := 0) hx hb dX7_spreads_91 (by decide) ?_
              refine lv_istore_n (lv' := [(2, .int 0), (3, .int s1), (0, .ref mz), (1, .int 0)]) hx hb dX7_spreads_92 rfl hl (by decide) rfl (fun ls hl => ?_)
              obtain ⟨x_31, ex_31⟩ : ∃ y9 : Int32, y9 = s1 + Int32.ofInt 1 := ⟨_, rfl⟩
              have zx_31 : x_31.toInt = s1.toInt + 1 := by rw [ex_31]; exact i_add rfl (show (Int32.ofInt 1).toInt = 1 by decide) (by omega) (by omega)
              refine lv_iinc (v := x_31) (lv' := [(3, .int x_31), (2, .int 0), (0, .ref mz), (1, .int 0)]) hx hb dX7_spreads_93 hl (k := 1) rfl (by rw [ex_31]) (by decide) rfl (fun ls hl => ?_)
              refine lv_goto (tgt := 10) hx hb dX7_spreads_96 (by decide) ?_
              exact ih10 (x_31, (0 : Int32), ns27_25) _ _ _ ⟨(by have k0 : (0 : Int32).toInt = 0 := (by decide); (try dsimp only); omega), (by have k0 : (0 : Int32).toInt = 0 := (by decide); (try dsimp only); omega), (ps_step hps (i_sc (k := s1) (k2 := x_31) rfl (by omega) (by omega)) (x := x_4) (by rw [i_cn (k := x_4) rfl, i_cn (k := s1) rfl]; omega) ev_5 (Or.inl ⟨i_of (by have k9 : (0 : Int32).toInt = 0 := (by decide); omega), hq2⟩)), (by have k0 : (0 : Int32).toInt = 0 := (by decide); (try dsimp only); omega), (fun _ => by rw [hd2, hd1]; exact hmz (by omega)), (fun h9 => absurd rfl h9), hp_27, hP.sub [3, 0, 1, 2, 4] rfl, hD.sub [3, 0, 1, 2, 4] (by decide) rfl, hS, lv_sub hl [0, 1, 2, 3] rfl⟩ (by have k0 : (0 : Int32).toInt = 0 := (by decide); (try dsimp only); omega)
            · obtain rfl : r_23 = 1 := rq_28
              have hq2 : ns27_25 = nr ns27_13 (mf25 s1.toNatClampNeg).toNatClampNeg (mf24 s1.toNatClampNeg).toNatClampNeg := by rw [← ev_20, ← ev_22]; exact hd2
              have hm2 : FM ns27_25 ≤ FM ns27_13 ∧ FM ns27_25 < FM ns27_13 := by omega
              rw [hq1] at hq2
              refine lv_if_ne (tgt := 87) hx hb dX7_spreads_80 (by decide) (fun _ => ?_) (fun h => absurd h (by decide))
              refine lv_iconst (v := 1) hx hb dX7_spreads_87 (by decide) ?_
              refine lv_goto (tgt := 92) hx hb dX7_spreads_88 (by decide) ?_
              refine lv_istore_n (lv' := [(2, .int 1), (3, .int s1), (0, .ref mz), (1, .int 0)]) hx hb dX7_spreads_92 rfl hl (by decide) rfl (fun ls hl => ?_)
              obtain ⟨x_33, ex_33⟩ : ∃ y9 : Int32, y9 = s1 + Int32.ofInt 1 := ⟨_, rfl⟩
              have zx_33 : x_33.toInt = s1.toInt + 1 := by rw [ex_33]; exact i_add rfl (show (Int32.ofInt 1).toInt = 1 by decide) (by omega) (by omega)
              refine lv_iinc (v := x_33) (lv' := [(3, .int x_33), (2, .int 1), (0, .ref mz), (1, .int 0)]) hx hb dX7_spreads_93 hl (k := 1) rfl (by rw [ex_33]) (by decide) rfl (fun ls hl => ?_)
              refine lv_goto (tgt := 10) hx hb dX7_spreads_96 (by decide) ?_
              exact ih10 (x_33, (1 : Int32), ns27_25) _ _ _ ⟨(by have k0 : (1 : Int32).toInt = 1 := (by decide); (try dsimp only); omega), (by have k0 : (1 : Int32).toInt = 1 := (by decide); (try dsimp only); omega), (ps_step hps (i_sc (k := s1) (k2 := x_33) rfl (by omega) (by omega)) (x := x_4) (by rw [i_cn (k := x_4) rfl, i_cn (k := s1) rfl]; omega) ev_5 (Or.inl ⟨i_of (by have k9 : (0 : Int32).toInt = 0 := (by decide); omega), hq2⟩)), (by have k0 : (1 : Int32).toInt = 1 := (by decide); (try dsimp only); omega), (fun h9 => absurd h9 (show ¬ (1 : Int32).toInt = 0 by decide)), (fun h9 => by (try dsimp only); first | omega | (have hz9 := hmn (by omega); omega)), hp_27, hP.sub [3, 0, 1, 2, 4] rfl, hD.sub [3, 0, 1, 2, 4] (by decide) rfl, hS, lv_sub hl [0, 1, 2, 3] rfl⟩ (by have k0 : (1 : Int32).toInt = 1 := (by decide); (try dsimp only); omega)
          · have c_18 : mo2.toInt ≠ 0 := i_ne (a := mo2) (b := 0) rfl (by decide) c_18
            refine lv_iconst (v := 1) hx hb dX7_spreads_58 (by decide) ?_
            refine lv_goto (tgt := 63) hx hb dX7_spreads_59 (by decide) ?_
            refine lv_istore_n (lv' := [(2, .int 1), (3, .int s1), (0, .ref mz), (1, .int 0)]) hx hb dX7_spreads_63 rfl hl (by decide) rfl (fun ls hl => ?_)
            refine lv_aload_n hx hb dX7_spreads_64 rfl (lv_at hl 2 rfl) ?_
            refine lv_aload_n hx hb dX7_spreads_65 rfl (lv_at hl 2 rfl) ?_
            refine va_get (D := (dC, dI)) (ci := 7) (v := .ref mq25) (C := RX7) (T := TX7) (N := 39) hx hb hts in_X7_spreads_0_X7 hown hK hP 3 rfl rfl 25 (by decide) (hts _ wd_X7_spreads_0_3) (fun _ h9 => h9) rfl dX7_spreads_66 ?_
            refine lv_iload_n hx hb dX7_spreads_69 rfl (lv_at hl 1 rfl) ?_
            have hin_34 : vp_in s1 40 := (i_in rfl (by omega) (by omega))
            refine va_iald hx hb hK hP 2 2 rfl rfl hin_34 dX7_spreads_70 ?_
            refine lv_topi (fun v_35 ev_35 => ?_)
            have kv_35 : v_35.toInt = (mf25 s1.toNatClampNeg).toInt := congrArg Int32.toInt ev_35
            have hv_35 := RG.at hR_mq25 hin_34 ev_35
            refine lv_aload_n hx hb dX7_spreads_71 rfl (lv_at hl 2 rfl) ?_
            refine va_get (D := (dC, dI)) (ci := 7) (v := .ref mq24) (C := RX7) (T := TX7) (N := 39) hx hb hts in_X7_spreads_0_X7 hown hK hP 3 rfl rfl 24 (by decide) (hts _ wd_X7_spreads_0_2) (fun _ h9 => h9) rfl dX7_spreads_72 ?_
            refine lv_iload_n hx hb dX7_spreads_75 rfl (lv_at hl 1 rfl) ?_
            have hin_36 : vp_in s1 40 := (i_in rfl (by omega) (by omega))
            refine va_iald hx hb hK hP 1 1 rfl rfl hin_36 dX7_spreads_76 ?_
            refine lv_topi (fun v_37 ev_37 => ?_)
            have kv_37 : v_37.toInt = (mf24 s1.toNatClampNeg).toInt := congrArg Int32.toInt ev_37
            have hv_37 := RG.at hR_mq24 hin_36 ev_37
            have hPc := hP.sub (ws' := [(mz, .inr (7, [.int mth, .ref mq1, .ref mq2, .ref mq3, .ref mq4, .ref mq5, .int mtd, .int mat, .int mtk, .int mpl, .int mva, .long mwd, .int mbd, .int mbp, .int mft, .int mfp, .ref mq16, .ref mq17, .ref mq18, .ref mq19, .ref mq20, .ref mq21, .int mlt, .ref mq23, .ref mq24, .ref mq25, .int msd, .ref mq27, .ref mq28, .ref mq29, .ref mq30, .ref mq31, .ref mq32, .int mlr, .int mst, .long mob, .long msb, .ref mq37, .int mln])), (mq27, .inl (mk27, 25, .inl ns27_13))]) [3, 4] rfl
            have hDc := hD.sub (ws' := [(mz, .inr (7, [.int mth, .ref mq1, .ref mq2, .ref mq3, .ref mq4, .ref mq5, .int mtd, .int mat, .int mtk, .int mpl, .int mva, .long mwd, .int mbd, .int mbp, .int mft, .int mfp, .ref mq16, .ref mq17, .ref mq18, .ref mq19, .ref mq20, .ref mq21, .int mlt, .ref mq23, .ref mq24, .ref mq25, .int msd, .ref mq27, .ref mq28, .ref mq29, .ref mq30, .ref mq31, .ref mq32, .int mlr, .int mst, .long mob, .long msb, .ref mq37, .int mln])), (mq27, .inl (mk27, 25, .inl ns27_13))]) [3, 4] (by decide) rfl
            have hKc := hK.sub (tys' := [(mk27, .int)]) [3] rfl
            have hFc := va_free (wc := [(mz, .inr (7, [.int mth, .ref mq1, .ref mq2, .ref mq3, .ref mq4, .ref mq5, .int mtd, .int mat, .int mtk, .int mpl, .int mva, .long mwd, .int mbd, .int mbp, .int mft, .int mfp, .ref mq16, .ref mq17, .ref mq18, .ref mq19, .ref mq20, .ref mq21, .int mlt, .ref mq23, .ref mq24, .ref mq25, .int msd, .ref mq27, .ref mq28, .ref mq29, .ref mq30, .ref mq31, .ref mq32, .int mlr, .int mst, .long mob, .long msb, .ref mq37, .int mln])), (mq27, .inl (mk27, 25, .inl ns27_13))]) hD hS hA [3, 4] rfl
            refine va_calli (va_runV (As := [.int v_35, .int v_37]) (rest := []) ⟨hx, hb, hml, hown, hts⟩ (c_X7_nears l dC dI H.size mz mth mq1 mq2 mq3 mq4 mq5 mtd mat mtk mpl mva mwd mbd mbp mft mfp mq16 mq17 mq18 mq19 mq20 mq21 mlt mq23 mq24 mq25 msd mq27 mq28 mq29 mq30 mq31 mq32 mlr mst mob msb mq37 mln mk27 ns27_13 v_35 v_37 (by omega) (by omega) hp_15) (cwV 2 hts g_X7_spreads_0_X7_nears rfl rfl rfl (by decide +kernel) ⟨Nat.le_of_ble_eq_true rfl, Nat.le_of_ble_eq_true rfl⟩) ⟨fun a U g mk q => by obtain ⟨q0, q1, qP, qK, qD⟩ := q; exact ⟨q0, q1, qP, va_K.moved (u := U) (U := U.calling g mk a) (Vm.Alike.refl U.vm) qK, qD⟩, va_recv hKc hPc (ci := 7) (q0 := 0) rfl rfl, fun U hU hW => ⟨rfl, by rw [hU], by rw [hU]; exact hPc, va_K.moved hW.alike hKc, hDc.weaken (fun _ _ _ _ => trivial)⟩⟩ rfl rfl hl.1 rfl (lv_room (Nat.le_of_ble_eq_true rfl)) dX7_spreads_77 ⟨Nat.le_of_ble_eq_true rfl, Nat.le_of_ble_eq_true rfl⟩) hS (fun q _ h => hFc q h) hFc (fun r_38 u t H1 locs ht hvm hw_39 hB hz1 hk1 hS => ?_)
            obtain ⟨ns27_40, rfl⟩ : ∃ z, z = u := ⟨_, rfl⟩
            obtain ⟨hP1, hK1, hD1⟩ := hB
            have hP1 : va_P (dC, dI) vwCl [(mz, .inr (7, [.int mth, .ref mq1, .ref mq2, .ref mq3, .ref mq4, .ref mq5, .int mtd, .int mat, .int mtk, .int mpl, .int mva, .long mwd, .int mbd, .int mbp, .int mft, .int mfp, .ref mq16, .ref mq17, .ref mq18, .ref mq19, .ref mq20, .ref mq21, .int mlt, .ref mq23, .ref mq24, .ref mq25, .int msd, .ref mq27, .ref mq28, .ref mq29, .ref mq30, .ref mq31, .ref mq32, .int mlr, .int mst, .long mob, .long msb, .ref mq37, .int mln])), (mq27, .inl (mk27, 25, .inl ns27_40))] t.heap := hP1
            rw [ht] at hP1
            try dsimp only at hw_39
            obtain ⟨hp_41, hp_42⟩ := hw_39
            obtain ⟨hP, hD⟩ := va_join (wr := [(mq18, .inl (mk18, 200, .inl mf18)), (mq24, .inl (mk24, 40, .inl mf24)), (mq25, .inl (mk25, 40, .inl mf25))]) (w1 := [(mz, .inr (7, [.int mth, .ref mq1, .ref mq2, .ref mq3, .ref mq4, .ref mq5, .int mtd, .int mat, .int mtk, .int mpl, .int mva, .long mwd, .int mbd, .int mbp, .int mft, .int mfp, .ref mq16, .ref mq17, .ref mq18, .ref mq19, .ref mq20, .ref mq21, .int mlt, .ref mq23, .ref mq24, .ref mq25, .int msd, .ref mq27, .ref mq28, .ref mq29, .ref mq30, .ref mq31, .ref mq32, .int mlr, .int mst, .long mob, .long msb, .ref mq37, .int mln])), (mq27, .inl (mk27, 25, .inl ns27_40))]) hP hD [3, 4] [0, 1, 2] rfl rfl (by decide) (by decide) hk1 hFc hP1 hD1
            generalize H1 = H at hP hS ⊢
            have hP : va_P (dC, dI) vwCl [(mq18, .inl (mk18, 200, .inl mf18)), (mq24, .inl (mk24, 40, .inl mf24)), (mq25, .inl (mk25, 40, .inl mf25)), (mz, .inr (7, [.int mth, .ref mq1, .ref mq2, .ref mq3, .ref mq4, .ref mq5, .int mtd, .int mat, .int mtk, .int mpl, .int mva, .long mwd, .int mbd, .int mbp, .int mft, .int mfp, .ref mq16, .ref mq17, .ref mq18, .ref mq19, .ref mq20, .ref mq21, .int mlt, .ref mq23, .ref mq24, .ref mq25, .int msd, .ref mq27, .ref mq28, .ref mq29, .ref mq30, .ref mq31, .ref mq32, .int mlr, .int mst, .long mob, .long msb, .ref mq37, .int mln])), (mq27, .inl (mk27, 25, .inl ns27_40))] H := hP
            have hD : va_D A [(mq18, .inl (mk18, 200, .inl mf18)), (mq24, .inl (mk24, 40, .inl mf24)), (mq25, .inl (mk25, 40, .inl mf25)), (mz, .inr (7, [.int mth, .ref mq1, .ref mq2, .ref mq3, .ref mq4, .ref mq5, .int mtd, .int mat, .int mtk, .int mpl, .int mva, .long mwd, .int mbd, .int mbp, .int mft, .int mfp, .ref mq16, .ref mq17, .ref mq18, .ref mq19, .ref mq20, .ref mq21, .int mlt, .ref mq23, .ref mq24, .ref mq25, .int msd, .ref mq27, .ref mq28, .ref mq29, .ref mq30, .ref mq31, .ref mq32, .int mlr, .int mst, .long mob, .long msb, .ref mq37, .int mln])), (mq27, .inl (mk27, 25, .inl ns27_40))] := hD
            rcases hp_41 with ⟨rq_43, hd2, hn2⟩ | ⟨rq_43, hd2, hn2⟩
            · obtain rfl : r_38 = 0 := rq_43
              have hq2 : ns27_40 = nr ns27_13 (mf25 s1.toNatClampNeg).toNatClampNeg (mf24 s1.toNatClampNeg).toNatClampNeg := by rw [← ev_35, ← ev_37]; exact hd2.trans hn2.symm
              have hm2 : FM ns27_40 ≤ FM ns27_13 := by rw [hd2]; exact Nat.le_refl _
              rw [hq1] at hq2
              refine lv_if_ne (tgt := 87) hx hb dX7_spreads_80 (by decide) (fun h => absurd (by decide) h) (fun _ => ?_)
              refine lv_iload_n hx hb dX7_spreads_83 rfl (lv_at hl 0 rfl) ?_
              refine lv_if_eq (tgt := 91) hx hb dX7_spreads_84 (by decide) (fun h => absurd h (by decide)) (fun _ => ?_)
              refine lv_iconst (v := 1) hx hb dX7_spreads_87 (by decide) ?_
              refine lv_goto (tgt := 92) hx hb dX7_spreads_88 (by decide) ?_
              refine lv_istore_n (lv' := [(2, .int 1), (3, .int s1), (0, .ref mz), (1, .int 0)]) hx hb dX7_spreads_92 rfl hl (by decide) rfl (fun ls hl => ?_)
              obtain ⟨x_46, ex_46⟩ : ∃ y9 : Int32, y9 = s1 + Int32.ofInt 1 := ⟨_, rfl⟩
              have zx_46 : x_46.toInt = s1.toInt + 1 := by rw [ex_46]; exact i_add rfl (show (Int32.ofInt 1).toInt = 1 by decide) (by omega) (by omega)
              refine lv_iinc (v := x_46) (lv' := [(3, .int x_46), (2, .int 1), (0, .ref mz), (1, .int 0)]) hx hb dX7_spreads_93 hl (k := 1) rfl (by rw [ex_46]) (by decide) rfl (fun ls hl => ?_)
              refine lv_goto (tgt := 10) hx hb dX7_spreads_96 (by decide) ?_
              exact ih10 (x_46, (1 : Int32), ns27_40) _ _ _ ⟨(by have k0 : (1 : Int32).toInt = 1 := (by decide); (try dsimp only); omega), (by have k0 : (1 : Int32).toInt = 1 := (by decide); (try dsimp only); omega), (ps_step hps (i_sc (k := s1) (k2 := x_46) rfl (by omega) (by omega)) (x := x_4) (by rw [i_cn (k := x_4) rfl, i_cn (k := s1) rfl]; omega) ev_5 (Or.inl ⟨i_of (by have k9 : (0 : Int32).toInt = 0 := (by decide); omega), hq2⟩)), (by have k0 : (1 : Int32).toInt = 1 := (by decide); (try dsimp only); omega), (fun h9 => absurd h9 (show ¬ (1 : Int32).toInt = 0 by decide)), (fun h9 => by (try dsimp only); first | omega | (have hz9 := hmn (by omega); omega)), hp_42, hP.sub [3, 0, 1, 2, 4] rfl, hD.sub [3, 0, 1, 2, 4] (by decide) rfl, hS, lv_sub hl [0, 1, 2, 3] rfl⟩ (by have k0 : (1 : Int32).toInt = 1 := (by decide); (try dsimp only); omega)
            · obtain rfl : r_38 = 1 := rq_43
              have hq2 : ns27_40 = nr ns27_13 (mf25 s1.toNatClampNeg).toNatClampNeg (mf24 s1.toNatClampNeg).toNatClampNeg := by rw [← ev_35, ← ev_37]; exact hd2
              have hm2 : FM ns27_40 ≤ FM ns27_13 ∧ FM ns27_40 < FM ns27_13 := by omega
              rw [hq1] at hq2
              refine lv_if_ne (tgt := 87) hx hb dX7_spreads_80 (by decide) (fun _ => ?_) (fun h => absurd h (by decide))
              refine lv_iconst (v := 1) hx hb dX7_spreads_87 (by decide) ?_
              refine lv_goto (tgt := 92) hx hb dX7_spreads_88 (by decide) ?_
              refine lv_istore_n (lv' := [(2, .int 1), (3, .int s1), (0, .ref mz), (1, .int 0)]) hx hb dX7_spreads_92 rfl hl (by decide) rfl (fun ls hl => ?_)
              obtain ⟨x_48, ex_48⟩ : ∃ y9 : Int32, y9 = s1 + Int32.ofInt 1 := ⟨_, rfl⟩
              have zx_48 : x_48.toInt = s1.toInt + 1 := by rw [ex_48]; exact i_add rfl (show (Int32.ofInt 1).toInt = 1 by decide) (by omega) (by omega)
              refine lv_iinc (v := x_48) (lv' := [(3, .int x_48), (2, .int 1), (0, .ref mz), (1, .int 0)]) hx hb dX7_spreads_93 hl (k := 1) rfl (by rw [ex_48]) (by decide) rfl (fun ls hl => ?_)
              refine lv_goto (tgt := 10) hx hb dX7_spreads_96 (by decide) ?_
              exact ih10 (x_48, (1 : Int32), ns27_40) _ _ _ ⟨(by have k0 : (1 : Int32).toInt = 1 := (by decide); (try dsimp only); omega), (by have k0 : (1 : Int32).toInt = 1 := (by decide); (try dsimp only); omega), (ps_step hps (i_sc (k := s1) (k2 := x_48) rfl (by omega) (by omega)) (x := x_4) (by rw [i_cn (k := x_4) rfl, i_cn (k := s1) rfl]; omega) ev_5 (Or.inl ⟨i_of (by have k9 : (0 : Int32).toInt = 0 := (by decide); omega), hq2⟩)), (by have k0 : (1 : Int32).toInt = 1 := (by decide); (try dsimp only); omega), (fun h9 => absurd h9 (show ¬ (1 : Int32).toInt = 0 by decide)), (fun h9 => by (try dsimp only); first | omega | (have hz9 := hmn (by omega); omega)), hp_42, hP.sub [3, 0, 1, 2, 4] rfl, hD.sub [3, 0, 1, 2, 4] (by decide) rfl, hS, lv_sub hl [0, 1, 2, 3] rfl⟩ (by have k0 : (1 : Int32).toInt = 1 := (by decide); (try dsimp only); omega)
        · obtain rfl : r_11 = 1 := rq_16
          have hq1 : ns27_13 = nr f2 (mf24 s1.toNatClampNeg).toNatClampNeg (mf25 s1.toNatClampNeg).toNatClampNeg := by rw [← ev_8, ← ev_10]; exact hd1
          have hm1 : FM ns27_13 ≤ FM f2 ∧ FM ns27_13 < FM f2 := by omega
          refine lv_if_ne (tgt := 58) hx hb dX7_spreads_51 (by decide) (fun _ => ?_) (fun h => absurd h (by decide))
          refine lv_iconst (v := 1) hx hb dX7_spreads_58 (by decide) ?_
          refine lv_goto (tgt := 63) hx hb dX7_spreads_59 (by decide) ?_
          refine lv_istore_n (lv' := [(2, .int 1), (3, .int s1), (0, .ref mz), (1, .int 0)]) hx hb dX7_spreads_63 rfl hl (by decide) rfl (fun ls hl => ?_)
          refine lv_aload_n hx hb dX7_spreads_64 rfl (lv_at hl 2 rfl) ?_
          refine lv_aload_n hx hb dX7_spreads_65 rfl (lv_at hl 2 rfl) ?_
          refine va_get (D := (dC, dI)) (ci := 7) (v := .ref mq25) (C := RX7) (T := TX7) (N := 39) hx hb hts in_X7_spreads_0_X7 hown hK hP 3 rfl rfl 25 (by decide) (hts _ wd_X7_spreads_0_3) (fun _ h9 => h9) rfl dX7_spreads_66 ?_
          refine lv_iload_n hx hb dX7_spreads_69 rfl (lv_at hl 1 rfl) ?_
          have hin_50 : vp_in s1 40 := (i_in rfl (by omega) (by omega))
          refine va_iald hx hb hK hP 2 2 rfl rfl hin_50 dX7_spreads_70 ?_
          refine lv_topi (fun v_51 ev_51 => ?_)
          have kv_51 : v_51.toInt = (mf25 s1.toNatClampNeg).toInt := congrArg Int32.toInt ev_51
          have hv_51 := RG.at hR_mq25 hin_50 ev_51
          refine lv_aload_n hx hb dX7_spreads_71 rfl (lv_at hl 2 rfl) ?_
          refine va_get (D := (dC, dI)) (ci := 7) (v := .ref mq24) (C := RX7) (T := TX7) (N := 39) hx hb hts in_X7_spreads_0_X7 hown hK hP 3 rfl rfl 24 (by decide) (hts _ wd_X7_spreads_0_2) (fun _ h9 => h9) rfl dX7_spreads_72 ?_
          refine lv_iload_n hx hb dX7_spreads_75 rfl (lv_at hl 1 rfl) ?_
          have hin_52 : vp_in s1 40 := (i_in rfl (by omega) (by omega))
          refine va_iald hx hb hK hP 1 1 rfl rfl hin_52 dX7_spreads_76 ?_
          refine lv_topi (fun v_53 ev_53 => ?_)
          have kv_53 : v_53.toInt = (mf24 s1.toNatClampNeg).toInt := congrArg Int32.toInt ev_53
          have hv_53 := RG.at hR_mq24 hin_52 ev_53
          have hPc := hP.sub (ws' := [(mz, .inr (7, [.int mth, .ref mq1, .ref mq2, .ref mq3, .ref mq4, .ref mq5, .int mtd, .int mat, .int mtk, .int mpl, .int mva, .long mwd, .int mbd, .int mbp, .int mft, .int mfp, .ref mq16, .ref mq17, .ref mq18, .ref mq19, .ref mq20, .ref mq21, .int mlt, .ref mq23, .ref mq24, .ref mq25, .int msd, .ref mq27, .ref mq28, .ref mq29, .ref mq30, .ref mq31, .ref mq32, .int mlr, .int mst, .long mob, .long msb, .ref mq37, .int mln])), (mq27, .inl (mk27, 25, .inl ns27_13))]) [3, 4] rfl
          have hDc := hD.sub (ws' := [(mz, .inr (7, [.int mth, .ref mq1, .ref mq2, .ref mq3, .ref mq4, .ref mq5, .int mtd, .int mat, .int mtk, .int mpl, .int mva, .long mwd, .int mbd, .int mbp, .int mft, .int mfp, .ref mq16, .ref mq17, .ref mq18, .ref mq19, .ref mq20, .ref mq21, .int mlt, .ref mq23, .ref mq24, .ref mq25, .int msd, .ref mq27, .ref mq28, .ref mq29, .ref mq30, .ref mq31, .ref mq32, .int mlr, .int mst, .long mob, .long msb, .ref mq37, .int mln])), (mq27, .inl (mk27, 25, .inl ns27_13))]) [3, 4] (by decide) rfl
          have hKc := hK.sub (tys' := [(mk27, .int)]) [3] rfl
          have hFc := va_free (wc := [(mz, .inr (7, [.int mth, .ref mq1, .ref mq2, .ref mq3, .ref mq4, .ref mq5, .int mtd, .int mat, .int mtk, .int mpl, .int mva, .long mwd, .int mbd, .int mbp, .int mft, .int mfp, .ref mq16, .ref mq17, .ref mq18, .ref mq19, .ref mq20, .ref mq21, .int mlt, .ref mq23, .ref mq24, .ref mq25, .int msd, .ref mq27, .ref mq28, .ref mq29, .ref mq30, .ref mq31, .ref mq32, .int mlr, .int mst, .long mob, .long msb, .ref mq37, .int mln])), (mq27, .inl (mk27, 25, .inl ns27_13))]) hD hS hA [3, 4] rfl
          refine va_calli (va_runV (As := [.int v_51, .int v_53]) (rest := []) ⟨hx, hb, hml, hown, hts⟩ (c_X7_nears l dC dI H.size mz mth mq1 mq2 mq3 mq4 mq5 mtd mat mtk mpl mva mwd mbd mbp mft mfp mq16 mq17 mq18 mq19 mq20 mq21 mlt mq23 mq24 mq25 msd mq27 mq28 mq29 mq30 mq31 mq32 mlr mst mob msb mq37 mln mk27 ns27_13 v_51 v_53 (by omega) (by omega) hp_15) (cwV 2 hts g_X7_spreads_0_X7_nears rfl rfl rfl (by decide +kernel) ⟨Nat.le_of_ble_eq_true rfl, Nat.le_of_ble_eq_true rfl⟩) ⟨fun a U g mk q => by obtain ⟨q0, q1, qP, qK, qD⟩ := q; exact ⟨q0, q1, qP, va_K.moved (u := U) (U := U.calling g mk a) (Vm.Alike.refl U.vm) qK, qD⟩, va_recv hKc hPc (ci := 7) (q0 := 0) rfl rfl, fun U hU hW => ⟨rfl, by rw [hU], by rw [hU]; exact hPc, va_K.moved hW.alike hKc, hDc.weaken (fun _ _ _ _ => trivial)⟩⟩ rfl rfl hl.1 rfl (lv_room (Nat.le_of_ble_eq_true rfl)) dX7_spreads_77 ⟨Nat.le_of_ble_eq_true rfl, Nat.le_of_ble_eq_true rfl⟩) hS (fun q _ h => hFc q h) hFc (fun r_54 u t H1 locs ht hvm hw_55 hB hz1 hk1 hS => ?_)
          obtain ⟨ns27_56, rfl⟩ : ∃ z, z = u := ⟨_, rfl⟩
          obtain ⟨hP1, hK1, hD1⟩ := hB
          have hP1 : va_P (dC, dI) vwCl [(mz, .inr (7, [.int mth, .ref mq1, .ref mq2, .ref mq3, .ref mq4, .ref mq5, .int mtd, .int mat, .int mtk, .int mpl, .int mva, .long mwd, .int mbd, .int mbp, .int mft, .int mfp, .ref mq16, .ref mq17, .ref mq18, .ref mq19, .ref mq20, .ref mq21, .int mlt, .ref mq23, .ref mq24, .ref mq25, .int msd, .ref mq27, .ref mq28, .ref mq29, .ref mq30, .ref mq31, .ref mq32, .int mlr, .int mst, .long mob, .long msb, .ref mq37, .int mln])), (mq27, .inl (mk27, 25, .inl ns27_56))] t.heap := hP1
          rw [ht] at hP1
          try dsimp only at hw_55
          obtain ⟨hp_57, hp_58⟩ := hw_55
          obtain ⟨hP, hD⟩ := va_join (wr := [(mq18, .inl (mk18, 200, .inl mf18)), (mq24, .inl (mk24, 40, .inl mf24)), (mq25, .inl (mk25, 40, .inl mf25))]) (w1 := [(mz, .inr (7, [.int mth, .ref mq1, .ref mq2, .ref mq3, .ref mq4, .ref mq5, .int mtd, .int mat, .int mtk, .int mpl, .int mva, .long mwd, .int mbd, .int mbp, .int mft, .int mfp, .ref mq16, .ref mq17, .ref mq18, .ref mq19, .ref mq20, .ref mq21, .int mlt, .ref mq23, .ref mq24, .ref mq25, .int msd, .ref mq27, .ref mq28, .ref mq29, .ref mq30, .ref mq31, .ref mq32, .int mlr, .int mst, .long mob, .long msb, .ref mq37, .int mln])), (mq27, .inl (mk27, 25, .inl ns27_56))]) hP hD [3, 4] [0, 1, 2] rfl rfl (by decide) (by decide) hk1 hFc hP1 hD1
          generalize H1 = H at hP hS ⊢
          have hP : va_P (dC, dI) vwCl [(mq18, .inl (mk18, 200, .inl mf18)), (mq24, .inl (mk24, 40, .inl mf24)), (mq25, .inl (mk25, 40, .inl mf25)), (mz, .inr (7, [.int mth, .ref mq1, .ref mq2, .ref mq3, .ref mq4, .ref mq5, .int mtd, .int mat, .int mtk, .int mpl, .int mva, .long mwd, .int mbd, .int mbp, .int mft, .int mfp, .ref mq16, .ref mq17, .ref mq18, .ref mq19, .ref mq20, .ref mq21, .int mlt, .ref mq23, .ref mq24, .ref mq25, .int msd, .ref mq27, .ref mq28, .ref mq29, .ref mq30, .ref mq31, .ref mq32, .int mlr, .int mst, .long mob, .long msb, .ref mq37, .int mln])), (mq27, .inl (mk27, 25, .inl ns27_56))] H := hP
          have hD : va_D A [(mq18, .inl (mk18, 200, .inl mf18)), (mq24, .inl (mk24, 40, .inl mf24)), (mq25, .inl (mk25, 40, .inl mf25)), (mz, .inr (7, [.int mth, .ref mq1, .ref mq2, .ref mq3, .ref mq4, .ref mq5, .int mtd, .int mat, .int mtk, .int mpl, .int mva, .long mwd, .int mbd, .int mbp, .int mft, .int mfp, .ref mq16, .ref mq17, .ref mq18, .ref mq19, .ref mq20, .ref mq21, .int mlt, .ref mq23, .ref mq24, .ref mq25, .int msd, .ref mq27, .ref mq28, .ref mq29, .ref mq30, .ref mq31, .ref mq32, .int mlr, .int mst, .long mob, .long msb, .ref mq37, .int mln])), (mq27, .inl (mk27, 25, .inl ns27_56))] := hD
          rcases hp_57 with ⟨rq_59, hd2, hn2⟩ | ⟨rq_59, hd2, hn2⟩
          · obtain rfl : r_54 = 0 := rq_59
            have hq2 : ns27_56 = nr ns27_13 (mf25 s1.toNatClampNeg).toNatClampNeg (mf24 s1.toNatClampNeg).toNatClampNeg := by rw [← ev_51, ← ev_53]; exact hd2.trans hn2.symm
            have hm2 : FM ns27_56 ≤ FM ns27_13 := by rw [hd2]; exact Nat.le_refl _
            rw [hq1] at hq2
            refine lv_if_ne (tgt := 87) hx hb dX7_spreads_80 (by decide) (fun h => absurd (by decide) h) (fun _ => ?_)
            refine lv_iload_n hx hb dX7_spreads_83 rfl (lv_at hl 0 rfl) ?_
            refine lv_if_eq (tgt := 91) hx hb dX7_spreads_84 (by decide) (fun h => absurd h (by decide)) (fun _ => ?_)
            refine lv_iconst (v := 1) hx hb dX7_spreads_87 (by decide) ?_
            refine lv_goto (tgt := 92) hx hb dX7_spreads_88 (by decide) ?_
            refine lv_istore_n (lv' := [(2, .int 1), (3, .int s1), (0, .ref mz), (1, .int 0)]) hx hb dX7_spreads_92 rfl hl (by decide) rfl (fun ls hl => ?_)
            obtain ⟨x_62, ex_62⟩ : ∃ y9 : Int32, y9 = s1 + Int32.ofInt 1 := ⟨_, rfl⟩
            have zx_62 : x_62.toInt = s1.toInt + 1 := by rw [ex_62]; exact i_add rfl (show (Int32.ofInt 1).toInt = 1 by decide) (by omega) (by omega)
            refine lv_iinc (v := x_62) (lv' := [(3, .int x_62), (2, .int 1), (0, .ref mz), (1, .int 0)]) hx hb dX7_spreads_93 hl (k := 1) rfl (by rw [ex_62]) (by decide) rfl (fun ls hl => ?_)
            refine lv_goto (tgt := 10) hx hb dX7_spreads_96 (by decide) ?_
            exact ih10 (x_62, (1 : Int32), ns27_56) _ _ _ ⟨(by have k0 : (1 : Int32).toInt = 1 := (by decide); (try dsimp only); omega), (by have k0 : (1 : Int32).toInt = 1 := (by decide); (try dsimp only); omega), (ps_step hps (i_sc (k := s1) (k2 := x_62) rfl (by omega) (by omega)) (x := x_4) (by rw [i_cn (k := x_4) rfl, i_cn (k := s1) rfl]; omega) ev_5 (Or.inl ⟨i_of (by have k9 : (0 : Int32).toInt = 0 := (by decide); omega), hq2⟩)), (by have k0 : (1 : Int32).toInt = 1 := (by decide); (try dsimp only); omega), (fun h9 => absurd h9 (show ¬ (1 : Int32).toInt = 0 by decide)), (fun h9 => by (try dsimp only); first | omega | (have hz9 := hmn (by omega); omega)), hp_58, hP.sub [3, 0, 1, 2, 4] rfl, hD.sub [3, 0, 1, 2, 4] (by decide) rfl, hS, lv_sub hl [0, 1, 2, 3] rfl⟩ (by have k0 : (1 : Int32).toInt = 1 := (by decide); (try dsimp only); omega)
          · obtain rfl : r_54 = 1 := rq_59
            have hq2 : ns27_56 = nr ns27_13 (mf25 s1.toNatClampNeg).toNatClampNeg (mf24 s1.toNatClampNeg).toNatClampNeg := by rw [← ev_51, ← ev_53]; exact hd2
            have hm2 : FM ns27_56 ≤ FM ns27_13 ∧ FM ns27_56 < FM ns27_13 := by omega
            rw [hq1] at hq2
            refine lv_if_ne (tgt := 87) hx hb dX7_spreads_80 (by decide) (fun _ => ?_) (fun h => absurd h (by decide))
            refine lv_iconst (v := 1) hx hb dX7_spreads_87 (by decide) ?_
            refine lv_goto (tgt := 92) hx hb dX7_spreads_88 (by decide) ?_
            refine lv_istore_n (lv' := [(2, .int 1), (3, .int s1), (0, .ref mz), (1, .int 0)]) hx hb dX7_spreads_92 rfl hl (by decide) rfl (fun ls hl => ?_)
            obtain ⟨x_64, ex_64⟩ : ∃ y9 : Int32, y9 = s1 + Int32.ofInt 1 := ⟨_, rfl⟩
            have zx_64 : x_64.toInt = s1.toInt + 1 := by rw [ex_64]; exact i_add rfl (show (Int32.ofInt 1).toInt = 1 by decide) (by omega) (by omega)
            refine lv_iinc (v := x_64) (lv' := [(3, .int x_64), (2, .int 1), (0, .ref mz), (1, .int 0)]) hx hb dX7_spreads_93 hl (k := 1) rfl (by rw [ex_64]) (by decide) rfl (fun ls hl => ?_)
            refine lv_goto (tgt := 10) hx hb dX7_spreads_96 (by decide) ?_
            exact ih10 (x_64, (1 : Int32), ns27_56) _ _ _ ⟨(by have k0 : (1 : Int32).toInt = 1 := (by decide); (try dsimp only); omega), (by have k0 : (1 : Int32).toInt = 1 := (by decide); (try dsimp only); omega), (ps_step hps (i_sc (k := s1) (k2 := x_64) rfl (by omega) (by omega)) (x := x_4) (by rw [i_cn (k := x_4) rfl, i_cn (k := s1) rfl]; omega) ev_5 (Or.inl ⟨i_of (by have k9 : (0 : Int32).toInt = 0 := (by decide); omega), hq2⟩)), (by have k0 : (1 : Int32).toInt = 1 := (by decide); (try dsimp only); omega), (fun h9 => absurd h9 (show ¬ (1 : Int32).toInt = 0 by decide)), (fun h9 => by (try dsimp only); first | omega | (have hz9 := hmn (by omega); omega)), hp_58, hP.sub [3, 0, 1, 2, 4] rfl, hD.sub [3, 0, 1, 2, 4] (by decide) rfl, hS, lv_sub hl [0, 1, 2, 3] rfl⟩ (by have k0 : (1 : Int32).toInt = 1 := (by decide); (try dsimp only); omega)
      · have c_6 : v_5.toInt ≠ 0 := i_ne (a := v_5) (b := 0) rfl (by decide) c_6
        refine lv_goto (tgt := 93) hx hb dX7_spreads_32 (by decide) ?_
        obtain ⟨x_65, ex_65⟩ : ∃ y9 : Int32, y9 = s1 + Int32.ofInt 1 := ⟨_, rfl⟩
        have zx_65 : x_65.toInt = s1.toInt + 1 := by rw [ex_65]; exact i_add rfl (show (Int32.ofInt 1).toInt = 1 by decide) (by omega) (by omega)
        refine lv_iinc (v := x_65) (lv' := [(3, .int x_65), (2, .int mo2), (0, .ref mz), (1, .int 0)]) hx hb dX7_spreads_93 hl (k := 0) rfl (by rw [ex_65]) (by decide) rfl (fun ls hl => ?_)
        refine lv_goto (tgt := 10) hx hb dX7_spreads_96 (by decide) ?_
        exact ih10 (x_65, mo2, f2) _ _ _ ⟨(by (try dsimp only); omega), (by (try dsimp only); omega), (ps_step hps (i_sc (k := s1) (k2 := x_65) rfl (by omega) (by omega)) (x := x_4) (by rw [i_cn (k := x_4) rfl, i_cn (k := s1) rfl]; omega) ev_5 (Or.inr ⟨fun q9 => absurd (congrArg Int32.toInt q9) (by have k9 : (0 : Int32).toInt = 0 := (by decide); rw [k9]; omega), rfl⟩)), (by (try dsimp only); omega), hmz, hmn, hFI2, hP.sub [0, 1, 2, 3, 4] rfl, hD.sub [0, 1, 2, 3, 4] (by decide) rfl, hS, lv_sub hl [0, 1, 2, 3] rfl⟩ (by (try dsimp only); omega)

def wz_X7_spreads_4 : List Cond := .code yX7_spreads cX7_spreads 4 none :: ([Cond.fieldLink RX7 162 "HedgeMazeModel" "sides" "I", Cond.fieldLink RX7 37 "HedgeMazeModel" "state" "[I", Cond.fieldLink RX7 53 "HedgeMazeModel" "first" "[I", Cond.fieldLink RX7 56 "HedgeMazeModel" "second" "[I", Cond.methodLink RX7 269 yX7_nears, Cond.instanceMethod yX7_nears, Cond.selects RX7 yX7_nears yX7_nears, Cond.initialized RX7, Cond.code yX7_nears cX7_nears 3 (some .boolean), Cond.fieldLink RX7 59 "HedgeMazeModel" "far" "[I"] ++ wsX70)
theorem wd_X7_spreads_4_0 : Cond.fieldLink RX7 162 "HedgeMazeModel" "sides" "I" ∈ wz_X7_spreads_4 := List.mem_of_getElem? (i := 1) rfl
theorem wd_X7_spreads_4_1 : Cond.fieldLink RX7 37 "HedgeMazeModel" "state" "[I" ∈ wz_X7_spreads_4 := List.mem_of_getElem? (i := 2) rfl
theorem wd_X7_spreads_4_2 : Cond.fieldLink RX7 53 "HedgeMazeModel" "first" "[I" ∈ wz_X7_spreads_4 := List.mem_of_getElem? (i := 3) rfl
theorem wd_X7_spreads_4_3 : Cond.fieldLink RX7 56 "HedgeMazeModel" "second" "[I" ∈ wz_X7_spreads_4 := List.mem_of_getElem? (i := 4) rfl
theorem in_X7_spreads_4_X7 : ∀ w ∈ wsX70, w ∈ wz_X7_spreads_4 := fun _ h => List.mem_cons_of_mem _ (List.mem_append_right _ h)
set_option maxRecDepth 20000 in
theorem g_X7_spreads_4_X7_nears : GoodIn wz_X7_spreads_4 (wsV RX7 269 RX7 yX7_nears wz_X7_nears) := goodIn_r _ [5, 6, 7, 8, 9, 10, 11, 12, 13, 14, 15, 16, 17, 18, 19, 20, 21, 22, 23, 24, 25, 26, 27, 28, 29, 30, 31, 32, 33, 34, 35, 36, 37, 38, 39, 40, 41, 42, 43, 44, 45, 46, 47, 48, 49] rfl (by decide +kernel)
set_option maxHeartbeats 4000000 in
set_option maxRecDepth 100000 in
theorem c_X7_spreads_4 (l : Launch) (dC : Nat → ClassId) (dI : Nat → Nat → Nat) (sz : Nat) (mz : Nat) (mth : Int32) (mq1 : Nat) (mq2 : Nat) (mq3 : Nat) (mq4 : Nat) (mq5 : Nat) (mtd : Int32) (mat : Int32) (mtk : Int32) (mpl : Int32) (mva : Int32) (mwd : Int64) (mbd : Int32) (mbp : Int32) (mft : Int32) (mfp : Int32) (mq16 : Nat) (mq17 : Nat) (mq18 : Nat) (mq19 : Nat) (mq20 : Nat) (mq21 : Nat) (mlt : Int32) (mq23 : Nat) (mq24 : Nat) (mq25 : Nat) (msd : Int32) (mq27 : Nat) (mq28 : Nat) (mq29 : Nat) (mq30 : Nat) (mq31 : Nat) (mq32 : Nat) (mlr : Int32) (mst : Int32) (mob : Int64) (msb : Int64) (mq37 : Nat) (mln : Int32) (mk18 : ClassId) (mf18 : Nat → Int32) (mk24 : ClassId) (mf24 : Nat → Int32) (mk25 : ClassId) (mf25 : Nat → Int32) (mk27 : ClassId) (mf27 : Nat → Int32) (h_sd : 0 ≤ msd.toInt ∧ msd.toInt ≤ 40) (hR_mq24 : RG mf24 40 0 24) (hR_mq25 : RG mf25 40 0 24) (hR_mq27 : FI mf27) : Met l yX7_spreads wz_X7_spreads_4 ({ frames := 1, cells := 0, slots := 0, locals := 22 }) (va_Pc [.ref mz, .int 4] (fun U => U.heap.size = sz ∧ va_P (dC, dI) vwCl [(mz, .inr (7, [.int mth, .ref mq1, .ref mq2, .ref mq3, .ref mq4, .ref mq5, .int mtd, .int mat, .int mtk, .int mpl, .int mva, .long mwd, .int mbd, .int mbp, .int mft, .int mfp, .ref mq16, .ref mq17, .ref mq18, .ref mq19, .ref mq20, .ref mq21, .int mlt, .ref mq23, .ref mq24, .ref mq25, .int msd, .ref mq27, .ref mq28, .ref mq29, .ref mq30, .ref mq31, .ref mq32, .int mlr, .int mst, .long mob, .long msb, .ref mq37, .int mln])), (mq18, .inl (mk18, 200, .inl mf18)), (mq24, .inl (mk24, 40, .inl mf24)), (mq25, .inl (mk25, 40, .inl mf25)), (mq27, .inl (mk27, 25, .inl mf27))] U.heap ∧ va_K (dC, dI) vwCl [(mk18, .int), (mk24, .int), (mk25, .int), (mk27, .int)] U ∧ va_D (fun _ => True) [(mz, .inr (7, [.int mth, .ref mq1, .ref mq2, .ref mq3, .ref mq4, .ref mq5, .int mtd, .int mat, .int mtk, .int mpl, .int mva, .long mwd, .int mbd, .int mbp, .int mft, .int mfp, .ref mq16, .ref mq17, .ref mq18, .ref mq19, .ref mq20, .ref mq21, .int mlt, .ref mq23, .ref mq24, .ref mq25, .int msd, .ref mq27, .ref mq28, .ref mq29, .ref mq30, .ref mq31, .ref mq32, .int mlr, .int mst, .long mob, .long msb, .ref mq37, .int mln])), (mq18, .inl (mk18, 200, .inl mf18)), (mq24, .inl (mk24, 40, .inl mf24)), (mq25, .inl (mk25, 40, .inl mf25)), (mq27, .inl (mk27, 25, .inl mf27))])) (va_Qv (fun (u : (Nat → Int32)) => (SPD (ps mf18 mf24 mf25 160 msd.toNatClampNeg) mf27 u) ∧ (FI u)) (fun (u : (Nat → Int32)) (t : State) => va_P (dC, dI) vwCl [(mz, .inr (7, [.int mth, .ref mq1, .ref mq2, .ref mq3, .ref mq4, .ref mq5, .int mtd, .int mat, .int mtk, .int mpl, .int mva, .long mwd, .int mbd, .int mbp, .int mft, .int mfp, .ref mq16, .ref mq17, .ref mq18, .ref mq19, .ref mq20, .ref mq21, .int mlt, .ref mq23, .ref mq24, .ref mq25, .int msd, .ref mq27, .ref mq28, .ref mq29, .ref mq30, .ref mq31, .ref mq32, .int mlr, .int mst, .long mob, .long msb, .ref mq37, .int mln])), (mq18, .inl (mk18, 200, .inl mf18)), (mq24, .inl (mk24, 40, .inl mf24)), (mq25, .inl (mk25, 40, .inl mf25)), (mq27, .inl (mk27, 25, .inl u))] t.heap ∧ va_K (dC, dI) vwCl [] t ∧ va_D (va_A [(mz, .inr (7, [.int mth, .ref mq1, .ref mq2, .ref mq3, .ref mq4, .ref mq5, .int mtd, .int mat, .int mtk, .int mpl, .int mva, .long mwd, .int mbd, .int mbp, .int mft, .int mfp, .ref mq16, .ref mq17, .ref mq18, .ref mq19, .ref mq20, .ref mq21, .int mlt, .ref mq23, .ref mq24, .ref mq25, .int msd, .ref mq27, .ref mq28, .ref mq29, .ref mq30, .ref mq31, .ref mq32, .int mlr, .int mst, .long mob, .long msb, .ref mq37, .int mln])), (mq18, .inl (mk18, 200, .inl mf18)), (mq24, .inl (mk24, 40, .inl mf24)), (mq25, .inl (mk25, 40, .inl mf25)), (mq27, .inl (mk27, 25, .inl mf27))] sz) [(mz, .inr (7, [.int mth, .ref mq1, .ref mq2, .ref mq3, .ref mq4, .ref mq5, .int mtd, .int mat, .int mtk, .int mpl, .int mva, .long mwd, .int mbd, .int mbp, .int mft, .int mfp, .ref mq16, .ref mq17, .ref mq18, .ref mq19, .ref mq20, .ref mq21, .int mlt, .ref mq23, .ref mq24, .ref mq25, .int msd, .ref mq27, .ref mq28, .ref mq29, .ref mq30, .ref mq31, .ref mq32, .int mlr, .int mst, .long mob, .long msb, .ref mq37, .int mln])), (mq18, .inl (mk18, 200, .inl mf18)), (mq24, .inl (mk24, 40, .inl mf24)), (mq25, .inl (mk25, 40, .inl mf25)), (mq27, .inl (mk27, 25, .inl u))]) (va_A [(mz, .inr (7, [.int mth, .ref mq1, .ref mq2, .ref mq3, .ref mq4, .ref mq5, .int mtd, .int mat, .int mtk, .int mpl, .int mva, .long mwd, .int mbd, .int mbp, .int mft, .int mfp, .ref mq16, .ref mq17, .ref mq18, .ref mq19, .ref mq20, .ref mq21, .int mlt, .ref mq23, .ref mq24, .ref mq25, .int msd, .ref mq27, .ref mq28, .ref mq29, .ref mq30, .ref mq31, .ref mq32, .int mlr, .int mst, .long mob, .long msb, .ref mq37, .int mln])), (mq18, .inl (mk18, 200, .inl mf18)), (mq24, .inl (mk24, 40, .inl mf24)), (mq25, .inl (mk25, 40, .inl mf25)), (mq27, .inl (mk27, 25, .inl mf27))] sz)) 0 0 (va_A [(mz, .inr (7, [.int mth, .ref mq1, .ref mq2, .ref mq3, .ref mq4, .ref mq5, .int mtd, .int mat, .int mtk, .int mpl, .int mva, .long mwd, .int mbd, .int mbp, .int mft, .int mfp, .ref mq16, .ref mq17, .ref mq18, .ref mq19, .ref mq20, .ref mq21, .int mlt, .ref mq23, .ref mq24, .ref mq25, .int msd, .ref mq27, .ref mq28, .ref mq29, .ref mq30, .ref mq31, .ref mq32, .int mlr, .int mst, .long mob, .long msb, .ref mq37, .int mln])), (mq18, .inl (mk18, 200, .inl mf18)), (mq24, .inl (mk24, 40, .inl mf24)), (mq25, .inl (mk25, 40, .inl mf25)), (mq27, .inl (mk27, 25, .inl mf27))] sz) := by
  refine Met.ofW (cc := cX7_spreads) (maxL := 4) (ret := none) (by decide) rfl ?_
  intro p e s m args below meth c s₁ B hml hv
  obtain ⟨rfl, hsz, hP, hK, hD0⟩ := hv
  have hx := B.exec
  have hb := B.bytes
  have hr := B.returns
  have hts := atoms_spec (ws := wz_X7_spreads_4) B.pre
  have hown : s.vm.findClass RX7 = some m.cls := findClass_of_methodNamed B.named
  have hlocks := B.notSynchronized
  subst hsz
  have hD := hD0.self (sz := s.heap.size)
  generalize hAe : va_A [(mz, .inr (7, [.int mth, .ref mq1, .ref mq2, .ref mq3, .ref mq4, .ref mq5, .int mtd, .int mat, .int mtk, .int mpl, .int mva, .long mwd, .int mbd, .int mbp, .int mft, .int mfp, .ref mq16, .ref mq17, .ref mq18, .ref mq19, .ref mq20, .ref mq21, .int mlt, .ref mq23, .ref mq24, .ref mq25, .int msd, .ref mq27, .ref mq28, .ref mq29, .ref mq30, .ref mq31, .ref mq32, .int mlr, .int mst, .long mob, .long msb, .ref mq37, .int mln])), (mq18, .inl (mk18, 200, .inl mf18)), (mq24, .inl (mk24, 40, .inl mf24)), (mq25, .inl (mk25, 40, .inl mf25)), (mq27, .inl (mk27, 25, .inl mf27))] s.heap.size = A at hD ⊢
  have hA : ∀ q : Nat, s.heap.size ≤ q → A q := fun q h => by rw [← hAe]; exact Or.inr h
  have hS : va_S A s.heap s.heap [] := va_S.rf
  have hP : va_P (dC, dI) vwCl [(mz, .inr (7, [.int mth, .ref mq1, .ref mq2, .ref mq3, .ref mq4, .ref mq5, .int mtd, .int mat, .int mtk, .int mpl, .int mva, .long mwd, .int mbd, .int mbp, .int mft, .int mfp, .ref mq16, .ref mq17, .ref mq18, .ref mq19, .ref mq20, .ref mq21, .int mlt, .ref mq23, .ref mq24, .ref mq25, .int msd, .ref mq27, .ref mq28, .ref mq29, .ref mq30, .ref mq31, .ref mq32, .int mlr, .int mst, .long mob, .long msb, .ref mq37, .int mln])), (mq18, .inl (mk18, 200, .inl mf18)), (mq24, .inl (mk24, 40, .inl mf24)), (mq25, .inl (mk25, 40, .inl mf25)), (mq27, .inl (mk27, 25, .inl mf27))] s.heap := hP
  have hl := lv_entry ([.ref mz, .int 4]) (n := 4) (Nat.le_of_ble_eq_true rfl)
  rw [lg_entry_eq]
  generalize (lg_sl ([.ref mz, .int 4]) ++ List.replicate (4 - (lg_sl ([.ref mz, .int 4])).length) Slot.unset).toArray = ls at hl ⊢
  have hl : lv_has ls 4 [(0, .ref mz), (1, .int 4)] := hl
  refine lv_iconst (v := 1) hx hb dX7_spreads_0 (by decide) ?_
  refine lv_istore_n (lv' := [(2, .int 1), (0, .ref mz), (1, .int 4)]) hx hb dX7_spreads_1 rfl hl (by decide) rfl (fun ls hl => ?_)
  refine lp_W (I := fun (a : Int32 × (Nat → Int32)) H locs ls => (0 ≤ a.1.toInt ∧ a.1.toInt ≤ 1) ∧ (∃ j, a.2 = it (ps mf18 mf24 mf25 160 msd.toNatClampNeg) j mf27) ∧ (a.1.toInt = 0 → ps mf18 mf24 mf25 160 msd.toNatClampNeg a.2 = a.2) ∧ (FI a.2) ∧ va_P (dC, dI) vwCl [(mz, .inr (7, [.int mth, .ref mq1, .ref mq2, .ref mq3, .ref mq4, .ref mq5, .int mtd, .int mat, .int mtk, .int mpl, .int mva, .long mwd, .int mbd, .int mbp, .int mft, .int mfp, .ref mq16, .ref mq17, .ref mq18, .ref mq19, .ref mq20, .ref mq21, .int mlt, .ref mq23, .ref mq24, .ref mq25, .int msd, .ref mq27, .ref mq28, .ref mq29, .ref mq30, .ref mq31, .ref mq32, .int mlr, .int mst, .long mob, .long msb, .ref mq37, .int mln])), (mq18, .inl (mk18, 200, .inl mf18)), (mq24, .inl (mk24, 40, .inl mf24)), (mq25, .inl (mk25, 40, .inl mf25)), (mq27, .inl (mk27, 25, .inl a.2))] H ∧ va_D A [(mz, .inr (7, [.int mth, .ref mq1, .ref mq2, .ref mq3, .ref mq4, .ref mq5, .int mtd, .int mat, .int mtk, .int mpl, .int mva, .long mwd, .int mbd, .int mbp, .int mft, .int mfp, .ref mq16, .ref mq17, .ref mq18, .ref mq19, .ref mq20, .ref mq21, .int mlt, .ref mq23, .ref mq24, .ref mq25, .int msd, .ref mq27, .ref mq28, .ref mq29, .ref mq30, .ref mq31, .ref mq32, .int mlr, .int mst, .long mob, .long msb, .ref mq37, .int mln])), (mq18, .inl (mk18, 200, .inl mf18)), (mq24, .inl (mk24, 40, .inl mf24)), (mq25, .inl (mk25, 40, .inl mf25)), (mq27, .inl (mk27, 25, .inl a.2))] ∧ va_S A s.heap H locs ∧ lv_has ls 4 [(2, .int a.1), (0, .ref mz), (1, .int 4)]) (μ := fun a => 2 * FM a.2 + a.1.toInt.toNat) ?_ ((1 : Int32), mf27) ⟨(by have k0 : (1 : Int32).toInt = 1 := (by decide); (try dsimp only); omega), ⟨0, rfl⟩, (fun h9 => absurd h9 (show ¬ (1 : Int32).toInt = 0 by decide)), hR_mq27, hP.sub [0, 1, 2, 3, 4] rfl, hD.sub [0, 1, 2, 3, 4] (by decide) rfl, hS, lv_sub hl [0, 1, 2] rfl⟩
  intro a H locs ls hI ih2
  obtain ⟨mo1, f1⟩ := a
  obtain ⟨h_mo1, hit, hfx, hFI, hP, hD, hS, hl⟩ := hI
  have h_mo1 : 0 ≤ mo1.toInt ∧ mo1.toInt ≤ 1 := h_mo1
  have hit : ∃ j, f1 = it (ps mf18 mf24 mf25 160 msd.toNatClampNeg) j mf27 := hit
  have hfx : mo1.toInt = 0 → ps mf18 mf24 mf25 160 msd.toNatClampNeg f1 = f1 := hfx
  have hFI : FI f1 := hFI
  have hP : va_P (dC, dI) vwCl [(mz, .inr (7, [.int mth, .ref mq1, .ref mq2, .ref mq3, .ref mq4, .ref mq5, .int mtd, .int mat, .int mtk, .int mpl, .int mva, .long mwd, .int mbd, .int mbp, .int mft, .int mfp, .ref mq16, .ref mq17, .ref mq18, .ref mq19, .ref mq20, .ref mq21, .int mlt, .ref mq23, .ref mq24, .ref mq25, .int msd, .ref mq27, .ref mq28, .ref mq29, .ref mq30, .ref mq31, .ref mq32, .int mlr, .int mst, .long mob, .long msb, .ref mq37, .int mln])), (mq18, .inl (mk18, 200, .inl mf18)), (mq24, .inl (mk24, 40, .inl mf24)), (mq25, .inl (mk25, 40, .inl mf25)), (mq27, .inl (mk27, 25, .inl f1))] H := hP
  have hD : va_D A [(mz, .inr (7, [.int mth, .ref mq1, .ref mq2, .ref mq3, .ref mq4, .ref mq5, .int mtd, .int mat, .int mtk, .int mpl, .int mva, .long mwd, .int mbd, .int mbp, .int mft, .int mfp, .ref mq16, .ref mq17, .ref mq18, .ref mq19, .ref mq20, .ref mq21, .int mlt, .ref mq23, .ref mq24, .ref mq25, .int msd, .ref mq27, .ref mq28, .ref mq29, .ref mq30, .ref mq31, .ref mq32, .int mlr, .int mst, .long mob, .long msb, .ref mq37, .int mln])), (mq18, .inl (mk18, 200, .inl mf18)), (mq24, .inl (mk24, 40, .inl mf24)), (mq25, .inl (mk25, 40, .inl mf25)), (mq27, .inl (mk27, 25, .inl f1))] := hD
  have hl : lv_has ls 4 [(2, .int mo1), (0, .ref mz), (1, .int 4)] := hl
  refine lv_iload_n hx hb dX7_spreads_2 rfl (lv_at hl 0 rfl) ?_
  refine lv_if_eq (tgt := 102) hx hb dX7_spreads_3 (by decide) (fun c_1 => ?_) (fun c_1 => ?_)
  · have c_1 : mo1.toInt = 0 := i_eq (a := mo1) (b := 0) rfl (by decide) c_1
    have hP9 := hP.sub (ws' := [(mz, .inr (7, [.int mth, .ref mq1, .ref mq2, .ref mq3, .ref mq4, .ref mq5, .int mtd, .int mat, .int mtk, .int mpl, .int mva, .long mwd, .int mbd, .int mbp, .int mft, .int mfp, .ref mq16, .ref mq17, .ref mq18, .ref mq19, .ref mq20, .ref mq21, .int mlt, .ref mq23, .ref mq24, .ref mq25, .int msd, .ref mq27, .ref mq28, .ref mq29, .ref mq30, .ref mq31, .ref mq32, .int mlr, .int mst, .long mob, .long msb, .ref mq37, .int mln])), (mq18, .inl (mk18, 200, .inl mf18)), (mq24, .inl (mk24, 40, .inl mf24)), (mq25, .inl (mk25, 40, .inl mf25)), (mq27, .inl (mk27, 25, .inl f1))]) [0, 1, 2, 3, 4] rfl
    have hD9 := hD.sub (ws' := [(mz, .inr (7, [.int mth, .ref mq1, .ref mq2, .ref mq3, .ref mq4, .ref mq5, .int mtd, .int mat, .int mtk, .int mpl, .int mva, .long mwd, .int mbd, .int mbp, .int mft, .int mfp, .ref mq16, .ref mq17, .ref mq18, .ref mq19, .ref mq20, .ref mq21, .int mlt, .ref mq23, .ref mq24, .ref mq25, .int msd, .ref mq27, .ref mq28, .ref mq29, .ref mq30, .ref mq31, .ref mq32, .int mlr, .int mst, .long mob, .long msb, .ref mq37, .int mln])), (mq18, .inl (mk18, 200, .inl mf18)), (mq24, .inl (mk24, 40, .inl mf24)), (mq25, .inl (mk25, 40, .inl mf25)), (mq27, .inl (mk27, 25, .inl f1))]) [0, 1, 2, 3, 4] (by decide) rfl
    have hK9 := hK.sub (tys' := []) [] rfl
    refine W.widen (k := 0) (n := 0) (by omega) (by omega) ?_
    exact W.vret hx hb hr (fun t ht hW => ⟨⟨(f1), rfl, ⟨⟨hit, hfx (by omega)⟩, hFI⟩, by rw [ht]; exact hP9, va_K.moved hW.alike hK9, hD9⟩, hS.F ht⟩) hS.2.2 dX7_spreads_102
  · have c_1 : mo1.toInt ≠ 0 := i_ne (a := mo1) (b := 0) rfl (by decide) c_1
    refine lv_iconst (v := 0) hx hb dX7_spreads_6 (by decide) ?_
    refine lv_istore_n (lv' := [(2, .int 0), (0, .ref mz), (1, .int 4)]) hx hb dX7_spreads_7 rfl hl (by decide) rfl (fun ls hl => ?_)
    refine lv_iconst (v := 0) hx hb dX7_spreads_8 (by decide) ?_
    refine lv_istore_n (lv' := [(3, .int 0), (2, .int 0), (0, .ref mz), (1, .int 4)]) hx hb dX7_spreads_9 rfl hl (by decide) rfl (fun ls hl => ?_)
    refine lp_W (I := fun (a : Int32 × Int32 × (Nat → Int32)) H locs ls => (0 ≤ a.1.toInt ∧ a.1.toInt ≤ msd.toInt) ∧ (0 ≤ a.2.1.toInt ∧ a.2.1.toInt ≤ 1) ∧ (a.2.2 = ps mf18 mf24 mf25 160 a.1.toNatClampNeg f1) ∧ (FM a.2.2 ≤ FM f1) ∧ (a.2.1.toInt = 0 → a.2.2 = f1) ∧ (a.2.1.toInt ≠ 0 → FM a.2.2 < FM f1) ∧ (FI a.2.2) ∧ va_P (dC, dI) vwCl [(mz, .inr (7, [.int mth, .ref mq1, .ref mq2, .ref mq3, .ref mq4, .ref mq5, .int mtd, .int mat, .int mtk, .int mpl, .int mva, .long mwd, .int mbd, .int mbp, .int mft, .int mfp, .ref mq16, .ref mq17, .ref mq18, .ref mq19, .ref mq20, .ref mq21, .int mlt, .ref mq23, .ref mq24, .ref mq25, .int msd, .ref mq27, .ref mq28, .ref mq29, .ref mq30, .ref mq31, .ref mq32, .int mlr, .int mst, .long mob, .long msb, .ref mq37, .int mln])), (mq18, .inl (mk18, 200, .inl mf18)), (mq24, .inl (mk24, 40, .inl mf24)), (mq25, .inl (mk25, 40, .inl mf25)), (mq27, .inl (mk27, 25, .inl a.2.2))] H ∧ va_D A [(mz, .inr (7, [.int mth, .ref mq1, .ref mq2, .ref mq3, .ref mq4, .ref mq5, .int mtd, .int mat, .int mtk, .int mpl, .int mva, .long mwd, .int mbd, .int mbp, .int mft, .int mfp, .ref mq16, .ref mq17, .ref mq18, .ref mq19, .ref mq20, .ref mq21, .int mlt, .ref mq23, .ref mq24, .ref mq25, .int msd, .ref mq27, .ref mq28, .ref mq29, .ref mq30, .ref mq31, .ref mq32, .int mlr, .int mst, .long mob, .long msb, .ref mq37, .int mln])), (mq18, .inl (mk18, 200, .inl mf18)), (mq24, .inl (mk24, 40, .inl mf24)), (mq25, .inl (mk25, 40, .inl mf25)), (mq27, .inl (mk27, 25, .inl a.2.2))] ∧ va_S A s.heap H locs ∧ lv_has ls 4 [(3, .int a.1), (2, .int a.2.1), (0, .ref mz), (1, .int 4)]) (μ := fun a => (msd.toInt - a.1.toInt).toNat) ?_ ((0 : Int32), (0 : Int32), f1) ⟨(by have k0 : (0 : Int32).toInt = 0 := (by decide); (try dsimp only); omega), (by have k0 : (0 : Int32).toInt = 0 := (by decide); (try dsimp only); omega), rfl, (Nat.le_refl _), (fun _ => rfl), (fun h9 => absurd rfl h9), hFI, hP.sub [0, 1, 2, 3, 4] rfl, hD.sub [0, 1, 2, 3, 4] (by decide) rfl, hS, lv_sub hl [0, 1, 2, 3] rfl⟩
    intro a H locs ls hI ih10
    obtain ⟨s1, mo2, f2⟩ := a
    obtain ⟨h_s1, h_mo2, hps, hm, hmz, hmn, hFI2, hP, hD, hS, hl⟩ := hI
    have h_s1 : 0 ≤ s1.toInt ∧ s1.toInt ≤ msd.toInt := h_s1
    have h_mo2 : 0 ≤ mo2.toInt ∧ mo2.toInt ≤ 1 := h_mo2
    have hps : f2 = ps mf18 mf24 mf25 160 s1.toNatClampNeg f1 := hps
    have hm : FM f2 ≤ FM f1 := hm
    have hmz : mo2.toInt = 0 → f2 = f1 := hmz
    have hmn : mo2.toInt ≠ 0 → FM f2 < FM f1 := hmn
    have hFI2 : FI f2 := hFI2
    have hP : va_P (dC, dI) vwCl [(mz, .inr (7, [.int mth, .ref mq1, .ref mq2, .ref mq3, .ref mq4, .ref mq5, .int mtd, .int mat, .int mtk, .int mpl, .int mva, .long mwd, .int mbd, .int mbp, .int mft, .int mfp, .ref mq16, .ref mq17, .ref mq18, .ref mq19, .ref mq20, .ref mq21, .int mlt, .ref mq23, .ref mq24, .ref mq25, .int msd, .ref mq27, .ref mq28, .ref mq29, .ref mq30, .ref mq31, .ref mq32, .int mlr, .int mst, .long mob, .long msb, .ref mq37, .int mln])), (mq18, .inl (mk18, 200, .inl mf18)), (mq24, .inl (mk24, 40, .inl mf24)), (mq25, .inl (mk25, 40, .inl mf25)), (mq27, .inl (mk27, 25, .inl f2))] H := hP
    have hD : va_D A [(mz, .inr (7, [.int mth, .ref mq1, .ref mq2, .ref mq3, .ref mq4, .ref mq5, .int mtd, .int mat, .int mtk, .int mpl, .int mva, .long mwd, .int mbd, .int mbp, .int mft, .int mfp, .ref mq16, .ref mq17, .ref mq18, .ref mq19, .ref mq20, .ref mq21, .int mlt, .ref mq23, .ref mq24, .ref mq25, .int msd, .ref mq27, .ref mq28, .ref mq29, .ref mq30, .ref mq31, .ref mq32, .int mlr, .int mst, .long mob, .long msb, .ref mq37, .int mln])), (mq18, .inl (mk18, 200, .inl mf18)), (mq24, .inl (mk24, 40, .inl mf24)), (mq25, .inl (mk25, 40, .inl mf25)), (mq27, .inl (mk27, 25, .inl f2))] := hD
    have hl : lv_has ls 4 [(3, .int s1), (2, .int mo2), (0, .ref mz), (1, .int 4)] := hl
    refine lv_iload_n hx hb dX7_spreads_10 rfl (lv_at hl 0 rfl) ?_
    refine lv_aload_n hx hb dX7_spreads_11 rfl (lv_at hl 2 rfl) ?_
    refine va_get (D := (dC, dI)) (ci := 7) (v := .int msd) (C := RX7) (T := TX7) (N := 39) hx hb hts in_X7_spreads_4_X7 hown hK hP 0 rfl rfl 26 (by decide) (hts _ wd_X7_spreads_4_0) (fun _ h9 => h9) rfl dX7_spreads_12 ?_
    refine lv_icmp_ge (tgt := 99) hx hb dX7_spreads_15 (by decide) (fun c_2 => ?_) (fun c_2 => ?_)
    · have c_2 : msd.toInt ≤ s1.toInt := i_le (a := msd) (b := s1) rfl rfl c_2
      refine lv_goto (tgt := 2) hx hb dX7_spreads_99 (by decide) ?_
      exact ih2 (mo2, f2) _ _ _ ⟨(by (try dsimp only); omega), (sp_again (k := s1) (n := msd) (by omega) hps hit), (fun h9 => sp_fix (k := s1) (n := msd) (by omega) hps (hmz h9)), hFI2, hP.sub [0, 1, 2, 3, 4] rfl, hD.sub [0, 1, 2, 3, 4] (by decide) rfl, hS, lv_sub hl [1, 2, 3] rfl⟩ (by (try dsimp only); omega)
    · have c_2 : s1.toInt < msd.toInt := i_nle (a := msd) (b := s1) rfl rfl c_2
      refine lv_aload_n hx hb dX7_spreads_18 rfl (lv_at hl 2 rfl) ?_
      refine va_get (D := (dC, dI)) (ci := 7) (v := .ref mq18) (C := RX7) (T := TX7) (N := 39) hx hb hts in_X7_spreads_4_X7 hown hK hP 0 rfl rfl 18 (by decide) (hts _ wd_X7_spreads_4_1) (fun _ h9 => h9) rfl dX7_spreads_19 ?_
      refine lv_bipush (v := 40) hx hb dX7_spreads_22 (by decide) ?_
      refine lv_iload_n hx hb dX7_spreads_24 rfl (lv_at hl 3 rfl) ?_
      refine lv_imul hx hb dX7_spreads_25 ?_
      refine lv_topi (fun z_3 ez_3 => ?_)
      obtain rfl : z_3 = 160 := ez_3.trans (by decide)
      refine lv_iload_n hx hb dX7_spreads_26 rfl (lv_at hl 0 rfl) ?_
      refine lv_iadd hx hb dX7_spreads_27 ?_
      refine lv_topi (fun x_4 ex_4 => ?_)
      have zx_4 : x_4.toInt = 160 + s1.toInt := by rw [ex_4]; exact i_add (by decide) rfl (by omega) (by omega)
      refine va_iald hx hb hK hP 1 0 rfl rfl (i_in rfl (by omega) (by omega)) dX7_spreads_28 ?_
      refine lv_topi (fun v_5 ev_5 => ?_)
      have kv_5 : v_5.toInt = (mf18 x_4.toNatClampNeg).toInt := congrArg Int32.toInt ev_5
      refine lv_if_eq (tgt := 35) hx hb dX7_spreads_29 (by decide) (fun c_6 => ?_) (fun c_6 => ?_)
      · have c_6 : v_5.toInt = 0 := i_eq (a := v_5) (b := 0) rfl (by decide) c_6
        refine lv_aload_n hx hb dX7_spreads_35 rfl (lv_at hl 2 rfl) ?_
        refine lv_aload_n hx hb dX7_spreads_36 rfl (lv_at hl 2 rfl) ?_
        refine va_get (D := (dC, dI)) (ci := 7) (v := .ref mq24) (C := RX7) (T := TX7) (N := 39) hx hb hts in_X7_spreads_4_X7 hown hK hP 0 rfl rfl 24 (by decide) (hts _ wd_X7_spreads_4_2) (fun _ h9 => h9) rfl dX7_spreads_37 ?_
        refine lv_iload_n hx hb dX7_spreads_40 rfl (lv_at hl 0 rfl) ?_
        have hin_7 : vp_in s1 40 := (i_in rfl (by omega) (by omega))
        refine va_iald hx hb hK hP 2 1 rfl rfl hin_7 dX7_spreads_41 ?_
        refine lv_topi (fun v_8 ev_8 => ?_)
        have kv_8 : v_8.toInt = (mf24 s1.toNatClampNeg).toInt := congrArg Int32.toInt ev_8
        have hv_8 := RG.at hR_mq24 hin_7 ev_8
        refine lv_aload_n hx hb dX7_spreads_42 rfl (lv_at hl 2 rfl) ?_
        refine va_get (D := (dC, dI)) (ci := 7) (v := .ref mq25) (C := RX7) (T := TX7) (N := 39) hx hb hts in_X7_spreads_4_X7 hown hK hP 0 rfl rfl 25 (by decide) (hts _ wd_X7_spreads_4_3) (fun _ h9 => h9) rfl dX7_spreads_43 ?_
        refine lv_iload_n hx hb dX7_spreads_46 rfl (lv_at hl 0 rfl) ?_
        have hin_9 : vp_in s1 40 := (i_in rfl (by omega) (by omega))
        refine va_iald hx hb hK hP 3 2 rfl rfl hin_9 dX7_spreads_47 ?_
        refine lv_topi (fun v_10 ev_10 => ?_)
        have kv_10 : v_10.toInt = (mf25 s1.toNatClampNeg).toInt := congrArg Int32.toInt ev_10
        have hv_10 := RG.at hR_mq25 hin_9 ev_10
        have hPc := hP.sub (ws' := [(mz, .inr (7, [.int mth, .ref mq1, .ref mq2, .ref mq3, .ref mq4, .ref mq5, .int mtd, .int mat, .int mtk, .int mpl, .int mva, .long mwd, .int mbd, .int mbp, .int mft, .int mfp, .ref mq16, .ref mq17, .ref mq18, .ref mq19, .ref mq20, .ref mq21, .int mlt, .ref mq23, .ref mq24, .ref mq25, .int msd, .ref mq27, .ref mq28, .ref mq29, .ref mq30, .ref mq31, .ref mq32, .int mlr, .int mst, .long mob, .long msb, .ref mq37, .int mln])), (mq27, .inl (mk27, 25, .inl f2))]) [0, 4] rfl
        have hDc := hD.sub (ws' := [(mz, .inr (7, [.int mth, .ref mq1, .ref mq2, .ref mq3, .ref mq4, .ref mq5, .int mtd, .int mat, .int mtk, .int mpl, .int mva, .long mwd, .int mbd, .int mbp, .int mft, .int mfp, .ref mq16, .ref mq17, .ref mq18, .ref mq19, .ref mq20, .ref mq21, .int mlt, .ref mq23, .ref mq24, .ref mq25, .int msd, .ref mq27, .ref mq28, .ref mq29, .ref mq30, .ref mq31, .ref mq32, .int mlr, .int mst, .long mob, .long msb, .ref mq37, .int mln])), (mq27, .inl (mk27, 25, .inl f2))]) [0, 4] (by decide) rfl
        have hKc := hK.sub (tys' := [(mk27, .int)]) [3] rfl
        have hFc := va_free (wc := [(mz, .inr (7, [.int mth, .ref mq1, .ref mq2, .ref mq3, .ref mq4, .ref mq5, .int mtd, .int mat, .int mtk, .int mpl, .int mva, .long mwd, .int mbd, .int mbp, .int mft, .int mfp, .ref mq16, .ref mq17, .ref mq18, .ref mq19, .ref mq20, .ref mq21, .int mlt, .ref mq23, .ref mq24, .ref mq25, .int msd, .ref mq27, .ref mq28, .ref mq29, .ref mq30, .ref mq31, .ref mq32, .int mlr, .int mst, .long mob, .long msb, .ref mq37, .int mln])), (mq27, .inl (mk27, 25, .inl f2))]) hD hS hA [0, 4] rfl
        refine va_calli (va_runV (As := [.int v_8, .int v_10]) (rest := []) ⟨hx, hb, hml, hown, hts⟩ (c_X7_nears l dC dI H.size mz mth mq1 mq2 mq3 mq4 mq5 mtd mat mtk mpl mva mwd mbd mbp mft mfp mq16 mq17 mq18 mq19 mq20 mq21 mlt mq23 mq24 mq25 msd mq27 mq28 mq29 mq30 mq31 mq32 mlr mst mob msb mq37 mln mk27 f2 v_8 v_10 (by omega) (by omega) hFI2) (cwV 2 hts g_X7_spreads_4_X7_nears rfl rfl rfl (by decide +kernel) ⟨Nat.le_of_ble_eq_true rfl, Nat.le_of_ble_eq_true rfl⟩) ⟨fun a U g mk q => by obtain ⟨q0, q1, qP, qK, qD⟩ := q; exact ⟨q0, q1, qP, va_K.moved (u := U) (U := U.calling g mk a) (Vm.Alike.refl U.vm) qK, qD⟩, va_recv hKc hPc (ci := 7) (q0 := 0) rfl rfl, fun U hU hW => ⟨rfl, by rw [hU], by rw [hU]; exact hPc, va_K.moved hW.alike hKc, hDc.weaken (fun _ _ _ _ => trivial)⟩⟩ rfl rfl hl.1 rfl (lv_room (Nat.le_of_ble_eq_true rfl)) dX7_spreads_48 ⟨Nat.le_of_ble_eq_true rfl, Nat.le_of_ble_eq_true rfl⟩) hS (fun q _ h => hFc q h) hFc (fun r_11 u t H1 locs ht hvm hw_12 hB hz1 hk1 hS => ?_)
        obtain ⟨ns27_13, rfl⟩ : ∃ z, z = u := ⟨_, rfl⟩
        obtain ⟨hP1, hK1, hD1⟩ := hB
        have hP1 : va_P (dC, dI) vwCl [(mz, .inr (7, [.int mth, .ref mq1, .ref mq2, .ref mq3, .ref mq4, .ref mq5, .int mtd, .int mat, .int mtk, .int mpl, .int mva, .long mwd, .int mbd, .int mbp, .int mft, .int mfp, .ref mq16, .ref mq17, .ref mq18, .ref mq19, .ref mq20, .ref mq21, .int mlt, .ref mq23, .ref mq24, .ref mq25, .int msd, .ref mq27, .ref mq28, .ref mq29, .ref mq30, .ref mq31, .ref mq32, .int mlr, .int mst, .long mob, .long msb, .ref mq37, .int mln])), (mq27, .inl (mk27, 25, .inl ns27_13))] t.heap := hP1
        rw [ht] at hP1
        try dsimp only at hw_12
        obtain ⟨hp_14, hp_15⟩ := hw_12
        obtain ⟨hP, hD⟩ := va_join (wr := [(mq18, .inl (mk18, 200, .inl mf18)), (mq24, .inl (mk24, 40, .inl mf24)), (mq25, .inl (mk25, 40, .inl mf25))]) (w1 := [(mz, .inr (7, [.int mth, .ref mq1, .ref mq2, .ref mq3, .ref mq4, .ref mq5, .int mtd, .int mat, .int mtk, .int mpl, .int mva, .long mwd, .int mbd, .int mbp, .int mft, .int mfp, .ref mq16, .ref mq17, .ref mq18, .ref mq19, .ref mq20, .ref mq21, .int mlt, .ref mq23, .ref mq24, .ref mq25, .int msd, .ref mq27, .ref mq28, .ref mq29, .ref mq30, .ref mq31, .ref mq32, .int mlr, .int mst, .long mob, .long msb, .ref mq37, .int mln])), (mq27, .inl (mk27, 25, .inl ns27_13))]) hP hD [0, 4] [1, 2, 3] rfl rfl (by decide) (by decide) hk1 hFc hP1 hD1
        generalize H1 = H at hP hS ⊢
        have hP : va_P (dC, dI) vwCl [(mq18, .inl (mk18, 200, .inl mf18)), (mq24, .inl (mk24, 40, .inl mf24)), (mq25, .inl (mk25, 40, .inl mf25)), (mz, .inr (7, [.int mth, .ref mq1, .ref mq2, .ref mq3, .ref mq4, .ref mq5, .int mtd, .int mat, .int mtk, .int mpl, .int mva, .long mwd, .int mbd, .int mbp, .int mft, .int mfp, .ref mq16, .ref mq17, .ref mq18, .ref mq19, .ref mq20, .ref mq21, .int mlt, .ref mq23, .ref mq24, .ref mq25, .int msd, .ref mq27, .ref mq28, .ref mq29, .ref mq30, .ref mq31, .ref mq32, .int mlr, .int mst, .long mob, .long msb, .ref mq37, .int mln])), (mq27, .inl (mk27, 25, .inl ns27_13))] H := hP
        have hD : va_D A [(mq18, .inl (mk18, 200, .inl mf18)), (mq24, .inl (mk24, 40, .inl mf24)), (mq25, .inl (mk25, 40, .inl mf25)), (mz, .inr (7, [.int mth, .ref mq1, .ref mq2, .ref mq3, .ref mq4, .ref mq5, .int mtd, .int mat, .int mtk, .int mpl, .int mva, .long mwd, .int mbd, .int mbp, .int mft, .int mfp, .ref mq16, .ref mq17, .ref mq18, .ref mq19, .ref mq20, .ref mq21, .int mlt, .ref mq23, .ref mq24, .ref mq25, .int msd, .ref mq27, .ref mq28, .ref mq29, .ref mq30, .ref mq31, .ref mq32, .int mlr, .int mst, .long mob, .long msb, .ref mq37, .int mln])), (mq27, .inl (mk27, 25, .inl ns27_13))] := hD
        rcases hp_14 with ⟨rq_16, hd1, hn1⟩ | ⟨rq_16, hd1, hn1⟩
        · obtain rfl : r_11 = 0 := rq_16
          have hq1 : ns27_13 = nr f2 (mf24 s1.toNatClampNeg).toNatClampNeg (mf25 s1.toNatClampNeg).toNatClampNeg := by rw [← ev_8, ← ev_10]; exact hd1.trans hn1.symm
          have hm1 : FM ns27_13 ≤ FM f2 := by rw [hd1]; exact Nat.le_refl _
          refine lv_if_ne (tgt := 58) hx hb dX7_spreads_51 (by decide) (fun h => absurd (by decide) h) (fun _ => ?_)
          refine lv_iload_n hx hb dX7_spreads_54 rfl (lv_at hl 1 rfl) ?_
          refine lv_if_eq (tgt := 62) hx hb dX7_spreads_55 (by decide) (fun c_18 => ?_) (fun c_18 => ?_)
          · have c_18 : mo2.toInt = 0 := i_eq (a := mo2) (b := 0) rfl (by decide) c_18
            refine lv_iconst (v := 0) hx hb dX7_spreads_62 (by decide) ?_
            refine lv_istore_n (lv' := [(2, .int 0), (3, .int s1), (0, .ref mz), (1, .int 4)]) hx hb dX7_spreads_63 rfl hl (by decide) rfl (fun ls hl => ?_)
            refine lv_aload_n hx hb dX7_spreads_64 rfl (lv_at hl 2 rfl) ?_
            refine lv_aload_n hx hb dX7_spreads_65 rfl (lv_at hl 2 rfl) ?_
            refine va_get (D := (dC, dI)) (ci := 7) (v := .ref mq25) (C := RX7) (T := TX7) (N := 39) hx hb hts in_X7_spreads_4_X7 hown hK hP 3 rfl rfl 25 (by decide) (hts _ wd_X7_spreads_4_3) (fun _ h9 => h9) rfl dX7_spreads_66 ?_
            refine lv_iload_n hx hb dX7_spreads_69 rfl (lv_at hl 1 rfl) ?_
            have hin_19 : vp_in s1 40 := (i_in rfl (by omega) (by omega))
            refine va_iald hx hb hK hP 2 2 rfl rfl hin_19 dX7_spreads_70 ?_
            refine lv_topi (fun v_20 ev_20 => ?_)
            have kv_20 : v_20.toInt = (mf25 s1.toNatClampNeg).toInt := congrArg Int32.toInt ev_20
            have hv_20 := RG.at hR_mq25 hin_19 ev_20
            refine lv_aload_n hx hb dX7_spreads_71 rfl (lv_at hl 2 rfl) ?_
            refine va_get (D := (dC, dI)) (ci := 7) (v := .ref mq24) (C := RX7) (T := TX7) (N := 39) hx hb hts in_X7_spreads_4_X7 hown hK hP 3 rfl rfl 24 (by decide) (hts _ wd_X7_spreads_4_2) (fun _ h9 => h9) rfl dX7_spreads_72 ?_
            refine lv_iload_n hx hb dX7_spreads_75 rfl (lv_at hl 1 rfl) ?_
            have hin_21 : vp_in s1 40 := (i_in rfl (by omega) (by omega))
            refine va_iald hx hb hK hP 1 1 rfl rfl hin_21 dX7_spreads_76 ?_
            refine lv_topi (fun v_22 ev_22 => ?_)
            have kv_22 : v_22.toInt = (mf24 s1.toNatClampNeg).toInt := congrArg Int32.toInt ev_22
            have hv_22 := RG.at hR_mq24 hin_21 ev_22
            have hPc := hP.sub (ws' := [(mz, .inr (7, [.int mth, .ref mq1, .ref mq2, .ref mq3, .ref mq4, .ref mq5, .int mtd, .int mat, .int mtk, .int mpl, .int mva, .long mwd, .int mbd, .int mbp, .int mft, .int mfp, .ref mq16, .ref mq17, .ref mq18, .ref mq19, .ref mq20, .ref mq21, .int mlt, .ref mq23, .ref mq24, .ref mq25, .int msd, .ref mq27, .ref mq28, .ref mq29, .ref mq30, .ref mq31, .ref mq32, .int mlr, .int mst, .long mob, .long msb, .ref mq37, .int mln])), (mq27, .inl (mk27, 25, .inl ns27_13))]) [3, 4] rfl
            have hDc := hD.sub (ws' := [(mz, .inr (7, [.int mth, .ref mq1, .ref mq2, .ref mq3, .ref mq4, .ref mq5, .int mtd, .int mat, .int mtk, .int mpl, .int mva, .long mwd, .int mbd, .int mbp, .int mft, .int mfp, .ref mq16, .ref mq17, .ref mq18, .ref mq19, .ref mq20, .ref mq21, .int mlt, .ref mq23, .ref mq24, .ref mq25, .int msd, .ref mq27, .ref mq28, .ref mq29, .ref mq30, .ref mq31, .ref mq32, .int mlr, .int mst, .long mob, .long msb, .ref mq37, .int mln])), (mq27, .inl (mk27, 25, .inl ns27_13))]) [3, 4] (by decide) rfl
            have hKc := hK.sub (tys' := [(mk27, .int)]) [3] rfl
            have hFc := va_free (wc := [(mz, .inr (7, [.int mth, .ref mq1, .ref mq2, .ref mq3, .ref mq4, .ref mq5, .int mtd, .int mat, .int mtk, .int mpl, .int mva, .long mwd, .int mbd, .int mbp, .int mft, .int mfp, .ref mq16, .ref mq17, .ref mq18, .ref mq19, .ref mq20, .ref mq21, .int mlt, .ref mq23, .ref mq24, .ref mq25, .int msd, .ref mq27, .ref mq28, .ref mq29, .ref mq30, .ref mq31, .ref mq32, .int mlr, .int mst, .long mob, .long msb, .ref mq37, .int mln])), (mq27, .inl (mk27, 25, .inl ns27_13))]) hD hS hA [3, 4] rfl
            refine va_calli (va_runV (As := [.int v_20, .int v_22]) (rest := []) ⟨hx, hb, hml, hown, hts⟩ (c_X7_nears l dC dI H.size mz mth mq1 mq2 mq3 mq4 mq5 mtd mat mtk mpl mva mwd mbd mbp mft mfp mq16 mq17 mq18 mq19 mq20 mq21 mlt mq23 mq24 mq25 msd mq27 mq28 mq29 mq30 mq31 mq32 mlr mst mob msb mq37 mln mk27 ns27_13 v_20 v_22 (by omega) (by omega) hp_15) (cwV 2 hts g_X7_spreads_4_X7_nears rfl rfl rfl (by decide +kernel) ⟨Nat.le_of_ble_eq_true rfl, Nat.le_of_ble_eq_true rfl⟩) ⟨fun a U g mk q => by obtain ⟨q0, q1, qP, qK, qD⟩ := q; exact ⟨q0, q1, qP, va_K.moved (u := U) (U := U.calling g mk a) (Vm.Alike.refl U.vm) qK, qD⟩, va_recv hKc hPc (ci := 7) (q0 := 0) rfl rfl, fun U hU hW => ⟨rfl, by rw [hU], by rw [hU]; exact hPc, va_K.moved hW.alike hKc, hDc.weaken (fun _ _ _ _ => trivial)⟩⟩ rfl rfl hl.1 rfl (lv_room (Nat.le_of_ble_eq_true rfl)) dX7_spreads_77 ⟨Nat.le_of_ble_eq_true rfl, Nat.le_of_ble_eq_true rfl⟩) hS (fun q _ h => hFc q h) hFc (fun r_23 u t H1 locs ht hvm hw_24 hB hz1 hk1 hS => ?_)
            obtain ⟨ns27_25, rfl⟩ : ∃ z, z = u := ⟨_, rfl⟩
            obtain ⟨hP1, hK1, hD1⟩ := hB
            have hP1 : va_P (dC, dI) vwCl [(mz, .inr (7, [.int mth, .ref mq1, .ref mq2, .ref mq3, .ref mq4, .ref mq5, .int mtd, .int mat, .int mtk, .int mpl, .int mva, .long mwd, .int mbd, .int mbp, .int mft, .int mfp, .ref mq16, .ref mq17, .ref mq18, .ref mq19, .ref mq20, .ref mq21, .int mlt, .ref mq23, .ref mq24, .ref mq25, .int msd, .ref mq27, .ref mq28, .ref mq29, .ref mq30, .ref mq31, .ref mq32, .int mlr, .int mst, .long mob, .long msb, .ref mq37, .int mln])), (mq27, .inl (mk27, 25, .inl ns27_25))] t.heap := hP1
            rw [ht] at hP1
            try dsimp only at hw_24
            obtain ⟨hp_26, hp_27⟩ := hw_24
            obtain ⟨hP, hD⟩ := va_join (wr := [(mq18, .inl (mk18, 200, .inl mf18)), (mq24, .inl (mk24, 40, .inl mf24)), (mq25, .inl (mk25, 40, .inl mf25))]) (w1 := [(mz, .inr (7, [.int mth, .ref mq1, .ref mq2, .ref mq3, .ref mq4, .ref mq5, .int mtd, .int mat, .int mtk, .int mpl, .int mva, .long mwd, .int mbd, .int mbp, .int mft, .int mfp, .ref mq16, .ref mq17, .ref mq18, .ref mq19, .ref mq20, .ref mq21, .int mlt, .ref mq23, .ref mq24, .ref mq25, .int msd, .ref mq27, .ref mq28, .ref mq29, .ref mq30, .ref mq31, .ref mq32, .int mlr, .int mst, .long mob, .long msb, .ref mq37, .int mln])), (mq27, .inl (mk27, 25, .inl ns27_25))]) hP hD [3, 4] [0, 1, 2] rfl rfl (by decide) (by decide) hk1 hFc hP1 hD1
            generalize H1 = H at hP hS ⊢
            have hP : va_P (dC, dI) vwCl [(mq18, .inl (mk18, 200, .inl mf18)), (mq24, .inl (mk24, 40, .inl mf24)), (mq25, .inl (mk25, 40, .inl mf25)), (mz, .inr (7, [.int mth, .ref mq1, .ref mq2, .ref mq3, .ref mq4, .ref mq5, .int mtd, .int mat, .int mtk, .int mpl, .int mva, .long mwd, .int mbd, .int mbp, .int mft, .int mfp, .ref mq16, .ref mq17, .ref mq18, .ref mq19, .ref mq20, .ref mq21, .int mlt, .ref mq23, .ref mq24, .ref mq25, .int msd, .ref mq27, .ref mq28, .ref mq29, .ref mq30, .ref mq31, .ref mq32, .int mlr, .int mst, .long mob, .long msb, .ref mq37, .int mln])), (mq27, .inl (mk27, 25, .inl ns27_25))] H := hP
            have hD : va_D A [(mq18, .inl (mk18, 200, .inl mf18)), (mq24, .inl (mk24, 40, .inl mf24)), (mq25, .inl (mk25, 40, .inl mf25)), (mz, .inr (7, [.int mth, .ref mq1, .ref mq2, .ref mq3, .ref mq4, .ref mq5, .int mtd, .int mat, .int mtk, .int mpl, .int mva, .long mwd, .int mbd, .int mbp, .int mft, .int mfp, .ref mq16, .ref mq17, .ref mq18, .ref mq19, .ref mq20, .ref mq21, .int mlt, .ref mq23, .ref mq24, .ref mq25, .int msd, .ref mq27, .ref mq28, .ref mq29, .ref mq30, .ref mq31, .ref mq32, .int mlr, .int mst, .long mob, .long msb, .ref mq37, .int mln])), (mq27, .inl (mk27, 25, .inl ns27_25))] := hD
            rcases hp_26 with ⟨rq_28, hd2, hn2⟩ | ⟨rq_28, hd2, hn2⟩
            · obtain rfl : r_23 = 0 := rq_28
              have hq2 : ns27_25 = nr ns27_13 (mf25 s1.toNatClampNeg).toNatClampNeg (mf24 s1.toNatClampNeg).toNatClampNeg := by rw [← ev_20, ← ev_22]; exact hd2.trans hn2.symm
              have hm2 : FM ns27_25 ≤ FM ns27_13 := by rw [hd2]; exact Nat.le_refl _
              rw [hq1] at hq2
              refine lv_if_ne (tgt := 87) hx hb dX7_spreads_80 (by decide) (fun h => absurd (by decide) h) (fun _ => ?_)
              refine lv_iload_n hx hb dX7_spreads_83 rfl (lv_at hl 0 rfl) ?_
              refine lv_if_eq (tgt := 91) hx hb dX7_spreads_84 (by decide) (fun _ => ?_) (fun h => absurd (by decide) h)
              refine lv_iconst (v := 0) hx hb dX7_spreads_91 (by decide) ?_
              refine lv_istore_n (lv' := [(2, .int 0), (3, .int s1), (0, .ref mz), (1, .int 4)]) hx hb dX7_spreads_92 rfl hl (by decide) rfl (fun ls hl => ?_)
              obtain ⟨x_31, ex_31⟩ : ∃ y9 : Int32, y9 = s1 + Int32.ofInt 1 := ⟨_, rfl⟩
              have zx_31 : x_31.toInt = s1.toInt + 1 := by rw [ex_31]; exact i_add rfl (show (Int32.ofInt 1).toInt = 1 by decide) (by omega) (by omega)
              refine lv_iinc (v := x_31) (lv' := [(3, .int x_31), (2, .int 0), (0, .ref mz), (1, .int 4)]) hx hb dX7_spreads_93 hl (k := 1) rfl (by rw [ex_31]) (by decide) rfl (fun ls hl => ?_)
              refine lv_goto (tgt := 10) hx hb dX7_spreads_96 (by decide) ?_
              exact ih10 (x_31, (0 : Int32), ns27_25) _ _ _ ⟨(by have k0 : (0 : Int32).toInt = 0 := (by decide); (try dsimp only); omega), (by have k0 : (0 : Int32).toInt = 0 := (by decide); (try dsimp only); omega), (ps_step hps (i_sc (k := s1) (k2 := x_31) rfl (by omega) (by omega)) (x := x_4) (by rw [i_cn (k := x_4) rfl, i_cn (k := s1) rfl]; omega) ev_5 (Or.inl ⟨i_of (by have k9 : (0 : Int32).toInt = 0 := (by decide); omega), hq2⟩)), (by have k0 : (0 : Int32).toInt = 0 := (by decide); (try dsimp only); omega), (fun _ => by rw [hd2, hd1]; exact hmz (by omega)), (fun h9 => absurd rfl h9), hp_27, hP.sub [3, 0, 1, 2, 4] rfl, hD.sub [3, 0, 1, 2, 4] (by decide) rfl, hS, lv_sub hl [0, 1, 2, 3] rfl⟩ (by have k0 : (0 : Int32).toInt = 0 := (by decide); (try dsimp only); omega)
            · obtain rfl : r_23 = 1 := rq_28
              have hq2 : ns27_25 = nr ns27_13 (mf25 s1.toNatClampNeg).toNatClampNeg (mf24 s1.toNatClampNeg).toNatClampNeg := by rw [← ev_20, ← ev_22]; exact hd2
              have hm2 : FM ns27_25 ≤ FM ns27_13 ∧ FM ns27_25 < FM ns27_13 := by omega
              rw [hq1] at hq2
              refine lv_if_ne (tgt := 87) hx hb dX7_spreads_80 (by decide) (fun _ => ?_) (fun h => absurd h (by decide))
              refine lv_iconst (v := 1) hx hb dX7_spreads_87 (by decide) ?_
              refine lv_goto (tgt := 92) hx hb dX7_spreads_88 (by decide) ?_
              refine lv_istore_n (lv' := [(2, .int 1), (3, .int s1), (0, .ref mz), (1, .int 4)]) hx hb dX7_spreads_92 rfl hl (by decide) rfl (fun ls hl => ?_)
              obtain ⟨x_33, ex_33⟩ : ∃ y9 : Int32, y9 = s1 + Int32.ofInt 1 := ⟨_, rfl⟩
              have zx_33 : x_33.toInt = s1.toInt + 1 := by rw [ex_33]; exact i_add rfl (show (Int32.ofInt 1).toInt = 1 by decide) (by omega) (by omega)
              refine lv_iinc (v := x_33) (lv' := [(3, .int x_33), (2, .int 1), (0, .ref mz), (1, .int 4)]) hx hb dX7_spreads_93 hl (k := 1) rfl (by rw [ex_33]) (by decide) rfl (fun ls hl => ?_)
              refine lv_goto (tgt := 10) hx hb dX7_spreads_96 (by decide) ?_
              exact ih10 (x_33, (1 : Int32), ns27_25) _ _ _ ⟨(by have k0 : (1 : Int32).toInt = 1 := (by decide); (try dsimp only); omega), (by have k0 : (1 : Int32).toInt = 1 := (by decide); (try dsimp only); omega), (ps_step hps (i_sc (k := s1) (k2 := x_33) rfl (by omega) (by omega)) (x := x_4) (by rw [i_cn (k := x_4) rfl, i_cn (k := s1) rfl]; omega) ev_5 (Or.inl ⟨i_of (by have k9 : (0 : Int32).toInt = 0 := (by decide); omega), hq2⟩)), (by have k0 : (1 : Int32).toInt = 1 := (by decide); (try dsimp only); omega), (fun h9 => absurd h9 (show ¬ (1 : Int32).toInt = 0 by decide)), (fun h9 => by (try dsimp only); first | omega | (have hz9 := hmn (by omega); omega)), hp_27, hP.sub [3, 0, 1, 2, 4] rfl, hD.sub [3, 0, 1, 2, 4] (by decide) rfl, hS, lv_sub hl [0, 1, 2, 3] rfl⟩ (by have k0 : (1 : Int32).toInt = 1 := (by decide); (try dsimp only); omega)
          · have c_18 : mo2.toInt ≠ 0 := i_ne (a := mo2) (b := 0) rfl (by decide) c_18
            refine lv_iconst (v := 1) hx hb dX7_spreads_58 (by decide) ?_
            refine lv_goto (tgt := 63) hx hb dX7_spreads_59 (by decide) ?_
            refine lv_istore_n (lv' := [(2, .int 1), (3, .int s1), (0, .ref mz), (1, .int 4)]) hx hb dX7_spreads_63 rfl hl (by decide) rfl (fun ls hl => ?_)
            refine lv_aload_n hx hb dX7_spreads_64 rfl (lv_at hl 2 rfl) ?_
            refine lv_aload_n hx hb dX7_spreads_65 rfl (lv_at hl 2 rfl) ?_
            refine va_get (D := (dC, dI)) (ci := 7) (v := .ref mq25) (C := RX7) (T := TX7) (N := 39) hx hb hts in_X7_spreads_4_X7 hown hK hP 3 rfl rfl 25 (by decide) (hts _ wd_X7_spreads_4_3) (fun _ h9 => h9) rfl dX7_spreads_66 ?_
            refine lv_iload_n hx hb dX7_spreads_69 rfl (lv_at hl 1 rfl) ?_
            have hin_34 : vp_in s1 40 := (i_in rfl (by omega) (by omega))
            refine va_iald hx hb hK hP 2 2 rfl rfl hin_34 dX7_spreads_70 ?_
            refine lv_topi (fun v_35 ev_35 => ?_)
            have kv_35 : v_35.toInt = (mf25 s1.toNatClampNeg).toInt := congrArg Int32.toInt ev_35
            have hv_35 := RG.at hR_mq25 hin_34 ev_35
            refine lv_aload_n hx hb dX7_spreads_71 rfl (lv_at hl 2 rfl) ?_
            refine va_get (D := (dC, dI)) (ci := 7) (v := .ref mq24) (C := RX7) (T := TX7) (N := 39) hx hb hts in_X7_spreads_4_X7 hown hK hP 3 rfl rfl 24 (by decide) (hts _ wd_X7_spreads_4_2) (fun _ h9 => h9) rfl dX7_spreads_72 ?_
            refine lv_iload_n hx hb dX7_spreads_75 rfl (lv_at hl 1 rfl) ?_
            have hin_36 : vp_in s1 40 := (i_in rfl (by omega) (by omega))
            refine va_iald hx hb hK hP 1 1 rfl rfl hin_36 dX7_spreads_76 ?_
            refine lv_topi (fun v_37 ev_37 => ?_)
            have kv_37 : v_37.toInt = (mf24 s1.toNatClampNeg).toInt := congrArg Int32.toInt ev_37
            have hv_37 := RG.at hR_mq24 hin_36 ev_37
            have hPc := hP.sub (ws' := [(mz, .inr (7, [.int mth, .ref mq1, .ref mq2, .ref mq3, .ref mq4, .ref mq5, .int mtd, .int mat, .int mtk, .int mpl, .int mva, .long mwd, .int mbd, .int mbp, .int mft, .int mfp, .ref mq16, .ref mq17, .ref mq18, .ref mq19, .ref mq20, .ref mq21, .int mlt, .ref mq23, .ref mq24, .ref mq25, .int msd, .ref mq27, .ref mq28, .ref mq29, .ref mq30, .ref mq31, .ref mq32, .int mlr, .int mst, .long mob, .long msb, .ref mq37, .int mln])), (mq27, .inl (mk27, 25, .inl ns27_13))]) [3, 4] rfl
            have hDc := hD.sub (ws' := [(mz, .inr (7, [.int mth, .ref mq1, .ref mq2, .ref mq3, .ref mq4, .ref mq5, .int mtd, .int mat, .int mtk, .int mpl, .int mva, .long mwd, .int mbd, .int mbp, .int mft, .int mfp, .ref mq16, .ref mq17, .ref mq18, .ref mq19, .ref mq20, .ref mq21, .int mlt, .ref mq23, .ref mq24, .ref mq25, .int msd, .ref mq27, .ref mq28, .ref mq29, .ref mq30, .ref mq31, .ref mq32, .int mlr, .int mst, .long mob, .long msb, .ref mq37, .int mln])), (mq27, .inl (mk27, 25, .inl ns27_13))]) [3, 4] (by decide) rfl
            have hKc := hK.sub (tys' := [(mk27, .int)]) [3] rfl
            have hFc := va_free (wc := [(mz, .inr (7, [.int mth, .ref mq1, .ref mq2, .ref mq3, .ref mq4, .ref mq5, .int mtd, .int mat, .int mtk, .int mpl, .int mva, .long mwd, .int mbd, .int mbp, .int mft, .int mfp, .ref mq16, .ref mq17, .ref mq18, .ref mq19, .ref mq20, .ref mq21, .int mlt, .ref mq23, .ref mq24, .ref mq25, .int msd, .ref mq27, .ref mq28, .ref mq29, .ref mq30, .ref mq31, .ref mq32, .int mlr, .int mst, .long mob, .long msb, .ref mq37, .int mln])), (mq27, .inl (mk27, 25, .inl ns27_13))]) hD hS hA [3, 4] rfl
            refine va_calli (va_runV (As := [.int v_35, .int v_37]) (rest := []) ⟨hx, hb, hml, hown, hts⟩ (c_X7_nears l dC dI H.size mz mth mq1 mq2 mq3 mq4 mq5 mtd mat mtk mpl mva mwd mbd mbp mft mfp mq16 mq17 mq18 mq19 mq20 mq21 mlt mq23 mq24 mq25 msd mq27 mq28 mq29 mq30 mq31 mq32 mlr mst mob msb mq37 mln mk27 ns27_13 v_35 v_37 (by omega) (by omega) hp_15) (cwV 2 hts g_X7_spreads_4_X7_nears rfl rfl rfl (by decide +kernel) ⟨Nat.le_of_ble_eq_true rfl, Nat.le_of_ble_eq_true rfl⟩) ⟨fun a U g mk q => by obtain ⟨q0, q1, qP, qK, qD⟩ := q; exact ⟨q0, q1, qP, va_K.moved (u := U) (U := U.calling g mk a) (Vm.Alike.refl U.vm) qK, qD⟩, va_recv hKc hPc (ci := 7) (q0 := 0) rfl rfl, fun U hU hW => ⟨rfl, by rw [hU], by rw [hU]; exact hPc, va_K.moved hW.alike hKc, hDc.weaken (fun _ _ _ _ => trivial)⟩⟩ rfl rfl hl.1 rfl (lv_room (Nat.le_of_ble_eq_true rfl)) dX7_spreads_77 ⟨Nat.le_of_ble_eq_true rfl, Nat.le_of_ble_eq_true rfl⟩) hS (fun q _ h => hFc q h) hFc (fun r_38 u t H1 locs ht hvm hw_39 hB hz1 hk1 hS => ?_)
            obtain ⟨ns27_40, rfl⟩ : ∃ z, z = u := ⟨_, rfl⟩
            obtain ⟨hP1, hK1, hD1⟩ := hB
            have hP1 : va_P (dC, dI) vwCl [(mz, .inr (7, [.int mth, .ref mq1, .ref mq2, .ref mq3, .ref mq4, .ref mq5, .int mtd, .int mat, .int mtk, .int mpl, .int mva, .long mwd, .int mbd, .int mbp, .int mft, .int mfp, .ref mq16, .ref mq17, .ref mq18, .ref mq19, .ref mq20, .ref mq21, .int mlt, .ref mq23, .ref mq24, .ref mq25, .int msd, .ref mq27, .ref mq28, .ref mq29, .ref mq30, .ref mq31, .ref mq32, .int mlr, .int mst, .long mob, .long msb, .ref mq37, .int mln])), (mq27, .inl (mk27, 25, .inl ns27_40))] t.heap := hP1
            rw [ht] at hP1
            try dsimp only at hw_39
            obtain ⟨hp_41, hp_42⟩ := hw_39
            obtain ⟨hP, hD⟩ := va_join (wr := [(mq18, .inl (mk18, 200, .inl mf18)), (mq24, .inl (mk24, 40, .inl mf24)), (mq25, .inl (mk25, 40, .inl mf25))]) (w1 := [(mz, .inr (7, [.int mth, .ref mq1, .ref mq2, .ref mq3, .ref mq4, .ref mq5, .int mtd, .int mat, .int mtk, .int mpl, .int mva, .long mwd, .int mbd, .int mbp, .int mft, .int mfp, .ref mq16, .ref mq17, .ref mq18, .ref mq19, .ref mq20, .ref mq21, .int mlt, .ref mq23, .ref mq24, .ref mq25, .int msd, .ref mq27, .ref mq28, .ref mq29, .ref mq30, .ref mq31, .ref mq32, .int mlr, .int mst, .long mob, .long msb, .ref mq37, .int mln])), (mq27, .inl (mk27, 25, .inl ns27_40))]) hP hD [3, 4] [0, 1, 2] rfl rfl (by decide) (by decide) hk1 hFc hP1 hD1
            generalize H1 = H at hP hS ⊢
            have hP : va_P (dC, dI) vwCl [(mq18, .inl (mk18, 200, .inl mf18)), (mq24, .inl (mk24, 40, .inl mf24)), (mq25, .inl (mk25, 40, .inl mf25)), (mz, .inr (7, [.int mth, .ref mq1, .ref mq2, .ref mq3, .ref mq4, .ref mq5, .int mtd, .int mat, .int mtk, .int mpl, .int mva, .long mwd, .int mbd, .int mbp, .int mft, .int mfp, .ref mq16, .ref mq17, .ref mq18, .ref mq19, .ref mq20, .ref mq21, .int mlt, .ref mq23, .ref mq24, .ref mq25, .int msd, .ref mq27, .ref mq28, .ref mq29, .ref mq30, .ref mq31, .ref mq32, .int mlr, .int mst, .long mob, .long msb, .ref mq37, .int mln])), (mq27, .inl (mk27, 25, .inl ns27_40))] H := hP
            have hD : va_D A [(mq18, .inl (mk18, 200, .inl mf18)), (mq24, .inl (mk24, 40, .inl mf24)), (mq25, .inl (mk25, 40, .inl mf25)), (mz, .inr (7, [.int mth, .ref mq1, .ref mq2, .ref mq3, .ref mq4, .ref mq5, .int mtd, .int mat, .int mtk, .int mpl, .int mva, .long mwd, .int mbd, .int mbp, .int mft, .int mfp, .ref mq16, .ref mq17, .ref mq18, .ref mq19, .ref mq20, .ref mq21, .int mlt, .ref mq23, .ref mq24, .ref mq25, .int msd, .ref mq27, .ref mq28, .ref mq29, .ref mq30, .ref mq31, .ref mq32, .int mlr, .int mst, .long mob, .long msb, .ref mq37, .int mln])), (mq27, .inl (mk27, 25, .inl ns27_40))] := hD
            rcases hp_41 with ⟨rq_43, hd2, hn2⟩ | ⟨rq_43, hd2, hn2⟩
            · obtain rfl : r_38 = 0 := rq_43
              have hq2 : ns27_40 = nr ns27_13 (mf25 s1.toNatClampNeg).toNatClampNeg (mf24 s1.toNatClampNeg).toNatClampNeg := by rw [← ev_35, ← ev_37]; exact hd2.trans hn2.symm
              have hm2 : FM ns27_40 ≤ FM ns27_13 := by rw [hd2]; exact Nat.le_refl _
              rw [hq1] at hq2
              refine lv_if_ne (tgt := 87) hx hb dX7_spreads_80 (by decide) (fun h => absurd (by decide) h) (fun _ => ?_)
              refine lv_iload_n hx hb dX7_spreads_83 rfl (lv_at hl 0 rfl) ?_
              refine lv_if_eq (tgt := 91) hx hb dX7_spreads_84 (by decide) (fun h => absurd h (by decide)) (fun _ => ?_)
              refine lv_iconst (v := 1) hx hb dX7_spreads_87 (by decide) ?_
              refine lv_goto (tgt := 92) hx hb dX7_spreads_88 (by decide) ?_
              refine lv_istore_n (lv' := [(2, .int 1), (3, .int s1), (0, .ref mz), (1, .int 4)]) hx hb dX7_spreads_92 rfl hl (by decide) rfl (fun ls hl => ?_)
              obtain ⟨x_46, ex_46⟩ : ∃ y9 : Int32, y9 = s1 + Int32.ofInt 1 := ⟨_, rfl⟩
              have zx_46 : x_46.toInt = s1.toInt + 1 := by rw [ex_46]; exact i_add rfl (show (Int32.ofInt 1).toInt = 1 by decide) (by omega) (by omega)
              refine lv_iinc (v := x_46) (lv' := [(3, .int x_46), (2, .int 1), (0, .ref mz), (1, .int 4)]) hx hb dX7_spreads_93 hl (k := 1) rfl (by rw [ex_46]) (by decide) rfl (fun ls hl => ?_)
              refine lv_goto (tgt := 10) hx hb dX7_spreads_96 (by decide) ?_
              exact ih10 (x_46, (1 : Int32), ns27_40) _ _ _ ⟨(by have k0 : (1 : Int32).toInt = 1 := (by decide); (try dsimp only); omega), (by have k0 : (1 : Int32).toInt = 1 := (by decide); (try dsimp only); omega), (ps_step hps (i_sc (k := s1) (k2 := x_46) rfl (by omega) (by omega)) (x := x_4) (by rw [i_cn (k := x_4) rfl, i_cn (k := s1) rfl]; omega) ev_5 (Or.inl ⟨i_of (by have k9 : (0 : Int32).toInt = 0 := (by decide); omega), hq2⟩)), (by have k0 : (1 : Int32).toInt = 1 := (by decide); (try dsimp only); omega), (fun h9 => absurd h9 (show ¬ (1 : Int32).toInt = 0 by decide)), (fun h9 => by (try dsimp only); first | omega | (have hz9 := hmn (by omega); omega)), hp_42, hP.sub [3, 0, 1, 2, 4] rfl, hD.sub [3, 0, 1, 2, 4] (by decide) rfl, hS, lv_sub hl [0, 1, 2, 3] rfl⟩ (by have k0 : (1 : Int32).toInt = 1 := (by decide); (try dsimp only); omega)
            · obtain rfl : r_38 = 1 := rq_43
              have hq2 : ns27_40 = nr ns27_13 (mf25 s1.toNatClampNeg).toNatClampNeg (mf24 s1.toNatClampNeg).toNatClampNeg := by rw [← ev_35, ← ev_37]; exact hd2
              have hm2 : FM ns27_40 ≤ FM ns27_13 ∧ FM ns27_40 < FM ns27_13 := by omega
              rw [hq1] at hq2
              refine lv_if_ne (tgt := 87) hx hb dX7_spreads_80 (by decide) (fun _ => ?_) (fun h => absurd h (by decide))
              refine lv_iconst (v := 1) hx hb dX7_spreads_87 (by decide) ?_
              refine lv_goto (tgt := 92) hx hb dX7_spreads_88 (by decide) ?_
              refine lv_istore_n (lv' := [(2, .int 1), (3, .int s1), (0, .ref mz), (1, .int 4)]) hx hb dX7_spreads_92 rfl hl (by decide) rfl (fun ls hl => ?_)
              obtain ⟨x_48, ex_48⟩ : ∃ y9 : Int32, y9 = s1 + Int32.ofInt 1 := ⟨_, rfl⟩
              have zx_48 : x_48.toInt = s1.toInt + 1 := by rw [ex_48]; exact i_add rfl (show (Int32.ofInt 1).toInt = 1 by decide) (by omega) (by omega)
              refine lv_iinc (v := x_48) (lv' := [(3, .int x_48), (2, .int 1), (0, .ref mz), (1, .int 4)]) hx hb dX7_spreads_93 hl (k := 1) rfl (by rw [ex_48]) (by decide) rfl (fun ls hl => ?_)
              refine lv_goto (tgt := 10) hx hb dX7_spreads_96 (by decide) ?_
              exact ih10 (x_48, (1 : Int32), ns27_40) _ _ _ ⟨(by have k0 : (1 : Int32).toInt = 1 := (by decide); (try dsimp only); omega), (by have k0 : (1 : Int32).toInt = 1 := (by decide); (try dsimp only); omega), (ps_step hps (i_sc (k := s1) (k2 := x_48) rfl (by omega) (by omega)) (x := x_4) (by rw [i_cn (k := x_4) rfl, i_cn (k := s1) rfl]; omega) ev_5 (Or.inl ⟨i_of (by have k9 : (0 : Int32).toInt = 0 := (by decide); omega), hq2⟩)), (by have k0 : (1 : Int32).toInt = 1 := (by decide); (try dsimp only); omega), (fun h9 => absurd h9 (show ¬ (1 : Int32).toInt = 0 by decide)), (fun h9 => by (try dsimp only); first | omega | (have hz9 := hmn (by omega); omega)), hp_42, hP.sub [3, 0, 1, 2, 4] rfl, hD.sub [3, 0, 1, 2, 4] (by decide) rfl, hS, lv_sub hl [0, 1, 2, 3] rfl⟩ (by have k0 : (1 : Int32).toInt = 1 := (by decide); (try dsimp only); omega)
        · obtain rfl : r_11 = 1 := rq_16
          have hq1 : ns27_13 = nr f2 (mf24 s1.toNatClampNeg).toNatClampNeg (mf25 s1.toNatClampNeg).toNatClampNeg := by rw [← ev_8, ← ev_10]; exact hd1
          have hm1 : FM ns27_13 ≤ FM f2 ∧ FM ns27_13 < FM f2 := by omega
          refine lv_if_ne (tgt := 58) hx hb dX7_spreads_51 (by decide) (fun _ => ?_) (fun h => absurd h (by decide))
          refine lv_iconst (v := 1) hx hb dX7_spreads_58 (by decide) ?_
          refine lv_goto (tgt := 63) hx hb dX7_spreads_59 (by decide) ?_
          refine lv_istore_n (lv' := [(2, .int 1), (3, .int s1), (0, .ref mz), (1, .int 4)]) hx hb dX7_spreads_63 rfl hl (by decide) rfl (fun ls hl => ?_)
          refine lv_aload_n hx hb dX7_spreads_64 rfl (lv_at hl 2 rfl) ?_
          refine lv_aload_n hx hb dX7_spreads_65 rfl (lv_at hl 2 rfl) ?_
          refine va_get (D := (dC, dI)) (ci := 7) (v := .ref mq25) (C := RX7) (T := TX7) (N := 39) hx hb hts in_X7_spreads_4_X7 hown hK hP 3 rfl rfl 25 (by decide) (hts _ wd_X7_spreads_4_3) (fun _ h9 => h9) rfl dX7_spreads_66 ?_
          refine lv_iload_n hx hb dX7_spreads_69 rfl (lv_at hl 1 rfl) ?_
          have hin_50 : vp_in s1 40 := (i_in rfl (by omega) (by omega))
          refine va_iald hx hb hK hP 2 2 rfl rfl hin_50 dX7_spreads_70 ?_
          refine lv_topi (fun v_51 ev_51 => ?_)
          have kv_51 : v_51.toInt = (mf25 s1.toNatClampNeg).toInt := congrArg Int32.toInt ev_51
          have hv_51 := RG.at hR_mq25 hin_50 ev_51
          refine lv_aload_n hx hb dX7_spreads_71 rfl (lv_at hl 2 rfl) ?_
          refine va_get (D := (dC, dI)) (ci := 7) (v := .ref mq24) (C := RX7) (T := TX7) (N := 39) hx hb hts in_X7_spreads_4_X7 hown hK hP 3 rfl rfl 24 (by decide) (hts _ wd_X7_spreads_4_2) (fun _ h9 => h9) rfl dX7_spreads_72 ?_
          refine lv_iload_n hx hb dX7_spreads_75 rfl (lv_at hl 1 rfl) ?_
          have hin_52 : vp_in s1 40 := (i_in rfl (by omega) (by omega))
          refine va_iald hx hb hK hP 1 1 rfl rfl hin_52 dX7_spreads_76 ?_
          refine lv_topi (fun v_53 ev_53 => ?_)
          have kv_53 : v_53.toInt = (mf24 s1.toNatClampNeg).toInt := congrArg Int32.toInt ev_53
          have hv_53 := RG.at hR_mq24 hin_52 ev_53
          have hPc := hP.sub (ws' := [(mz, .inr (7, [.int mth, .ref mq1, .ref mq2, .ref mq3, .ref mq4, .ref mq5, .int mtd, .int mat, .int mtk, .int mpl, .int mva, .long mwd, .int mbd, .int mbp, .int mft, .int mfp, .ref mq16, .ref mq17, .ref mq18, .ref mq19, .ref mq20, .ref mq21, .int mlt, .ref mq23, .ref mq24, .ref mq25, .int msd, .ref mq27, .ref mq28, .ref mq29, .ref mq30, .ref mq31, .ref mq32, .int mlr, .int mst, .long mob, .long msb, .ref mq37, .int mln])), (mq27, .inl (mk27, 25, .inl ns27_13))]) [3, 4] rfl
          have hDc := hD.sub (ws' := [(mz, .inr (7, [.int mth, .ref mq1, .ref mq2, .ref mq3, .ref mq4, .ref mq5, .int mtd, .int mat, .int mtk, .int mpl, .int mva, .long mwd, .int mbd, .int mbp, .int mft, .int mfp, .ref mq16, .ref mq17, .ref mq18, .ref mq19, .ref mq20, .ref mq21, .int mlt, .ref mq23, .ref mq24, .ref mq25, .int msd, .ref mq27, .ref mq28, .ref mq29, .ref mq30, .ref mq31, .ref mq32, .int mlr, .int mst, .long mob, .long msb, .ref mq37, .int mln])), (mq27, .inl (mk27, 25, .inl ns27_13))]) [3, 4] (by decide) rfl
          have hKc := hK.sub (tys' := [(mk27, .int)]) [3] rfl
          have hFc := va_free (wc := [(mz, .inr (7, [.int mth, .ref mq1, .ref mq2, .ref mq3, .ref mq4, .ref mq5, .int mtd, .int mat, .int mtk, .int mpl, .int mva, .long mwd, .int mbd, .int mbp, .int mft, .int mfp, .ref mq16, .ref mq17, .ref mq18, .ref mq19, .ref mq20, .ref mq21, .int mlt, .ref mq23, .ref mq24, .ref mq25, .int msd, .ref mq27, .ref mq28, .ref mq29, .ref mq30, .ref mq31, .ref mq32, .int mlr, .int mst, .long mob, .long msb, .ref mq37, .int mln])), (mq27, .inl (mk27, 25, .inl ns27_13))]) hD hS hA [3, 4] rfl
          refine va_calli (va_runV (As := [.int v_51, .int v_53]) (rest := []) ⟨hx, hb, hml, hown, hts⟩ (c_X7_nears l dC dI H.size mz mth mq1 mq2 mq3 mq4 mq5 mtd mat mtk mpl mva mwd mbd mbp mft mfp mq16 mq17 mq18 mq19 mq20 mq21 mlt mq23 mq24 mq25 msd mq27 mq28 mq29 mq30 mq31 mq32 mlr mst mob msb mq37 mln mk27 ns27_13 v_51 v_53 (by omega) (by omega) hp_15) (cwV 2 hts g_X7_spreads_4_X7_nears rfl rfl rfl (by decide +kernel) ⟨Nat.le_of_ble_eq_true rfl, Nat.le_of_ble_eq_true rfl⟩) ⟨fun a U g mk q => by obtain ⟨q0, q1, qP, qK, qD⟩ := q; exact ⟨q0, q1, qP, va_K.moved (u := U) (U := U.calling g mk a) (Vm.Alike.refl U.vm) qK, qD⟩, va_recv hKc hPc (ci := 7) (q0 := 0) rfl rfl, fun U hU hW => ⟨rfl, by rw [hU], by rw [hU]; exact hPc, va_K.moved hW.alike hKc, hDc.weaken (fun _ _ _ _ => trivial)⟩⟩ rfl rfl hl.1 rfl (lv_room (Nat.le_of_ble_eq_true rfl)) dX7_spreads_77 ⟨Nat.le_of_ble_eq_true rfl, Nat.le_of_ble_eq_true rfl⟩) hS (fun q _ h => hFc q h) hFc (fun r_54 u t H1 locs ht hvm hw_55 hB hz1 hk1 hS => ?_)
          obtain ⟨ns27_56, rfl⟩ : ∃ z, z = u := ⟨_, rfl⟩
          obtain ⟨hP1, hK1, hD1⟩ := hB
          have hP1 : va_P (dC, dI) vwCl [(mz, .inr (7, [.int mth, .ref mq1, .ref mq2, .ref mq3, .ref mq4, .ref mq5, .int mtd, .int mat, .int mtk, .int mpl, .int mva, .long mwd, .int mbd, .int mbp, .int mft, .int mfp, .ref mq16, .ref mq17, .ref mq18, .ref mq19, .ref mq20, .ref mq21, .int mlt, .ref mq23, .ref mq24, .ref mq25, .int msd, .ref mq27, .ref mq28, .ref mq29, .ref mq30, .ref mq31, .ref mq32, .int mlr, .int mst, .long mob, .long msb, .ref mq37, .int mln])), (mq27, .inl (mk27, 25, .inl ns27_56))] t.heap := hP1
          rw [ht] at hP1
          try dsimp only at hw_55
          obtain ⟨hp_57, hp_58⟩ := hw_55
          obtain ⟨hP, hD⟩ := va_join (wr := [(mq18, .inl (mk18, 200, .inl mf18)), (mq24, .inl (mk24, 40, .inl mf24)), (mq25, .inl (mk25, 40, .inl mf25))]) (w1 := [(mz, .inr (7, [.int mth, .ref mq1, .ref mq2, .ref mq3, .ref mq4, .ref mq5, .int mtd, .int mat, .int mtk, .int mpl, .int mva, .long mwd, .int mbd, .int mbp, .int mft, .int mfp, .ref mq16, .ref mq17, .ref mq18, .ref mq19, .ref mq20, .ref mq21, .int mlt, .ref mq23, .ref mq24, .ref mq25, .int msd, .ref mq27, .ref mq28, .ref mq29, .ref mq30, .ref mq31, .ref mq32, .int mlr, .int mst, .long mob, .long msb, .ref mq37, .int mln])), (mq27, .inl (mk27, 25, .inl ns27_56))]) hP hD [3, 4] [0, 1, 2] rfl rfl (by decide) (by decide) hk1 hFc hP1 hD1
          generalize H1 = H at hP hS ⊢
          have hP : va_P (dC, dI) vwCl [(mq18, .inl (mk18, 200, .inl mf18)), (mq24, .inl (mk24, 40, .inl mf24)), (mq25, .inl (mk25, 40, .inl mf25)), (mz, .inr (7, [.int mth, .ref mq1, .ref mq2, .ref mq3, .ref mq4, .ref mq5, .int mtd, .int mat, .int mtk, .int mpl, .int mva, .long mwd, .int mbd, .int mbp, .int mft, .int mfp, .ref mq16, .ref mq17, .ref mq18, .ref mq19, .ref mq20, .ref mq21, .int mlt, .ref mq23, .ref mq24, .ref mq25, .int msd, .ref mq27, .ref mq28, .ref mq29, .ref mq30, .ref mq31, .ref mq32, .int mlr, .int mst, .long mob, .long msb, .ref mq37, .int mln])), (mq27, .inl (mk27, 25, .inl ns27_56))] H := hP
          have hD : va_D A [(mq18, .inl (mk18, 200, .inl mf18)), (mq24, .inl (mk24, 40, .inl mf24)), (mq25, .inl (mk25, 40, .inl mf25)), (mz, .inr (7, [.int mth, .ref mq1, .ref mq2, .ref mq3, .ref mq4, .ref mq5, .int mtd, .int mat, .int mtk, .int mpl, .int mva, .long mwd, .int mbd, .int mbp, .int mft, .int mfp, .ref mq16, .ref mq17, .ref mq18, .ref mq19, .ref mq20, .ref mq21, .int mlt, .ref mq23, .ref mq24, .ref mq25, .int msd, .ref mq27, .ref mq28, .ref mq29, .ref mq30, .ref mq31, .ref mq32, .int mlr, .int mst, .long mob, .long msb, .ref mq37, .int mln])), (mq27, .inl (mk27, 25, .inl ns27_56))] := hD
          rcases hp_57 with ⟨rq_59, hd2, hn2⟩ | ⟨rq_59, hd2, hn2⟩
          · obtain rfl : r_54 = 0 := rq_59
            have hq2 : ns27_56 = nr ns27_13 (mf25 s1.toNatClampNeg).toNatClampNeg (mf24 s1.toNatClampNeg).toNatClampNeg := by rw [← ev_51, ← ev_53]; exact hd2.trans hn2.symm
            have hm2 : FM ns27_56 ≤ FM ns27_13 := by rw [hd2]; exact Nat.le_refl _
            rw [hq1] at hq2
            refine lv_if_ne (tgt := 87) hx hb dX7_spreads_80 (by decide) (fun h => absurd (by decide) h) (fun _ => ?_)
            refine lv_iload_n hx hb dX7_spreads_83 rfl (lv_at hl 0 rfl) ?_
            refine lv_if_eq (tgt := 91) hx hb dX7_spreads_84 (by decide) (fun h => absurd h (by decide)) (fun _ => ?_)
            refine lv_iconst (v := 1) hx hb dX7_spreads_87 (by decide) ?_
            refine lv_goto (tgt := 92) hx hb dX7_spreads_88 (by decide) ?_
            refine lv_istore_n (lv' := [(2, .int 1), (3, .int s1), (0, .ref mz), (1, .int 4)]) hx hb dX7_spreads_92 rfl hl (by decide) rfl (fun ls hl => ?_)
            obtain ⟨x_62, ex_62⟩ : ∃ y9 : Int32, y9 = s1 + Int32.ofInt 1 := ⟨_, rfl⟩
            have zx_62 : x_62.toInt = s1.toInt + 1 := by rw [ex_62]; exact i_add rfl (show (Int32.ofInt 1).toInt = 1 by decide) (by omega) (by omega)
            refine lv_iinc (v := x_62) (lv' := [(3, .int x_62), (2, .int 1), (0, .ref mz), (1, .int 4)]) hx hb dX7_spreads_93 hl (k := 1) rfl (by rw [ex_62]) (by decide) rfl (fun ls hl => ?_)
            refine lv_goto (tgt := 10) hx hb dX7_spreads_96 (by decide) ?_
            exact ih10 (x_62, (1 : Int32), ns27_56) _ _ _ ⟨(by have k0 : (1 : Int32).toInt = 1 := (by decide); (try dsimp only); omega), (by have k0 : (1 : Int32).toInt = 1 := (by decide); (try dsimp only); omega), (ps_step hps (i_sc (k := s1) (k2 := x_62) rfl (by omega) (by omega)) (x := x_4) (by rw [i_cn (k := x_4) rfl, i_cn (k := s1) rfl]; omega) ev_5 (Or.inl ⟨i_of (by have k9 : (0 : Int32).toInt = 0 := (by decide); omega), hq2⟩)), (by have k0 : (1 : Int32).toInt = 1 := (by decide); (try dsimp only); omega), (fun h9 => absurd h9 (show ¬ (1 : Int32).toInt = 0 by decide)), (fun h9 => by (try dsimp only); first | omega | (have hz9 := hmn (by omega); omega)), hp_58, hP.sub [3, 0, 1, 2, 4] rfl, hD.sub [3, 0, 1, 2, 4] (by decide) rfl, hS, lv_sub hl [0, 1, 2, 3] rfl⟩ (by have k0 : (1 : Int32).toInt = 1 := (by decide); (try dsimp only); omega)
          · obtain rfl : r_54 = 1 := rq_59
            have hq2 : ns27_56 = nr ns27_13 (mf25 s1.toNatClampNeg).toNatClampNeg (mf24 s1.toNatClampNeg).toNatClampNeg := by rw [← ev_51, ← ev_53]; exact hd2
            have hm2 : FM ns27_56 ≤ FM ns27_13 ∧ FM ns27_56 < FM ns27_13 := by omega
            rw [hq1] at hq2
            refine lv_if_ne (tgt := 87) hx hb dX7_spreads_80 (by decide) (fun _ => ?_) (fun h => absurd h (by decide))
            refine lv_iconst (v := 1) hx hb dX7_spreads_87 (by decide) ?_
            refine lv_goto (tgt := 92) hx hb dX7_spreads_88 (by decide) ?_
            refine lv_istore_n (lv' := [(2, .int 1), (3, .int s1), (0, .ref mz), (1, .int 4)]) hx hb dX7_spreads_92 rfl hl (by decide) rfl (fun ls hl => ?_)
            obtain ⟨x_64, ex_64⟩ : ∃ y9 : Int32, y9 = s1 + Int32.ofInt 1 := ⟨_, rfl⟩
            have zx_64 : x_64.toInt = s1.toInt + 1 := by rw [ex_64]; exact i_add rfl (show (Int32.ofInt 1).toInt = 1 by decide) (by omega) (by omega)
            refine lv_iinc (v := x_64) (lv' := [(3, .int x_64), (2, .int 1), (0, .ref mz), (1, .int 4)]) hx hb dX7_spreads_93 hl (k := 1) rfl (by rw [ex_64]) (by decide) rfl (fun ls hl => ?_)
            refine lv_goto (tgt := 10) hx hb dX7_spreads_96 (by decide) ?_
            exact ih10 (x_64, (1 : Int32), ns27_56) _ _ _ ⟨(by have k0 : (1 : Int32).toInt = 1 := (by decide); (try dsimp only); omega), (by have k0 : (1 : Int32).toInt = 1 := (by decide); (try dsimp only); omega), (ps_step hps (i_sc (k := s1) (k2 := x_64) rfl (by omega) (by omega)) (x := x_4) (by rw [i_cn (k := x_4) rfl, i_cn (k := s1) rfl]; omega) ev_5 (Or.inl ⟨i_of (by have k9 : (0 : Int32).toInt = 0 := (by decide); omega), hq2⟩)), (by have k0 : (1 : Int32).toInt = 1 := (by decide); (try dsimp only); omega), (fun h9 => absurd h9 (show ¬ (1 : Int32).toInt = 0 by decide)), (fun h9 => by (try dsimp only); first | omega | (have hz9 := hmn (by omega); omega)), hp_58, hP.sub [3, 0, 1, 2, 4] rfl, hD.sub [3, 0, 1, 2, 4] (by decide) rfl, hS, lv_sub hl [0, 1, 2, 3] rfl⟩ (by have k0 : (1 : Int32).toInt = 1 := (by decide); (try dsimp only); omega)
      · have c_6 : v_5.toInt ≠ 0 := i_ne (a := v_5) (b := 0) rfl (by decide) c_6
        refine lv_goto (tgt := 93) hx hb dX7_spreads_32 (by decide) ?_
        obtain ⟨x_65, ex_65⟩ : ∃ y9 : Int32, y9 = s1 + Int32.ofInt 1 := ⟨_, rfl⟩
        have zx_65 : x_65.toInt = s1.toInt + 1 := by rw [ex_65]; exact i_add rfl (show (Int32.ofInt 1).toInt = 1 by decide) (by omega) (by omega)
        refine lv_iinc (v := x_65) (lv' := [(3, .int x_65), (2, .int mo2), (0, .ref mz), (1, .int 4)]) hx hb dX7_spreads_93 hl (k := 0) rfl (by rw [ex_65]) (by decide) rfl (fun ls hl => ?_)
        refine lv_goto (tgt := 10) hx hb dX7_spreads_96 (by decide) ?_
        exact ih10 (x_65, mo2, f2) _ _ _ ⟨(by (try dsimp only); omega), (by (try dsimp only); omega), (ps_step hps (i_sc (k := s1) (k2 := x_65) rfl (by omega) (by omega)) (x := x_4) (by rw [i_cn (k := x_4) rfl, i_cn (k := s1) rfl]; omega) ev_5 (Or.inr ⟨fun q9 => absurd (congrArg Int32.toInt q9) (by have k9 : (0 : Int32).toInt = 0 := (by decide); rw [k9]; omega), rfl⟩)), (by (try dsimp only); omega), hmz, hmn, hFI2, hP.sub [0, 1, 2, 3, 4] rfl, hD.sub [0, 1, 2, 3, 4] (by decide) rfl, hS, lv_sub hl [0, 1, 2, 3] rfl⟩ (by (try dsimp only); omega)

