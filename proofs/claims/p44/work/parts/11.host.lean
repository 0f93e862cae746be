theorem dX2_measureAll_0 : decode cX2_measureAll 0 = .ok (.iconst 0, 1) := by decide +kernel
theorem dX2_measureAll_1 : decode cX2_measureAll 1 = .ok (.istore_n 2, 1) := by decide +kernel
theorem dX2_measureAll_2 : decode cX2_measureAll 2 = .ok (.iload_n 2, 1) := by decide +kernel
theorem dX2_measureAll_3 : decode cX2_measureAll 3 = .ok (.aload_n 1, 1) := by decide +kernel
theorem dX2_measureAll_4 : decode cX2_measureAll 4 = .ok (.getfield 23, 3) := by decide +kernel
theorem dX2_measureAll_7 : decode cX2_measureAll 7 = .ok (.if_icmp .ge 32, 3) := by decide +kernel
theorem dX2_measureAll_10 : decode cX2_measureAll 10 = .ok (.aload_n 1, 1) := by decide +kernel
theorem dX2_measureAll_11 : decode cX2_measureAll 11 = .ok (.getfield 29, 3) := by decide +kernel
theorem dX2_measureAll_14 : decode cX2_measureAll 14 = .ok (.aload_n 1, 1) := by decide +kernel
theorem dX2_measureAll_15 : decode cX2_measureAll 15 = .ok (.getfield 33, 3) := by decide +kernel
theorem dX2_measureAll_18 : decode cX2_measureAll 18 = .ok (.iload_n 2, 1) := by decide +kernel
theorem dX2_measureAll_19 : decode cX2_measureAll 19 = .ok (.iaload, 1) := by decide +kernel
theorem dX2_measureAll_20 : decode cX2_measureAll 20 = .ok (.aload_n 1, 1) := by decide +kernel
theorem dX2_measureAll_21 : decode cX2_measureAll 21 = .ok (.invokevirtual 36, 3) := by decide +kernel
theorem dX2_measureAll_24 : decode cX2_measureAll 24 = .ok (.aload_n 0, 1) := by decide +kernel
theorem dX2_measureAll_25 : decode cX2_measureAll 25 = .ok (.getfield 20, 3) := by decide +kernel
theorem dX2_measureAll_28 : decode cX2_measureAll 28 = .ok (.iload_n 2, 1) := by decide +kernel
theorem dX2_measureAll_29 : decode cX2_measureAll 29 = .ok (.aaload, 1) := by decide +kernel
theorem dX2_measureAll_30 : decode cX2_measureAll 30 = .ok (.invokevirtual 40, 3) := by decide +kernel
theorem dX2_measureAll_33 : decode cX2_measureAll 33 = .ok (.iinc 2 1, 3) := by decide +kernel
theorem dX2_measureAll_36 : decode cX2_measureAll 36 = .ok (.goto (-34), 3) := by decide +kernel
theorem dX2_measureAll_39 : decode cX2_measureAll 39 = .ok (.return_, 1) := by decide +kernel
def wz_X2_measureAll : List Cond := .code yX2_measureAll cX2_measureAll 3 none :: ([Cond.fieldLink RX2 23 "HedgeMaze$Garden" "guestCount" "I", Cond.fieldLink RX2 29 "HedgeMaze$Garden" "plan" "LHedgeMaze$Plan;", Cond.fieldLink RX2 33 "HedgeMaze$Garden" "guests" "[I", Cond.fieldLink RX2 20 "HedgeMaze$Host" "stepsFrom" "[[I", Cond.methodLink RX2 36 yX0_openSides, Cond.instanceMethod yX0_openSides, Cond.selects RX0 yX0_openSides yX0_openSides, Cond.initialized RX0, Cond.code yX0_openSides cX0_openSides 1 (some .long), Cond.fieldLink RX0 22 "HedgeMaze$Garden" "hedges" "J", Cond.methodLink RX0 71 yX0_openWith, Cond.instanceMethod yX0_openWith, Cond.selects RX0 yX0_openWith yX0_openWith, Cond.code yX0_openWith cX0_openWith 3 (some .long), Cond.fieldLink RX0 12 "HedgeMaze$Garden" "plan" "LHedgeMaze$Plan;", Cond.fieldLink RX0 75 "HedgeMaze$Plan" "allSides" "J", Cond.fieldLink RX0 26 "HedgeMaze$Garden" "walls" "J", Cond.constantLong RX0 78 (-1), Cond.methodLink RX2 40 yX3_measure, Cond.instanceMethod yX3_measure, Cond.selects RX3 yX3_measure yX3_measure, Cond.initialized RX3, Cond.code yX3_measure cX3_measure 8 none, Cond.fieldLink RX3 18 "HedgeMaze$Plan" "cellCount" "I", Cond.methodLink RX3 48 yJ7_fill_53178, Cond.static yJ7_fill_53178, Cond.initialized RJ7, Cond.code yJ7_fill_53178 cJ7_fill_53178 4 none, Cond.methodLink RX3 71 yX3_grow, Cond.instanceMethod yX3_grow, Cond.selects RX3 yX3_grow yX3_grow, Cond.code yX3_grow cX3_grow 6 (some .int), Cond.fieldLink RX3 9 "HedgeMaze$Plan" "wide" "I"] ++ wsX00 ++ wsX20 ++ wsX30)
theorem wd_X2_measureAll_0 : Cond.fieldLink RX2 23 "HedgeMaze$Garden" "guestCount" "I" ∈ wz_X2_measureAll := List.mem_of_getElem? (i := 1) rfl
theorem wd_X2_measureAll_1 : Cond.fieldLink RX2 29 "HedgeMaze$Garden" "plan" "LHedgeMaze$Plan;" ∈ wz_X2_measureAll := List.mem_of_getElem? (i := 2) rfl
theorem wd_X2_measureAll_2 : Cond.fieldLink RX2 33 "HedgeMaze$Garden" "guests" "[I" ∈ wz_X2_measureAll := List.mem_of_getElem? (i := 3) rfl
theorem wd_X2_measureAll_3 : Cond.fieldLink RX2 20 "HedgeMaze$Host" "stepsFrom" "[[I" ∈ wz_X2_measureAll := List.mem_of_getElem? (i := 4) rfl
theorem in_X2_measureAll_X0 : ∀ w ∈ wsX00, w ∈ wz_X2_measureAll := fun _ h => List.mem_cons_of_mem _ (List.mem_append_left _ (List.mem_append_left _ (List.mem_append_right _ h)))
theorem in_X2_measureAll_X2 : ∀ w ∈ wsX20, w ∈ wz_X2_measureAll := fun _ h => List.mem_cons_of_mem _ (List.mem_append_left _ (List.mem_append_right _ h))
set_option maxRecDepth 20000 in
theorem g_X2_measureAll_X0_openSides : GoodIn wz_X2_measureAll (wsV RX2 36 RX0 yX0_openSides wz_X0_openSides) := goodIn_r _ [5, 6, 7, 8, 9, 10, 11, 12, 13, 8, 14, 15, 16, 17, 18, 34, 35, 36, 37, 38, 39, 40, 41, 42, 43, 44, 45, 49, 50, 51, 52, 53, 54, 55, 56, 57] rfl (by decide +kernel)
set_option maxRecDepth 20000 in
theorem g_X2_measureAll_X3_measure : GoodIn wz_X2_measureAll (wsV RX2 40 RX3 yX3_measure wz_X3_measure) := goodIn_r _ [19, 20, 21, 22, 23, 24, 25, 26, 27, 28, 29, 30, 31, 22, 32, 33, 49, 50, 51, 52, 53, 54, 55, 56, 57] rfl (by decide +kernel)
set_option maxHeartbeats 4000000 in
set_option maxRecDepth 100000 in
theorem c_X2_measureAll (l : Launch) (dC : Nat → ClassId) (dI : Nat → Nat → Nat) (sz : Nat) (ho : Nat) (hob : Nat) (hoo : Nat) (hos : Nat) (hoks : ClassId) (wS : Nat → Option Nat) (hr0 : Nat) (hkr0 : ClassId) (wR0 : Nat → Int32) (hr1 : Nat) (hkr1 : ClassId) (wR1 : Nat → Int32) (hr2 : Nat) (hkr2 : ClassId) (wR2 : Nat → Int32) (hr3 : Nat) (hkr3 : ClassId) (wR3 : Nat → Int32) (hr4 : Nat) (hkr4 : ClassId) (wR4 : Nat → Int32) (gd : Nat) (gdl : Int32) (gdh : Int64) (gdw : Int64) (gdi : Int32) (gde : Int32) (gdc : Int32) (gdt : Nat) (gdg : Int32) (gdu : Nat) (gdn : Int32) (gdx : Nat) (gdku : ClassId) (gdU : Nat → Int32) (pl : Nat) (plw : Int32) (pld : Int32) (plc : Int32) (pls : Int32) (plm : Int64) (plf : Nat) (plo : Nat) (plb : Nat) (pla : Nat) (hq0 : wS 0 = some hr0) (hq1 : wS 1 = some hr1) (hq2 : wS 2 = some hr2) (hq3 : wS 3 = some hr3) (hq4 : wS 4 = some hr4) (h_gdg : 0 ≤ gdg.toInt ∧ gdg.toInt ≤ 5) (h_plc : 0 ≤ plc.toInt ∧ plc.toInt ≤ 25) (hR_gdu : RG gdU 5 0 24) : Met l yX2_measureAll wz_X2_measureAll ({ frames := 2, cells := 0, slots := 0, locals := 52 }) (va_Pc [.ref ho, .ref gd] (fun U => U.heap.size = sz ∧ va_P (dC, dI) vwCl [(ho, .inr (2, [.ref hob, .ref hoo, .ref hos])), (hos, .inl (hoks, 5, .inr (.inr (.inr (.inr wS))))), (hr0, .inl (hkr0, 25, .inl wR0)), (hr1, .inl (hkr1, 25, .inl wR1)), (hr2, .inl (hkr2, 25, .inl wR2)), (hr3, .inl (hkr3, 25, .inl wR3)), (hr4, .inl (hkr4, 25, .inl wR4)), (gd, .inr (0, [.ref pl, .int gdl, .long gdh, .long gdw, .int gdi, .int gde, .int gdc, .ref gdt, .int gdg, .ref gdu, .int gdn, .ref gdx])), (gdu, .inl (gdku, 5, .inl gdU)), (pl, .inr (3, [.int plw, .int pld, .int plc, .int pls, .long plm, .ref plf, .ref plo, .ref plb, .ref pla]))] U.heap ∧ va_K (dC, dI) vwCl [(hoks, .array .int), (hkr0, .int), (hkr1, .int), (hkr2, .int), (hkr3, .int), (hkr4, .int), (gdku, .int)] U ∧ va_D (fun _ => True) [(ho, .inr (2, [.ref hob, .ref hoo, .ref hos])), (hos, .inl (hoks, 5, .inr (.inr (.inr (.inr wS))))), (hr0, .inl (hkr0, 25, .inl wR0)), (hr1, .inl (hkr1, 25, .inl wR1)), (hr2, .inl (hkr2, 25, .inl wR2)), (hr3, .inl (hkr3, 25, .inl wR3)), (hr4, .inl (hkr4, 25, .inl wR4)), (gd, .inr (0, [.ref pl, .int gdl, .long gdh, .long gdw, .int gdi, .int gde, .int gdc, .ref gdt, .int gdg, .ref gdu, .int gdn, .ref gdx])), (gdu, .inl (gdku, 5, .inl gdU)), (pl, .inr (3, [.int plw, .int pld, .int plc, .int pls, .long plm, .ref plf, .ref plo, .ref plb, .ref pla]))])) (va_Qv (fun (u : (Nat → Int32) × (Nat → Int32) × (Nat → Int32) × (Nat → Int32) × (Nat → Int32)) => True) (fun (u : (Nat → Int32) × (Nat → Int32) × (Nat → Int32) × (Nat → Int32) × (Nat → Int32)) (t : State) => va_P (dC, dI) vwCl [(ho, .inr (2, [.ref hob, .ref hoo, .ref hos])), (hos, .inl (hoks, 5, .inr (.inr (.inr (.inr wS))))), (hr0, .inl (hkr0, 25, .inl u.1)), (hr1, .inl (hkr1, 25, .inl u.2.1)), (hr2, .inl (hkr2, 25, .inl u.2.2.1)), (hr3, .inl (hkr3, 25, .inl u.2.2.2.1)), (hr4, .inl (hkr4, 25, .inl u.2.2.2.2)), (gd, .inr (0, [.ref pl, .int gdl, .long gdh, .long gdw, .int gdi, .int gde, .int gdc, .ref gdt, .int gdg, .ref gdu, .int gdn, .ref gdx])), (gdu, .inl (gdku, 5, .inl gdU)), (pl, .inr (3, [.int plw, .int pld, .int plc, .int pls, .long plm, .ref plf, .ref plo, .ref plb, .ref pla]))] t.heap ∧ va_K (dC, dI) vwCl [] t ∧ va_D (va_A [(ho, .inr (2, [.ref hob, .ref hoo, .ref hos])), (hos, .inl (hoks, 5, .inr (.inr (.inr (.inr wS))))), (hr0, .inl (hkr0, 25, .inl wR0)), (hr1, .inl (hkr1, 25, .inl wR1)), (hr2, .inl (hkr2, 25, .inl wR2)), (hr3, .inl (hkr3, 25, .inl wR3)), (hr4, .inl (hkr4, 25, .inl wR4)), (gd, .inr (0, [.ref pl, .int gdl, .long gdh, .long gdw, .int gdi, .int gde, .int gdc, .ref gdt, .int gdg, .ref gdu, .int gdn, .ref gdx])), (gdu, .inl (gdku, 5, .inl gdU)), (pl, .inr (3, [.int plw, .int pld, .int plc, .int pls, .long plm, .ref plf, .ref plo, .ref plb, .ref pla]))] sz) [(ho, .inr (2, [.ref hob, .ref hoo, .ref hos])), (hos, .inl (hoks, 5, .inr (.inr (.inr (.inr wS))))), (hr0, .inl (hkr0, 25, .inl u.1)), (hr1, .inl (hkr1, 25, .inl u.2.1)), (hr2, .inl (hkr2, 25, .inl u.2.2.1)), (hr3, .inl (hkr3, 25, .inl u.2.2.2.1)), (hr4, .inl (hkr4, 25, .inl u.2.2.2.2)), (gd, .inr (0, [.ref pl, .int gdl, .long gdh, .long gdw, .int gdi, .int gde, .int gdc, .ref gdt, .int gdg, .ref gdu, .int gdn, .ref gdx])), (gdu, .inl (gdku, 5, .inl gdU)), (pl, .inr (3, [.int plw, .int pld, .int plc, .int pls, .long plm, .ref plf, .ref plo, .ref plb, .ref pla]))]) (va_A [(ho, .inr (2, [.ref hob, .ref hoo, .ref hos])), (hos, .inl (hoks, 5, .inr (.inr (.inr (.inr wS))))), (hr0, .inl (hkr0, 25, .inl wR0)), (hr1, .inl (hkr1, 25, .inl wR1)), (hr2, .inl (hkr2, 25, .inl wR2)), (hr3, .inl (hkr3, 25, .inl wR3)), (hr4, .inl (hkr4, 25, .inl wR4)), (gd, .inr (0, [.ref pl, .int gdl, .long gdh, .long gdw, .int gdi, .int gde, .int gdc, .ref gdt, .int gdg, .ref gdu, .int gdn, .ref gdx])), (gdu, .inl (gdku, 5, .inl gdU)), (pl, .inr (3, [.int plw, .int pld, .int plc, .int pls, .long plm, .ref plf, .ref plo, .ref plb, .ref pla]))] sz)) 0 0 (va_A [(ho, .inr (2, [.ref hob, .ref hoo, .ref hos])), (hos, .inl (hoks, 5, .inr (.inr (.inr (.inr wS))))), (hr0, .inl (hkr0, 25, .inl wR0)), (hr1, .inl (hkr1, 25, .inl wR1)), (hr2, .inl (hkr2, 25, .inl wR2)), (hr3, .inl (hkr3, 25, .inl wR3)), (hr4, .inl (hkr4, 25, .inl wR4)), (gd, .inr (0, [.ref pl, .int gdl, .long gdh, .long gdw, .int gdi, .int gde, .int gdc, .ref gdt, .int gdg, .ref gdu, .int gdn, .ref gdx])), (gdu, .inl (gdku, 5, .inl gdU)), (pl, .inr (3, [.int plw, .int pld, .int plc, .int pls, .long plm, .ref plf, .ref plo, .ref plb, .ref pla]))] sz) := by
  refine Met.ofW (cc := cX2_measureAll) (maxL := 3) (ret := none) (by decide) rfl ?_
  intro p e s m args below meth c s₁ B hml hv
  obtain ⟨rfl, hsz, hP, hK, hD0⟩ := hv
  have hx := B.exec
  have hb := B.bytes
  have hr := B.returns
  have hts := atoms_spec (ws := wz_X2_measureAll) B.pre
  have hown : s.vm.findClass RX2 = some m.cls := findClass_of_methodNamed B.named
  have hlocks := B.notSynchronized
  subst hsz
  have hD := hD0.self (sz := s.heap.size)
  generalize hAe : va_A [(ho, .inr (2, [.ref hob, .ref hoo, .ref hos])), (hos, .inl (hoks, 5, .inr (.inr (.inr (.inr wS))))), (hr0, .inl (hkr0, 25, .inl wR0)), (hr1, .inl (hkr1, 25, .inl wR1)), (hr2, .inl (hkr2, 25, .inl wR2)), (hr3, .inl (hkr3, 25, .inl wR3)), (hr4, .inl (hkr4, 25, .inl wR4)), (gd, .inr (0, [.ref pl, .int gdl, .long gdh, .long gdw, .int gdi, .int gde, .int gdc, .ref gdt, .int gdg, .ref gdu, .int gdn, .ref gdx])), (gdu, .inl (gdku, 5, .inl gdU)), (pl, .inr (3, [.int plw, .int pld, .int plc, .int pls, .long plm, .ref plf, .ref plo, .ref plb, .ref pla]))] s.heap.size = A at hD ⊢
  have hA : ∀ q : Nat, s.heap.size ≤ q → A q := fun q h => by rw [← hAe]; exact Or.inr h
  have hS : va_S A s.heap s.heap [] := va_S.rf
  have hP : va_P (dC, dI) vwCl [(ho, .inr (2, [.ref hob, .ref hoo, .ref hos])), (hos, .inl (hoks, 5, .inr (.inr (.inr (.inr wS))))), (hr0, .inl (hkr0, 25, .inl wR0)), (hr1, .inl (hkr1, 25, .inl wR1)), (hr2, .inl (hkr2, 25, .inl wR2)), (hr3, .inl (hkr3, 25, .inl wR3)), (hr4, .inl (hkr4, 25, .inl wR4)), (gd, .inr (0, [.ref pl, .int gdl, .long gdh, .long gdw, .int gdi, .int gde, .int gdc, .ref gdt, .int gdg, .ref gdu, .int gdn, .ref gdx])), (gdu, .inl (gdku, 5, .inl gdU)), (pl, .inr (3, [.int plw, .int pld, .int plc, .int pls, .long plm, .ref plf, .ref plo, .ref plb, .ref pla]))] s.heap := hP
  have hl := lv_entry ([.ref ho, .ref gd]) (n := 3) (Nat.le_of_ble_eq_true rfl)
  rw [lg_entry_eq]
  generalize (lg_sl ([.ref ho, .ref gd]) ++ List.replicate (3 - (lg_sl ([.ref ho, .ref gd])).length) Slot.unset).toArray = ls at hl ⊢
  have hl : lv_has ls 3 [(0, .ref ho), (1, .ref gd)] := hl
  refine lv_iconst (v := 0) hx hb dX2_measureAll_0 (by decide) ?_
  refine lv_istore_n (lv' := [(2, .int 0), (0, .ref ho), (1, .ref gd)]) hx hb dX2_measureAll_1 rfl hl (by decide) rfl (fun ls hl => ?_)
  refine lp_W (I := fun (a : Int32 × (Nat → Int32) × (Nat → Int32) × (Nat → Int32) × (Nat → Int32) × (Nat → Int32)) H locs ls => (0 ≤ a.1.toInt ∧ a.1.toInt ≤ 5) ∧ va_P (dC, dI) vwCl [(ho, .inr (2, [.ref hob, .ref hoo, .ref hos])), (hos, .inl (hoks, 5, .inr (.inr (.inr (.inr wS))))), (hr0, .inl (hkr0, 25, .inl a.2.1)), (hr1, .inl (hkr1, 25, .inl a.2.2.1)), (hr2, .inl (hkr2, 25, .inl a.2.2.2.1)), (hr3, .inl (hkr3, 25, .inl a.2.2.2.2.1)), (hr4, .inl (hkr4, 25, .inl a.2.2.2.2.2)), (gd, .inr (0, [.ref pl, .int gdl, .long gdh, .long gdw, .int gdi, .int gde, .int gdc, .ref gdt, .int gdg, .ref gdu, .int gdn, .ref gdx])), (gdu, .inl (gdku, 5, .inl gdU)), (pl, .inr (3, [.int plw, .int pld, .int plc, .int pls, .long plm, .ref plf, .ref plo, .ref plb, .ref pla]))] H ∧ va_D A [(ho, .inr (2, [.ref hob, .ref hoo, .ref hos])), (hos, .inl (hoks, 5, .inr (.inr (.inr (.inr wS))))), (hr0, .inl (hkr0, 25, .inl a.2.1)), (hr1, .inl (hkr1, 25, .inl a.2.2.1)), (hr2, .inl (hkr2, 25, .inl a.2.2.2.1)), (hr3, .inl (hkr3, 25, .inl a.2.2.2.2.1)), (hr4, .inl (hkr4, 25, .inl a.2.2.2.2.2)), (gd, .inr (0, [.ref pl, .int gdl, .long gdh, .long gdw, .int gdi, .int gde, .int gdc, .ref gdt, .int gdg, .ref gdu, .int gdn, .ref gdx])), (gdu, .inl (gdku, 5, .inl gdU)), (pl, .inr (3, [.int plw, .int pld, .int plc, .int pls, .long plm, .ref plf, .ref plo, .ref plb, .ref pla]))] ∧ va_S A s.heap H locs ∧ lv_has ls 3 [(2, .int a.1), (0, .ref ho), (1, .ref gd)]) (μ := fun a => (5 - a.1.toInt).toNat) ?_ ((0 : Int32), wR0, wR1, wR2, wR3, wR4) ⟨(by have k0 : (0 : Int32).toInt = 0 := (by decide); (try dsimp only); omega), hP.sub [0, 1, 2, 3, 4, 5, 6, 7, 8, 9] rfl, hD.sub [0, 1, 2, 3, 4, 5, 6, 7, 8, 9] (by decide) rfl, hS, lv_sub hl [0, 1, 2] rfl⟩
  intro a H locs ls hI ih2
  obtain ⟨i1, k0, k1, k2, k3, k4⟩ := a
  obtain ⟨h_i1, hP, hD, hS, hl⟩ := hI
  have h_i1 : 0 ≤ i1.toInt ∧ i1.toInt ≤ 5 := h_i1
  have hP : va_P (dC, dI) vwCl [(ho, .inr (2, [.ref hob, .ref hoo, .ref hos])), (hos, .inl (hoks, 5, .inr (.inr (.inr (.inr wS))))), (hr0, .inl (hkr0, 25, .inl k0)), (hr1, .inl (hkr1, 25, .inl k1)), (hr2, .inl (hkr2, 25, .inl k2)), (hr3, .inl (hkr3, 25, .inl k3)), (hr4, .inl (hkr4, 25, .inl k4)), (gd, .inr (0, [.ref pl, .int gdl, .long gdh, .long gdw, .int gdi, .int gde, .int gdc, .ref gdt, .int gdg, .ref gdu, .int gdn, .ref gdx])), (gdu, .inl (gdku, 5, .inl gdU)), (pl, .inr (3, [.int plw, .int pld, .int plc, .int pls, .long plm, .ref plf, .ref plo, .ref plb, .ref pla]))] H := hP
  have hD : va_D A [(ho, .inr (2, [.ref hob, .ref hoo, .ref hos])), (hos, .inl (hoks, 5, .inr (.inr (.inr (.inr wS))))), (hr0, .inl (hkr0, 25, .inl k0)), (hr1, .inl (hkr1, 25, .inl k1)), (hr2, .inl (hkr2, 25, .inl k2)), (hr3, .inl (hkr3, 25, .inl k3)), (hr4, .inl (hkr4, 25, .inl k4)), (gd, .inr (0, [.ref pl, .int gdl, .long gdh, .long gdw, .int gdi, .int gde, .int gdc, .ref gdt, .int gdg, .ref gdu, .int gdn, .ref gdx])), (gdu, .inl (gdku, 5, .inl gdU)), (pl, .inr (3, [.int plw, .int pld, .int plc, .int pls, .long plm, .ref plf, .ref plo, .ref plb, .ref pla]))] := hD
  have hl : lv_has ls 3 [(2, .int i1), (0, .ref ho), (1, .ref gd)] := hl
  refine lv_iload_n hx hb dX2_measureAll_2 rfl (lv_at hl 0 rfl) ?_
  refine lv_aload_n hx hb dX2_measureAll_3 rfl (lv_at hl 2 rfl) ?_
  refine va_get (D := (dC, dI)) (ci := 0) (v := .int gdg) (C := RX0) (T := TX0) (N := 12) hx hb hts in_X2_measureAll_X0 hown hK hP 7 rfl rfl 8 (by decide) (hts _ wd_X2_measureAll_0) (fun _ h9 => h9) rfl dX2_measureAll_4 ?_
  refine lv_icmp_ge (tgt := 39) hx hb dX2_measureAll_7 (by decide) (fun c_1 => ?_) (fun c_1 => ?_)
  · have c_1 : gdg.toInt ≤ i1.toInt := i_le (a := gdg) (b := i1) rfl rfl c_1
    have hP9 := hP.sub (ws' := [(ho, .inr (2, [.ref hob, .ref hoo, .ref hos])), (hos, .inl (hoks, 5, .inr (.inr (.inr (.inr wS))))), (hr0, .inl (hkr0, 25, .inl k0)), (hr1, .inl (hkr1, 25, .inl k1)), (hr2, .inl (hkr2, 25, .inl k2)), (hr3, .inl (hkr3, 25, .inl k3)), (hr4, .inl (hkr4, 25, .inl k4)), (gd, .inr (0, [.ref pl, .int gdl, .long gdh, .long gdw, .int gdi, .int gde, .int gdc, .ref gdt, .int gdg, .ref gdu, .int gdn, .ref gdx])), (gdu, .inl (gdku, 5, .inl gdU)), (pl, .inr (3, [.int plw, .int pld, .int plc, .int pls, .long plm, .ref plf, .ref plo, .ref plb, .ref pla]))]) [0, 1, 2, 3, 4, 5, 6, 7, 8, 9] rfl
    have hD9 := hD.sub (ws' := [(ho, .inr (2, [.ref hob, .ref hoo, .ref hos])), (hos, .inl (hoks, 5, .inr (.inr (.inr (.inr wS))))), (hr0, .inl (hkr0, 25, .inl k0)), (hr1, .inl (hkr1, 25, .inl k1)), (hr2, .inl (hkr2, 25, .inl k2)), (hr3, .inl (hkr3, 25, .inl k3)), (hr4, .inl (hkr4, 25, .inl k4)), (gd, .inr (0, [.ref pl, .int gdl, .long gdh, .long gdw, .int gdi, .int gde, .int gdc, .ref gdt, .int gdg, .ref gdu, .int gdn, .ref gdx])), (gdu, .inl (gdku, 5, .inl gdU)), (pl, .inr (3, [.int plw, .int pld, .int plc, .int pls, .long plm, .ref plf, .ref plo, .ref plb, .ref pla]))]) [0, 1, 2, 3, 4, 5, 6, 7, 8, 9] (by decide) rfl
    have hK9 := hK.sub (tys' := []) [] rfl
    refine W.widen (k := 0) (n := 0) (by omega) (by omega) ?_
    exact W.vret hx hb hr (fun t ht hW => ⟨⟨(k0, k1, k2, k3, k4), rfl, trivial, by rw [ht]; exact hP9, va_K.moved hW.alike hK9, hD9⟩, hS.F ht⟩) hS.2.2 dX2_measureAll_39
  · have c_1 : i1.toInt < gdg.toInt := i_nle (a := gdg) (b := i1) rfl rfl c_1
    refine lv_aload_n hx hb dX2_measureAll_10 rfl (lv_at hl 2 rfl) ?_
    refine va_get (D := (dC, dI)) (ci := 0) (v := .ref pl) (C := RX0) (T := TX0) (N := 12) hx hb hts in_X2_measureAll_X0 hown hK hP 7 rfl rfl 0 (by decide) (hts _ wd_X2_measureAll_1) (fun _ h9 => h9) rfl dX2_measureAll_11 ?_
    refine lv_aload_n hx hb dX2_measureAll_14 rfl (lv_at hl 2 rfl) ?_
    refine va_get (D := (dC, dI)) (ci := 0) (v := .ref gdu) (C := RX0) (T := TX0) (N := 12) hx hb hts in_X2_measureAll_X0 hown hK hP 7 rfl rfl 9 (by decide) (hts _ wd_X2_measureAll_2) (fun _ h9 => h9) rfl dX2_measureAll_15 ?_
    refine lv_iload_n hx hb dX2_measureAll_18 rfl (lv_at hl 0 rfl) ?_
    have hin_2 : vp_in i1 5 := (i_in rfl (by omega) (by omega))
    refine va_iald hx hb hK hP 8 6 rfl rfl hin_2 dX2_measureAll_19 ?_
    refine lv_topi (fun v_3 ev_3 => ?_)
    have hv_3 := RG.at hR_gdu hin_2 ev_3
    refine lv_aload_n hx hb dX2_measureAll_20 rfl (lv_at hl 2 rfl) ?_
    have hPc := hP.sub (ws' := [(gd, .inr (0, [.ref pl, .int gdl, .long gdh, .long gdw, .int gdi, .int gde, .int gdc, .ref gdt, .int gdg, .ref gdu, .int gdn, .ref gdx])), (pl, .inr (3, [.int plw, .int pld, .int plc, .int pls, .long plm, .ref plf, .ref plo, .ref plb, .ref pla]))]) [7, 9] rfl
    have hDc := hD.sub (ws' := [(gd, .inr (0, [.ref pl, .int gdl, .long gdh, .long gdw, .int gdi, .int gde, .int gdc, .ref gdt, .int gdg, .ref gdu, .int gdn, .ref gdx])), (pl, .inr (3, [.int plw, .int pld, .int plc, .int pls, .long plm, .ref plf, .ref plo, .ref plb, .ref pla]))]) [7, 9] (by decide) rfl
    have hKc := hK.sub (tys' := []) [] rfl
    have hFc := va_free (wc := [(gd, .inr (0, [.ref pl, .int gdl, .long gdh, .long gdw, .int gdi, .int gde, .int gdc, .ref gdt, .int gdg, .ref gdu, .int gdn, .ref gdx])), (pl, .inr (3, [.int plw, .int pld, .int plc, .int pls, .long plm, .ref plf, .ref plo, .ref plb, .ref pla]))]) hD hS hA [7, 9] rfl
    refine va_calll (va_runV (As := []) (rest := [.int v_3, .ref pl]) ⟨hx, hb, hml, hown, hts⟩ (c_X0_openSides l dC dI H.size gd gdl gdh gdw gdi gde gdc gdt gdg gdu gdn gdx pl plw pld plc pls plm plf plo plb pla ) (cwV 0 hts g_X2_measureAll_X0_openSides rfl rfl rfl (by decide +kernel) ⟨Nat.le_of_ble_eq_true rfl, Nat.le_of_ble_eq_true rfl⟩) ⟨fun a U g mk q => by obtain ⟨q0, q1, qP, qK, qD⟩ := q; exact ⟨q0, q1, qP, va_K.moved (u := U) (U := U.calling g mk a) (Vm.Alike.refl U.vm) qK, qD⟩, va_recv hKc hPc (ci := 0) (q0 := 0) rfl rfl, fun U hU hW => ⟨rfl, by rw [hU], by rw [hU]; exact hPc, va_K.moved hW.alike hKc, hDc.weaken (fun _ _ _ _ => trivial)⟩⟩ rfl rfl hl.1 rfl (lv_room (Nat.le_of_ble_eq_true rfl)) dX2_measureAll_21 ⟨Nat.le_of_ble_eq_true rfl, Nat.le_of_ble_eq_true rfl⟩) hS (fun q _ h => hFc q h) hFc (fun r_4 u t H1 locs ht hvm hw_5 hB hz1 hk1 hS => ?_)
    obtain ⟨hP1, hK1, hD1⟩ := hB
    have hP1 : va_P (dC, dI) vwCl [(gd, .inr (0, [.ref pl, .int gdl, .long gdh, .long gdw, .int gdi, .int gde, .int gdc, .ref gdt, .int gdg, .ref gdu, .int gdn, .ref gdx])), (pl, .inr (3, [.int plw, .int pld, .int plc, .int pls, .long plm, .ref plf, .ref plo, .ref plb, .ref pla]))] t.heap := hP1
    rw [ht] at hP1
    try dsimp only at hw_5
    obtain ⟨hP, hD⟩ := va_join (wr := [(ho, .inr (2, [.ref hob, .ref hoo, .ref hos])), (hos, .inl (hoks, 5, .inr (.inr (.inr (.inr wS))))), (hr0, .inl (hkr0, 25, .inl k0)), (hr1, .inl (hkr1, 25, .inl k1)), (hr2, .inl (hkr2, 25, .inl k2)), (hr3, .inl (hkr3, 25, .inl k3)), (hr4, .inl (hkr4, 25, .inl k4)), (gdu, .inl (gdku, 5, .inl gdU))]) (w1 := [(gd, .inr (0, [.ref pl, .int gdl, .long gdh, .long gdw, .int gdi, .int gde, .int gdc, .ref gdt, .int gdg, .ref gdu, .int gdn, .ref gdx])), (pl, .inr (3, [.int plw, .int pld, .int plc, .int pls, .long plm, .ref plf, .ref plo, .ref plb, .ref pla]))]) hP hD [7, 9] [0, 1, 2, 3, 4, 5, 6, 8] rfl rfl (by decide) (by decide) hk1 hFc hP1 hD1
    generalize H1 = H at hP hS ⊢
    have hP : va_P (dC, dI) vwCl [(ho, .inr (2, [.ref hob, .ref hoo, .ref hos])), (hos, .inl (hoks, 5, .inr (.inr (.inr (.inr wS))))), (hr0, .inl (hkr0, 25, .inl k0)), (hr1, .inl (hkr1, 25, .inl k1)), (hr2, .inl (hkr2, 25, .inl k2)), (hr3, .inl (hkr3, 25, .inl k3)), (hr4, .inl (hkr4, 25, .inl k4)), (gdu, .inl (gdku, 5, .inl gdU)), (gd, .inr (0, [.ref pl, .int gdl, .long gdh, .long gdw, .int gdi, .int gde, .int gdc, .ref gdt, .int gdg, .ref gdu, .int gdn, .ref gdx])), (pl, .inr (3, [.int plw, .int pld, .int plc, .int pls, .long plm, .ref plf, .ref plo, .ref plb, .ref pla]))] H := hP
    have hD : va_D A [(ho, .inr (2, [.ref hob, .ref hoo, .ref hos])), (hos, .inl (hoks, 5, .inr (.inr (.inr (.inr wS))))), (hr0, .inl (hkr0, 25, .inl k0)), (hr1, .inl (hkr1, 25, .inl k1)), (hr2, .inl (hkr2, 25, .inl k2)), (hr3, .inl (hkr3, 25, .inl k3)), (hr4, .inl (hkr4, 25, .inl k4)), (gdu, .inl (gdku, 5, .inl gdU)), (gd, .inr (0, [.ref pl, .int gdl, .long gdh, .long gdw, .int gdi, .int gde, .int gdc, .ref gdt, .int gdg, .ref gdu, .int gdn, .ref gdx])), (pl, .inr (3, [.int plw, .int pld, .int plc, .int pls, .long plm, .ref plf, .ref plo, .ref plb, .ref pla]))] := hD
    refine lv_aload_n hx hb dX2_measureAll_24 rfl (lv_at hl 1 rfl) ?_
    refine va_get (D := (dC, dI)) (ci := 2) (v := .ref hos) (C := RX2) (T := TX2) (N := 3) hx hb hts in_X2_measureAll_X2 hown hK hP 0 rfl rfl 2 (by decide) (hts _ wd_X2_measureAll_3) (fun _ h9 => h9) rfl dX2_measureAll_25 ?_
    refine lv_iload_n hx hb dX2_measureAll_28 rfl (lv_at hl 0 rfl) ?_
    have hPy_6 := hP
    have hDy_6 := hD
    have hSy_6 := hS
    have hly_6 := hl
    have hKy_6 := hK
    rcases (i_five (a := i1) (by omega) (by omega) : i1 = 0 ∨ i1 = 1 ∨ i1 = 2 ∨ i1 = 3 ∨ i1 = 4) with rfl | rfl | rfl | rfl | rfl
    · have hP := hPy_6
      have hD := hDy_6
      have hS := hSy_6
      have hl := hly_6
      have hK := hKy_6
      refine va_aldA (i := 0) hx hb hK hP 1 0 rfl rfl (vp_in_iff.mpr ⟨by decide, by decide⟩) dX2_measureAll_29 ?_
      refine W.eq (g2 := F0 m 30 ls (.ref hr0 :: .long r_4 :: .int v_3 :: .ref pl :: [])) (by rw [show wS (0 : Int32).toNatClampNeg = some hr0 from hq0]; rfl) ?_
      have hPc := hP.sub (ws' := [(pl, .inr (3, [.int plw, .int pld, .int plc, .int pls, .long plm, .ref plf, .ref plo, .ref plb, .ref pla])), (hr0, .inl (hkr0, 25, .inl k0))]) [9, 2] rfl
      have hDc := hD.sub (ws' := [(pl, .inr (3, [.int plw, .int pld, .int plc, .int pls, .long plm, .ref plf, .ref plo, .ref plb, .ref pla])), (hr0, .inl (hkr0, 25, .inl k0))]) [9, 2] (by decide) rfl
      have hKc := hK.sub (tys' := [(hkr0, .int)]) [1] rfl
      have hFc := va_free (wc := [(pl, .inr (3, [.int plw, .int pld, .int plc, .int pls, .long plm, .ref plf, .ref plo, .ref plb, .ref pla])), (hr0, .inl (hkr0, 25, .inl k0))]) hD hS hA [9, 2] rfl
      refine va_callv (va_runV (As := [.int v_3, .long r_4, .ref hr0]) (rest := []) ⟨hx, hb, hml, hown, hts⟩ (c_X3_measure l dC dI H.size pl plw pld plc pls plm plf plo plb pla v_3 r_4 hr0 hkr0 k0 (by have k0 : (0 : Int32).toInt = 0 := (by decide); have k1 : (1 : Int32).toInt = 1 := (by decide); have k2 : (2 : Int32).toInt = 2 := (by decide); have k3 : (3 : Int32).toInt = 3 := (by decide); have k4 : (4 : Int32).toInt = 4 := (by decide); omega)) (cwV 3 hts g_X2_measureAll_X3_measure rfl rfl rfl (by decide +kernel) ⟨Nat.le_of_ble_eq_true rfl, Nat.le_of_ble_eq_true rfl⟩) ⟨fun a U g mk q => by obtain ⟨q0, q1, qP, qK, qD⟩ := q; exact ⟨q0, q1, qP, va_K.moved (u := U) (U := U.calling g mk a) (Vm.Alike.refl U.vm) qK, qD⟩, va_recv hKc hPc (ci := 3) (q0 := 0) rfl rfl, fun U hU hW => ⟨rfl, by rw [hU], by rw [hU]; exact hPc, va_K.moved hW.alike hKc, hDc.weaken (fun _ _ _ _ => trivial)⟩⟩ rfl rfl hl.1 rfl (lv_room (Nat.le_of_ble_eq_true rfl)) dX2_measureAll_30 ⟨Nat.le_of_ble_eq_true rfl, Nat.le_of_ble_eq_true rfl⟩) hS (fun q _ h => hFc q h) hFc (fun u t H1 locs ht hvm hw_7 hB hz1 hk1 hS => ?_)
      obtain ⟨S2_8, rfl⟩ : ∃ z, z = u := ⟨_, rfl⟩
      obtain ⟨hP1, hK1, hD1⟩ := hB
      have hP1 : va_P (dC, dI) vwCl [(pl, .inr (3, [.int plw, .int pld, .int plc, .int pls, .long plm, .ref plf, .ref plo, .ref plb, .ref pla])), (hr0, .inl (hkr0, 25, .inl S2_8))] t.heap := hP1
      rw [ht] at hP1
      try dsimp only at hw_7
      obtain ⟨hP, hD⟩ := va_join (wr := [(ho, .inr (2, [.ref hob, .ref hoo, .ref hos])), (hos, .inl (hoks, 5, .inr (.inr (.inr (.inr wS))))), (hr1, .inl (hkr1, 25, .inl k1)), (hr2, .inl (hkr2, 25, .inl k2)), (hr3, .inl (hkr3, 25, .inl k3)), (hr4, .inl (hkr4, 25, .inl k4)), (gdu, .inl (gdku, 5, .inl gdU)), (gd, .inr (0, [.ref pl, .int gdl, .long gdh, .long gdw, .int gdi, .int gde, .int gdc, .ref gdt, .int gdg, .ref gdu, .int gdn, .ref gdx]))]) (w1 := [(pl, .inr (3, [.int plw, .int pld, .int plc, .int pls, .long plm, .ref plf, .ref plo, .ref plb, .ref pla])), (hr0, .inl (hkr0, 25, .inl S2_8))]) hP hD [9, 2] [0, 1, 3, 4, 5, 6, 7, 8] rfl rfl (by decide) (by decide) hk1 hFc hP1 hD1
      generalize H1 = H at hP hS ⊢
      have hP : va_P (dC, dI) vwCl [(ho, .inr (2, [.ref hob, .ref hoo, .ref hos])), (hos, .inl (hoks, 5, .inr (.inr (.inr (.inr wS))))), (hr1, .inl (hkr1, 25, .inl k1)), (hr2, .inl (hkr2, 25, .inl k2)), (hr3, .inl (hkr3, 25, .inl k3)), (hr4, .inl (hkr4, 25, .inl k4)), (gdu, .inl (gdku, 5, .inl gdU)), (gd, .inr (0, [.ref pl, .int gdl, .long gdh, .long gdw, .int gdi, .int gde, .int gdc, .ref gdt, .int gdg, .ref gdu, .int gdn, .ref gdx])), (pl, .inr (3, [.int plw, .int pld, .int plc, .int pls, .long plm, .ref plf, .ref plo, .ref plb, .ref pla])), (hr0, .inl (hkr0, 25, .inl S2_8))] H := hP
      have hD : va_D A [(ho, .inr (2, [.ref hob, .ref hoo, .ref hos])), (hos, .inl (hoks, 5, .inr (.inr (.inr (.inr wS))))), (hr1, .inl (hkr1, 25, .inl k1)), (hr2, .inl (hkr2, 25, .inl k2)), (hr3, .inl (hkr3, 25, .inl k3)), (hr4, .inl (hkr4, 25, .inl k4)), (gdu, .inl (gdku, 5, .inl gdU)), (gd, .inr (0, [.ref pl, .int gdl, .long gdh, .long gdw, .int gdi, .int gde, .int gdc, .ref gdt, .int gdg, .ref gdu, .int gdn, .ref gdx])), (pl, .inr (3, [.int plw, .int pld, .int plc, .int pls, .long plm, .ref plf, .ref plo, .ref plb, .ref pla])), (hr0, .inl (hkr0, 25, .inl S2_8))] := hD
      refine lv_iinc (v := 1) (lv' := [(2, .int 1), (0, .ref ho), (1, .ref gd)]) hx hb dX2_measureAll_33 hl (k := 0) rfl (by decide) (by decide) rfl (fun ls hl => ?_)
      refine lv_goto (tgt := 2) hx hb dX2_measureAll_36 (by decide) ?_
      exact ih2 ((1 : Int32), S2_8, k1, k2, k3, k4) _ _ _ ⟨(by have k0 : (0 : Int32).toInt = 0 := (by decide); have k1 : (1 : Int32).toInt = 1 := (by decide); have k2 : (2 : Int32).toInt = 2 := (by decide); have k3 : (3 : Int32).toInt = 3 := (by decide); have k4 : (4 : Int32).toInt = 4 := (by decide); (try dsimp only); omega), hP.sub [0, 1, 9, 2, 3, 4, 5, 7, 6, 8] rfl, hD.sub [0, 1, 9, 2, 3, 4, 5, 7, 6, 8] (by decide) rfl, hS, lv_sub hl [0, 1, 2] rfl⟩ (by have k0 : (0 : Int32).toInt = 0 := (by decide); have k1 : (1 : Int32).toInt = 1 := (by decide); have k2 : (2 : Int32).toInt = 2 := (by decide); have k3 : (3 : Int32).toInt = 3 := (by decide); have k4 : (4 : Int32).toInt = 4 := (by decide); (try dsimp only); omega)
    · have hP := hPy_6
      have hD := hDy_6
      have hS := hSy_6
      have hl := hly_6
      have hK := hKy_6
      refine va_aldA (i := 1) hx hb hK hP 1 0 rfl rfl (vp_in_iff.mpr ⟨by decide, by decide⟩) dX2_measureAll_29 ?_
      refine W.eq (g2 := F0 m 30 ls (.ref hr1 :: .long r_4 :: .int v_3 :: .ref pl :: [])) (by rw [show wS (1 : Int32).toNatClampNeg = some hr1 from hq1]; rfl) ?_
      have hPc := hP.sub (ws' := [(pl, .inr (3, [.int plw, .int pld, .int plc, .int pls, .long plm, .ref plf, .ref plo, .ref plb, .ref pla])), (hr1, .inl (hkr1, 25, .inl k1))]) [9, 3] rfl
      have hDc := hD.sub (ws' := [(pl, .inr (3, [.int plw, .int pld, .int plc, .int pls, .long plm, .ref plf, .ref plo, .ref plb, .ref pla])), (hr1, .inl (hkr1, 25, .inl k1))]) [9, 3] (by decide) rfl
      have hKc := hK.sub (tys' := [(hkr1, .int)]) [2] rfl
      have hFc := va_free (wc := [(pl, .inr (3, [.int plw, .int pld, .int plc, .int pls, .long plm, .ref plf, .ref plo, .ref plb, .ref pla])), (hr1, .inl (hkr1, 25, .inl k1))]) hD hS hA [9, 3] rfl
      refine va_callv (va_runV (As := [.int v_3, .long r_4, .ref hr1]) (rest := []) ⟨hx, hb, hml, hown, hts⟩ (c_X3_measure l dC dI H.size pl plw pld plc pls plm plf plo plb pla v_3 r_4 hr1 hkr1 k1 (by have k0 : (0 : Int32).toInt = 0 := (by decide); have k1 : (1 : Int32).toInt = 1 := (by decide); have k2 : (2 : Int32).toInt = 2 := (by decide); have k3 : (3 : Int32).toInt = 3 := (by decide); have k4 : (4 : Int32).toInt = 4 := (by decide); omega)) (cwV 3 hts g_X2_measureAll_X3_measure rfl rfl rfl (by decide +kernel) ⟨Nat.le_of_ble_eq_true rfl, Nat.le_of_ble_eq_true rfl⟩) ⟨fun a U g mk q => by obtain ⟨q0, q1, qP, qK, qD⟩ := q; exact ⟨q0, q1, qP, va_K.moved (u := U) (U := U.calling g mk a) (Vm.Alike.refl U.vm) qK, qD⟩, va_recv hKc hPc (ci := 3) (q0 := 0) rfl rfl, fun U hU hW => ⟨rfl, by rw [hU], by rw [hU]; exact hPc, va_K.moved hW.alike hKc, hDc.weaken (fun _ _ _ _ => trivial)⟩⟩ rfl rfl hl.1 rfl (lv_room (Nat.le_of_ble_eq_true rfl)) dX2_measureAll_30 ⟨Nat.le_of_ble_eq_true rfl, Nat.le_of_ble_eq_true rfl⟩) hS (fun q _ h => hFc q h) hFc (fun u t H1 locs ht hvm hw_9 hB hz1 hk1 hS => ?_)
      obtain ⟨S2_10, rfl⟩ : ∃ z, z = u := ⟨_, rfl⟩
      obtain ⟨hP1, hK1, hD1⟩ := hB
      have hP1 : va_P (dC, dI) vwCl [(pl, .inr (3, [.int plw, .int pld, .int plc, .int pls, .long plm, .ref plf, .ref plo, .ref plb, .ref pla])), (hr1, .inl (hkr1, 25, .inl S2_10))] t.heap := hP1
      rw [ht] at hP1
      try dsimp only at hw_9
      obtain ⟨hP, hD⟩ := va_join (wr := [(ho, .inr (2, [.ref hob, .ref hoo, .ref hos])), (hos, .inl (hoks, 5, .inr (.inr (.inr (.inr wS))))), (hr0, .inl (hkr0, 25, .inl k0)), (hr2, .inl (hkr2, 25, .inl k2)), (hr3, .inl (hkr3, 25, .inl k3)), (hr4, .inl (hkr4, 25, .inl k4)), (gdu, .inl (gdku, 5, .inl gdU)), (gd, .inr (0, [.ref pl, .int gdl, .long gdh, .long gdw, .int gdi, .int gde, .int gdc, .ref gdt, .int gdg, .ref gdu, .int gdn, .ref gdx]))]) (w1 := [(pl, .inr (3, [.int plw, .int pld, .int plc, .int pls, .long plm, .ref plf, .ref plo, .ref plb, .ref pla])), (hr1, .inl (hkr1, 25, .inl S2_10))]) hP hD [9, 3] [0, 1, 2, 4, 5, 6, 7, 8] rfl rfl (by decide) (by decide) hk1 hFc hP1 hD1
      generalize H1 = H at hP hS ⊢
      have hP : va_P (dC, dI) vwCl [(ho, .inr (2, [.ref hob, .ref hoo, .ref hos])), (hos, .inl (hoks, 5, .inr (.inr (.inr (.inr wS))))), (hr0, .inl (hkr0, 25, .inl k0)), (hr2, .inl (hkr2, 25, .inl k2)), (hr3, .inl (hkr3, 25, .inl k3)), (hr4, .inl (hkr4, 25, .inl k4)), (gdu, .inl (gdku, 5, .inl gdU)), (gd, .inr (0, [.ref pl, .int gdl, .long gdh, .long gdw, .int gdi, .int gde, .int gdc, .ref gdt, .int gdg, .ref gdu, .int gdn, .ref gdx])), (pl, .inr (3, [.int plw, .int pld, .int plc, .int pls, .long plm, .ref plf, .ref plo, .ref plb, .ref pla])), (hr1, .inl (hkr1, 25, .inl S2_10))] H := hP
      have hD : va_D A [(ho, .inr (2, [.ref hob, .ref hoo, .ref hos])), (hos, .inl (hoks, 5, .inr (.inr (.inr (.inr wS))))), (hr0, .inl (hkr0, 25, .inl k0)), (hr2, .inl (hkr2, 25, .inl k2)), (hr3, .inl (hkr3, 25, .inl k3)), (hr4, .inl (hkr4, 25, .inl k4)), (gdu, .inl (gdku, 5, .inl gdU)), (gd, .inr (0, [.ref pl, .int gdl, .long gdh, .long gdw, .int gdi, .int gde, .int gdc, .ref gdt, .int gdg, .ref gdu, .int gdn, .ref gdx])), (pl, .inr (3, [.int plw, .int pld, .int plc, .int pls, .long plm, .ref plf, .ref plo, .ref plb, .ref pla])), (hr1, .inl (hkr1, 25, .inl S2_10))] := hD
      refine lv_iinc (v := 2) (lv' := [(2, .int 2), (0, .ref ho), (1, .ref gd)]) hx hb dX2_measureAll_33 hl (k := 0) rfl (by decide) (by decide) rfl (fun ls hl => ?_)
      refine lv_goto (tgt := 2) hx hb dX2_measureAll_36 (by decide) ?_
      exact ih2 ((2 : Int32), k0, S2_10, k2, k3, k4) _ _ _ ⟨(by have k0 : (0 : Int32).toInt = 0 := (by decide); have k1 : (1 : Int32).toInt = 1 := (by decide); have k2 : (2 : Int32).toInt = 2 := (by decide); have k3 : (3 : Int32).toInt = 3 := (by decide); have k4 : (4 : Int32).toInt = 4 := (by decide); (try dsimp only); omega), hP.sub [0, 1, 2, 9, 3, 4, 5, 7, 6, 8] rfl, hD.sub [0, 1, 2, 9, 3, 4, 5, 7, 6, 8] (by decide) rfl, hS, lv_sub hl [0, 1, 2] rfl⟩ (by have k0 : (0 : Int32).toInt = 0 := (by decide); have k1 : (1 : Int32).toInt = 1 := (by decide); have k2 : (2 : Int32).toInt = 2 := (by decide); have k3 : (3 : Int32).toInt = 3 := (by decide); have k4 : (4 : Int32).toInt = 4 := (by decide); (try dsimp only); omega)
    · have hP := hPy_6
      have hD := hDy_6
      have hS := hSy_6
      have hl := hly_6
      have hK := hKy_6
      refine va_aldA (i := 2) hx hb hK hP 1 0 rfl rfl (vp_in_iff.mpr ⟨by decide, by decide⟩) dX2_measureAll_29 ?_
      refine W.eq (g2 := F0 m 30 ls (.ref hr2 :: .long r_4 :: .int v_3 :: .ref pl :: [])) (by rw [show wS (2 : Int32).toNatClampNeg = some hr2 from hq2]; rfl) ?_
      have hPc := hP.sub (ws' := [(pl, .inr (3, [.int plw, .int pld, .int plc, .int pls, .long plm, .ref plf, .ref plo, .ref plb, .ref pla])), (hr2, .inl (hkr2, 25, .inl k2))]) [9, 4] rfl
      have hDc := hD.sub (ws' := [(pl, .inr (3, [.int plw, .int pld, .int plc, .int pls, .long plm, .ref plf, .ref plo, .ref plb, .ref pla])), (hr2, .inl (hkr2, 25, .inl k2))]) [9, 4] (by decide) rfl
      have hKc := hK.sub (tys' := [(hkr2, .int)]) [3] rfl
      have hFc := va_free (wc := [(pl, .inr (3, [.int plw, .int pld, .int plc, .int pls, .long plm, .ref plf, .ref plo, .ref plb, .ref pla])), (hr2, .inl (hkr2, 25, .inl k2))]) hD hS hA [9, 4] rfl
      refine va_callv (va_runV (As := [.int v_3, .long r_4, .ref hr2]) (rest := []) ⟨hx, hb, hml, hown, hts⟩ (c_X3_measure l dC dI H.size pl plw pld plc pls plm plf plo plb pla v_3 r_4 hr2 hkr2 k2 (by have k0 : (0 : Int32).toInt = 0 := (by decide); have k1 : (1 : Int32).toInt = 1 := (by decide); have k2 : (2 : Int32).toInt = 2 := (by decide); have k3 : (3 : Int32).toInt = 3 := (by decide); have k4 : (4 : Int32).toInt = 4 := (by decide); omega)) (cwV 3 hts g_X2_measureAll_X3_measure rfl rfl rfl (by decide +kernel) ⟨Nat.le_of_ble_eq_true rfl, Nat.le_of_ble_eq_true rfl⟩) ⟨fun a U g mk q => by obtain ⟨q0, q1, qP, qK, qD⟩ := q; exact ⟨q0, q1, qP, va_K.moved (u := U) (U := U.calling g mk a) (Vm.Alike.refl U.vm) qK, qD⟩, va_recv hKc hPc (ci := 3) (q0 := 0) rfl rfl, fun U hU hW => ⟨rfl, by rw [hU], by rw [hU]; exact hPc, va_K.moved hW.alike hKc, hDc.weaken (fun _ _ _ _ => trivial)⟩⟩ rfl rfl hl.1 rfl (lv_room (Nat.le_of_ble_eq_true rfl)) dX2_measureAll_30 ⟨Nat.le_of_ble_eq_true rfl, Nat.le_of_ble_eq_true rfl⟩) hS (fun q _ h => hFc q h) hFc (fun u t H1 locs ht hvm hw_11 hB hz1 hk1 hS => ?_)
      obtain ⟨S2_12, rfl⟩ : ∃ z, z = u := ⟨_, rfl⟩
      obtain ⟨hP1, hK1, hD1⟩ := hB
      have hP1 : va_P (dC, dI) vwCl [(pl, .inr (3, [.int plw, .int pld, .int plc, .int pls, .long plm, .ref plf, .ref plo, .ref plb, .ref pla])), (hr2, .inl (hkr2, 25, .inl S2_12))] t.heap := hP1
      rw [ht] at hP1
      try dsimp only at hw_11
      obtain ⟨hP, hD⟩ := va_join (wr := [(ho, .inr (2, [.ref hob, .ref hoo, .ref hos])), (hos, .inl (hoks, 5, .inr (.inr (.inr (.inr wS))))), (hr0, .inl (hkr0, 25, .inl k0)), (hr1, .inl (hkr1, 25, .inl k1)), (hr3, .inl (hkr3, 25, .inl k3)), (hr4, .inl (hkr4, 25, .inl k4)), (gdu, .inl (gdku, 5, .inl gdU)), (gd, .inr (0, [.ref pl, .int gdl, .long gdh, .long gdw, .int gdi, .int gde, .int gdc, .ref gdt, .int gdg, .ref gdu, .int gdn, .ref gdx]))]) (w1 := [(pl, .inr (3, [.int plw, .int pld, .int plc, .int pls, .long plm, .ref plf, .ref plo, .ref plb, .ref pla])), (hr2, .inl (hkr2, 25, .inl S2_12))]) hP hD [9, 4] [0, 1, 2, 3, 5, 6, 7, 8] rfl rfl (by decide) (by decide) hk1 hFc hP1 hD1
      generalize H1 = H at hP hS ⊢
      have hP : va_P (dC, dI) vwCl [(ho, .inr (2, [.ref hob, .ref hoo, .ref hos])), (hos, .inl (hoks, 5, .inr (.inr (.inr (.inr wS))))), (hr0, .inl (hkr0, 25, .inl k0)), (hr1, .inl (hkr1, 25, .inl k1)), (hr3, .inl (hkr3, 25, .inl k3)), (hr4, .inl (hkr4, 25, .inl k4)), (gdu, .inl (gdku, 5, .inl gdU)), (gd, .inr (0, [.ref pl, .int gdl, .long gdh, .long gdw, .int gdi, .int gde, .int gdc, .ref gdt, .int gdg, .ref gdu, .int gdn, .ref gdx])), (pl, .inr (3, [.int plw, .int pld, .int plc, .int pls, .long plm, .ref plf, .ref plo, .ref plb, .ref pla])), (hr2, .inl (hkr2, 25, .inl S2_12))] H := hP
      have hD : va_D A [(ho, .inr (2, [.ref hob, .ref hoo, .ref hos])), (hos, .inl (hoks, 5, .inr (.inr (.inr (.inr wS))))), (hr0, .inl (hkr0, 25, .inl k0)), (hr1, .inl (hkr1, 25, .inl k1)), (hr3, .inl (hkr3, 25, .inl k3)), (hr4, .inl (hkr4, 25, .inl k4)), (gdu, .inl (gdku, 5, .inl gdU)), (gd, .inr (0, [.ref pl, .int gdl, .long gdh, .long gdw, .int gdi, .int gde, .int gdc, .ref gdt, .int gdg, .ref gdu, .int gdn, .ref gdx])), (pl, .inr (3, [.int plw, .int pld, .int plc, .int pls, .long plm, .ref plf, .ref plo, .ref plb, .ref pla])), (hr2, .inl (hkr2, 25, .inl S2_12))] := hD
      refine lv_iinc (v := 3) (lv' := [(2, .int 3), (0, .ref ho), (1, .ref gd)]) hx hb dX2_measureAll_33 hl (k := 0) rfl (by decide) (by decide) rfl (fun ls hl => ?_)
      refine lv_goto (tgt := 2) hx hb dX2_measureAll_36 (by decide) ?_
      exact ih2 ((3 : Int32), k0, k1, S2_12, k3, k4) _ _ _ ⟨(by have k0 : (0 : Int32).toInt = 0 := (by decide); have k1 : (1 : Int32).toInt = 1 := (by decide); have k2 : (2 : Int32).toInt = 2 := (by decide); have k3 : (3 : Int32).toInt = 3 := (by decide); have k4 : (4 : Int32).toInt = 4 := (by decide); (try dsimp only); omega), hP.sub [0, 1, 2, 3, 9, 4, 5, 7, 6, 8] rfl, hD.sub [0, 1, 2, 3, 9, 4, 5, 7, 6, 8] (by decide) rfl, hS, lv_sub hl [0, 1, 2] rfl⟩ (by have k0 : (0 : Int32).toInt = 0 := (by decide); have k1 : (1 : Int32).toInt = 1 := (by decide); have k2 : (2 : Int32).toInt = 2 := (by decide); have k3 : (3 : Int32).toInt = 3 := (by decide); have k4 : (4 : Int32).toInt = 4 := (by decide); (try dsimp only); omega)
    · have hP := hPy_6
      have hD := hDy_6
      have hS := hSy_6
      have hl := hly_6
      have hK := hKy_6
      refine va_aldA (i := 3) hx hb hK hP 1 0 rfl rfl (vp_in_iff.mpr ⟨by decide, by decide⟩) dX2_measureAll_29 ?_
      refine W.eq (g2 := F0 m 30 ls (.ref hr3 :: .long r_4 :: .int v_3 :: .ref pl :: [])) (by rw [show wS (3 : Int32).toNatClampNeg = some hr3 from hq3]; rfl) ?_
      have hPc := hP.sub (ws' := [(pl, .inr (3, [.int plw, .int pld, .int plc, .int pls, .long plm, .ref plf, .ref plo, .ref plb, .ref pla])), (hr3, .inl (hkr3, 25, .inl k3))]) [9, 5] rfl
      have hDc := hD.sub (ws' := [(pl, .inr (3, [.int plw, .int pld, .int plc, .int pls, .long plm, .ref plf, .ref plo, .ref plb, .ref pla])), (hr3, .inl (hkr3, 25, .inl k3))]) [9, 5] (by decide) rfl
      have hKc := hK.sub (tys' := [(hkr3, .int)]) [4] rfl
      have hFc := va_free (wc := [(pl, .inr (3, [.int plw, .int pld, .int plc, .int pls, .long plm, .ref plf, .ref plo, .ref plb, .ref pla])), (hr3, .inl (hkr3, 25, .inl k3))]) hD hS hA [9, 5] rfl
      refine va_callv (va_runV (As := [.int v_3, .long r_4, .ref hr3]) (rest := []) ⟨hx, hb, hml, hown, hts⟩ (c_X3_measure l dC dI H.size pl plw pld plc pls plm plf plo plb pla v_3 r_4 hr3 hkr3 k3 (by have k0 : (0 : Int32).toInt = 0 := (by decide); have k1 : (1 : Int32).toInt = 1 := (by decide); have k2 : (2 : Int32).toInt = 2 := (by decide); have k3 : (3 : Int32).toInt = 3 := (by decide); have k4 : (4 : Int32).toInt = 4 := (by decide); omega)) (cwV 3 hts g_X2_measureAll_X3_measure rfl rfl rfl (by decide +kernel) ⟨Nat.le_of_ble_eq_true rfl, Nat.le_of_ble_eq_true rfl⟩) ⟨fun a U g mk q => by obtain ⟨q0, q1, qP, qK, qD⟩ := q; exact ⟨q0, q1, qP, va_K.moved (u := U) (U := U.calling g mk a) (Vm.Alike.refl U.vm) qK, qD⟩, va_recv hKc hPc (ci := 3) (q0 := 0) rfl rfl, fun U hU hW => ⟨rfl, by rw [hU], by rw [hU]; exact hPc, va_K.moved hW.alike hKc, hDc.weaken (fun _ _ _ _ => trivial)⟩⟩ rfl rfl hl.1 rfl (lv_room (Nat.le_of_ble_eq_true rfl)) dX2_measureAll_30 ⟨Nat.le_of_ble_eq_true rfl, Nat.le_of_ble_eq_true rfl⟩) hS (fun q _ h => hFc q h) hFc (fun u t H1 locs ht hvm hw_13 hB hz1 hk1 hS => ?_)
      obtain ⟨S2_14, rfl⟩ : ∃ z, z = u := ⟨_, rfl⟩
      obtain ⟨hP1, hK1, hD1⟩ := hB
      have hP1 : va_P (dC, dI) vwCl [(pl, .inr (3, [.int plw, .int pld, .int plc, .int pls, .long plm, .ref plf, .ref plo, .ref plb, .ref pla])), (hr3, .inl (hkr3, 25, .inl S2_14))] t.heap := hP1
      rw [ht] at hP1
      try dsimp only at hw_13
      obtain ⟨hP, hD⟩ := va_join (wr := [(ho, .inr (2, [.ref hob, .ref hoo, .ref hos])), (hos, .inl (hoks, 5, .inr (.inr (.inr (.inr wS))))), (hr0, .inl (hkr0, 25, .inl k0)), (hr1, .inl (hkr1, 25, .inl k1)), (hr2, .inl (hkr2, 25, .inl k2)), (hr4, .inl (hkr4, 25, .inl k4)), (gdu, .inl (gdku, 5, .inl gdU)), (gd, .inr (0, [.ref pl, .int gdl, .long gdh, .long gdw, .int gdi, .int gde, .int gdc, .ref gdt, .int gdg, .ref gdu, .int gdn, .ref gdx]))]) (w1 := [(pl, .inr (3, [.int plw, .int pld, .int plc, .int pls, .long plm, .ref plf, .ref plo, .ref plb, .ref pla])), (hr3, .inl (hkr3, 25, .inl S2_14))]) hP hD [9, 5] [0, 1, 2, 3, 4, 6, 7, 8] rfl rfl (by decide) (by decide) hk1 hFc hP1 hD1
      generalize H1 = H at hP hS ⊢
      have hP : va_P (dC, dI) vwCl [(ho, .inr (2, [.ref hob, .ref hoo, .ref hos])), (hos, .inl (hoks, 5, .inr (.inr (.inr (.inr wS))))), (hr0, .inl (hkr0, 25, .inl k0)), (hr1, .inl (hkr1, 25, .inl k1)), (hr2, .inl (hkr2, 25, .inl k2)), (hr4, .inl (hkr4, 25, .inl k4)), (gdu, .inl (gdku, 5, .inl gdU)), (gd, .inr (0, [.ref pl, .int gdl, .long gdh, .long gdw, .int gdi, .int gde, .int gdc, .ref gdt, .int gdg, .ref gdu, .int gdn, .ref gdx])), (pl, .inr (3, [.int plw, .int pld, .int plc, .int pls, .long plm, .ref plf, .ref plo, .ref plb, .ref pla])), (hr3, .inl (hkr3, 25, .inl S2_14))] H := hP
      have hD : va_D A [(ho, .inr (2, [.ref hob, .ref hoo, .ref hos])), (hos, .inl (hoks, 5, .inr (.inr (.inr (.inr wS))))), (hr0, .inl (hkr0, 25, .inl k0)), (hr1, .inl (hkr1, 25, .inl k1)), (hr2, .inl (hkr2, 25, .inl k2)), (hr4, .inl (hkr4, 25, .inl k4)), (gdu, .inl (gdku, 5, .inl gdU)), (gd, .inr (0, [.ref pl, .int gdl, .long gdh, .long gdw, .int gdi, .int gde, .int gdc, .ref gdt, .int gdg, .ref gdu, .int gdn, .ref gdx])), (pl, .inr (3, [.int plw, .int pld, .int plc, .int pls, .long plm, .ref plf, .ref plo, .ref plb, .ref pla])), (hr3, .inl (hkr3, 25, .inl S2_14))] := hD
      refine lv_iinc (v := 4) (lv' := [(2, .int 4), (0, .ref ho), (1, .ref gd)]) hx hb dX2_measureAll_33 hl (k := 0) rfl (by decide) (by decide) rfl (fun ls hl => ?_)
      refine lv_goto (tgt := 2) hx hb dX2_measureAll_36 (by decide) ?_
      exact ih2 ((4 : Int32), k0, k1, k2, S2_14, k4) _ _ _ ⟨(by have k0 : (0 : Int32).toInt = 0 := (by decide); have k1 : (1 : Int32).toInt = 1 := (by decide); have k2 : (2 : Int32).toInt = 2 := (by decide); have k3 : (3 : Int32).toInt = 3 := (by decide); have k4 : (4 : Int32).toInt = 4 := (by decide); (try dsimp only); omega), hP.sub [0, 1, 2, 3, 4, 9, 5, 7, 6, 8] rfl, hD.sub [0, 1, 2, 3, 4, 9, 5, 7, 6, 8] (by decide) rfl, hS, lv_sub hl [0, 1, 2] rfl⟩ (by have k0 : (0 : Int32).toInt = 0 := (by decide); have k1 : (1 : Int32).toInt = 1 := (by decide); have k2 : (2 : Int32).toInt = 2 := (by decide); have k3 : (3 : Int32).toInt = 3 := (by decide); have k4 : (4 : Int32).toInt = 4 := (by decide); (try dsimp only); omega)
    · have hP := hPy_6
      have hD := hDy_6
      have hS := hSy_6
      have hl := hly_6
      have hK := hKy_6
      refine va_aldA (i := 4) hx hb hK hP 1 0 rfl rfl (vp_in_iff.mpr ⟨by decide, by decide⟩) dX2_measureAll_29 ?_
      refine W.eq (g2 := F0 m 30 ls (.ref hr4 :: .long r_4 :: .int v_3 :: .ref pl :: [])) (by rw [show wS (4 : Int32).toNatClampNeg = some hr4 from hq4]; rfl) ?_
      have hPc := hP.sub (ws' := [(pl, .inr (3, [.int plw, .int pld, .int plc, .int pls, .long plm, .ref plf, .ref plo, .ref plb, .ref pla])), (hr4, .inl (hkr4, 25, .inl k4))]) [9, 6] rfl
      have hDc := hD.sub (ws' := [(pl, .inr (3, [.int plw, .int pld, .int plc, .int pls, .long plm, .ref plf, .ref plo, .ref plb, .ref pla])), (hr4, .inl (hkr4, 25, .inl k4))]) [9, 6] (by decide) rfl
      have hKc := hK.sub (tys' := [(hkr4, .int)]) [5] rfl
      have hFc := va_free (wc := [(pl, .inr (3, [.int plw, .int pld, .int plc, .int pls, .long plm, .ref plf, .ref plo, .ref plb, .ref pla])), (hr4, .inl (hkr4, 25, .inl k4))]) hD hS hA [9, 6] rfl
      refine va_callv (va_runV (As := [.int v_3, .long r_4, .ref hr4]) (rest := []) ⟨hx, hb, hml, hown, hts⟩ (c_X3_measure l dC dI H.size pl plw pld plc pls plm plf plo plb pla v_3 r_4 hr4 hkr4 k4 (by have k0 : (0 : Int32).toInt = 0 := (by decide); have k1 : (1 : Int32).toInt = 1 := (by decide); have k2 : (2 : Int32).toInt = 2 := (by decide); have k3 : (3 : Int32).toInt = 3 := (by decide); have k4 : (4 : Int32).toInt = 4 := (by decide); omega)) (cwV 3 hts g_X2_measureAll_X3_measure rfl rfl rfl (by decide +kernel) ⟨Nat.le_of_ble_eq_true rfl, Nat.le_of_ble_eq_true rfl⟩) ⟨fun a U g mk q => by obtain ⟨q0, q1, qP, qK, qD⟩ := q; exact ⟨q0, q1, qP, va_K.moved (u := U) (U := U.calling g mk a) (Vm.Alike.refl U.vm) qK, qD⟩, va_recv hKc hPc (ci := 3) (q0 := 0) rfl rfl, fun U hU hW => ⟨rfl, by rw [hU], by rw [hU]; exact hPc, va_K.moved hW.alike hKc, hDc.weaken (fun _ _ _ _ => trivial)⟩⟩ rfl rfl hl.1 rfl (lv_room (Nat.le_of_ble_eq_true rfl)) dX2_measureAll_30 ⟨Nat.le_of_ble_eq_true rfl, Nat.le_of_ble_eq_true rfl⟩) hS (fun q _ h => hFc q h) hFc (fun u t H1 locs ht hvm hw_15 hB hz1 hk1 hS => ?_)
      obtain ⟨S2_16, rfl⟩ : ∃ z, z = u := ⟨_, rfl⟩
      obtain ⟨hP1, hK1, hD1⟩ := hB
      have hP1 : va_P (dC, dI) vwCl [(pl, .inr (3, [.int plw, .int pld, .int plc, .int pls, .long plm, .ref plf, .ref plo, .ref plb, .ref pla])), (hr4, .inl (hkr4, 25, .inl S2_16))] t.heap := hP1
      rw [ht] at hP1
      try dsimp only at hw_15
      obtain ⟨hP, hD⟩ := va_join (wr := [(ho, .inr (2, [.ref hob, .ref hoo, .ref hos])), (hos, .inl (hoks, 5, .inr (.inr (.inr (.inr wS))))), (hr0, .inl (hkr0, 25, .inl k0)), (hr1, .inl (hkr1, 25, .inl k1)), (hr2, .inl (hkr2, 25, .inl k2)), (hr3, .inl (hkr3, 25, .inl k3)), (gdu, .inl (gdku, 5, .inl gdU)), (gd, .inr (0, [.ref pl, .int gdl, .long gdh, .long gdw, .int gdi, .int gde, .int gdc, .ref gdt, .int gdg, .ref gdu, .int gdn, .ref gdx]))]) (w1 := [(pl, .inr (3, [.int plw, .int pld, .int plc, .int pls, .long plm, .ref plf, .ref plo, .ref plb, .ref pla])), (hr4, .inl (hkr4, 25, .inl S2_16))]) hP hD [9, 6] [0, 1, 2, 3, 4, 5, 7, 8] rfl rfl (by decide) (by decide) hk1 hFc hP1 hD1
      generalize H1 = H at hP hS ⊢
      have hP : va_P (dC, dI) vwCl [(ho, .inr (2, [.ref hob, .ref hoo, .ref hos])), (hos, .inl (hoks, 5, .inr (.inr (.inr (.inr wS))))), (hr0, .inl (hkr0, 25, .inl k0)), (hr1, .inl (hkr1, 25, .inl k1)), (hr2, .inl (hkr2, 25, .inl k2)), (hr3, .inl (hkr3, 25, .inl k3)), (gdu, .inl (gdku, 5, .inl gdU)), (gd, .inr (0, [.ref pl, .int gdl, .long gdh, .long gdw, .int gdi, .int gde, .int gdc, .ref gdt, .int gdg, .ref gdu, .int gdn, .ref gdx])), (pl, .inr (3, [.int plw, .int pld, .int plc, .int pls, .long plm, .ref plf, .ref plo, .ref plb, .ref pla])), (hr4, .inl (hkr4, 25, .inl S2_16))] H := hP
      have hD : va_D A [(ho, .inr (2, [.ref hob, .ref hoo, .ref hos])), (hos, .inl (hoks, 5, .inr (.inr (.inr (.inr wS))))), (hr0, .inl (hkr0, 25, .inl k0)), (hr1, .inl (hkr1, 25, .inl k1)), (hr2, .inl (hkr2, 25, .inl k2)), (hr3, .inl (hkr3, 25, .inl k3)), (gdu, .inl (gdku, 5, .inl gdU)), (gd, .inr (0, [.ref pl, .int gdl, .long gdh, .long gdw, .int gdi, .int gde, .int gdc, .ref gdt, .int gdg, .ref gdu, .int gdn, .ref gdx])), (pl, .inr (3, [.int plw, .int pld, .int plc, .int pls, .long plm, .ref plf, .ref plo, .ref plb, .ref pla])), (hr4, .inl (hkr4, 25, .inl S2_16))] := hD
      refine lv_iinc (v := 5) (lv' := [(2, .int 5), (0, .ref ho), (1, .ref gd)]) hx hb dX2_measureAll_33 hl (k := 0) rfl (by decide) (by decide) rfl (fun ls hl => ?_)
      refine lv_goto (tgt := 2) hx hb dX2_measureAll_36 (by decide) ?_
      exact ih2 ((5 : Int32), k0, k1, k2, k3, S2_16) _ _ _ ⟨(by have k0 : (0 : Int32).toInt = 0 := (by decide); have k1 : (1 : Int32).toInt = 1 := (by decide); have k2 : (2 : Int32).toInt = 2 := (by decide); have k3 : (3 : Int32).toInt = 3 := (by decide); have k4 : (4 : Int32).toInt = 4 := (by decide); have k5 : (5 : Int32).toInt = 5 := (by decide); (try dsimp only); omega), hP.sub [0, 1, 2, 3, 4, 5, 9, 7, 6, 8] rfl, hD.sub [0, 1, 2, 3, 4, 5, 9, 7, 6, 8] (by decide) rfl, hS, lv_sub hl [0, 1, 2] rfl⟩ (by have k0 : (0 : Int32).toInt = 0 := (by decide); have k1 : (1 : Int32).toInt = 1 := (by decide); have k2 : (2 : Int32).toInt = 2 := (by decide); have k3 : (3 : Int32).toInt = 3 := (by decide); have k4 : (4 : Int32).toInt = 4 := (by decide); have k5 : (5 : Int32).toInt = 5 := (by decide); (try dsimp only); omega)

theorem dX2_mostStepsTo_0 : decode cX2_mostStepsTo 0 = .ok (.iconst 0, 1) := by decide +kernel
theorem dX2_mostStepsTo_1 : decode cX2_mostStepsTo 1 = .ok (.istore_n 3, 1) := by decide +kernel
theorem dX2_mostStepsTo_2 : decode cX2_mostStepsTo 2 = .ok (.iconst 0, 1) := by decide +kernel
theorem dX2_mostStepsTo_3 : decode cX2_mostStepsTo 3 = .ok (.istore 4, 2) := by decide +kernel
theorem dX2_mostStepsTo_5 : decode cX2_mostStepsTo 5 = .ok (.iload 4, 2) := by decide +kernel
theorem dX2_mostStepsTo_7 : decode cX2_mostStepsTo 7 = .ok (.aload_n 1, 1) := by decide +kernel
theorem dX2_mostStepsTo_8 : decode cX2_mostStepsTo 8 = .ok (.getfield 23, 3) := by decide +kernel
theorem dX2_mostStepsTo_11 : decode cX2_mostStepsTo 11 = .ok (.if_icmp .ge 23, 3) := by decide +kernel
theorem dX2_mostStepsTo_14 : decode cX2_mostStepsTo 14 = .ok (.iload_n 3, 1) := by decide +kernel
theorem dX2_mostStepsTo_15 : decode cX2_mostStepsTo 15 = .ok (.aload_n 0, 1) := by decide +kernel
theorem dX2_mostStepsTo_16 : decode cX2_mostStepsTo 16 = .ok (.getfield 20, 3) := by decide +kernel
theorem dX2_mostStepsTo_19 : decode cX2_mostStepsTo 19 = .ok (.iload 4, 2) := by decide +kernel
theorem dX2_mostStepsTo_21 : decode cX2_mostStepsTo 21 = .ok (.aaload, 1) := by decide +kernel
theorem dX2_mostStepsTo_22 : decode cX2_mostStepsTo 22 = .ok (.iload_n 2, 1) := by decide +kernel
theorem dX2_mostStepsTo_23 : decode cX2_mostStepsTo 23 = .ok (.iaload, 1) := by decide +kernel
theorem dX2_mostStepsTo_24 : decode cX2_mostStepsTo 24 = .ok (.invokestatic 46, 3) := by decide +kernel
theorem dX2_mostStepsTo_27 : decode cX2_mostStepsTo 27 = .ok (.istore_n 3, 1) := by decide +kernel
theorem dX2_mostStepsTo_28 : decode cX2_mostStepsTo 28 = .ok (.iinc 4 1, 3) := by decide +kernel
theorem dX2_mostStepsTo_31 : decode cX2_mostStepsTo 31 = .ok (.goto (-26), 3) := by decide +kernel
theorem dX2_mostStepsTo_34 : decode cX2_mostStepsTo 34 = .ok (.iload_n 3, 1) := by decide +kernel
theorem dX2_mostStepsTo_35 : decode cX2_mostStepsTo 35 = .ok (.ireturn, 1) := by decide +kernel
def wz_X2_mostStepsTo : List Cond := .code yX2_mostStepsTo cX2_mostStepsTo 5 (some .int) :: ([Cond.fieldLink RX2 23 "HedgeMaze$Garden" "guestCount" "I", Cond.fieldLink RX2 20 "HedgeMaze$Host" "stepsFrom" "[[I", Cond.methodLink RX2 46 Lib.Math.max.name, Cond.static Lib.Math.max.name, Cond.initialized "java/lang/Math", Cond.code Lib.Math.max.name Lib.Math.max.code 2 (some .int)] ++ wsX00 ++ wsX20)
theorem wd_X2_mostStepsTo_0 : Cond.fieldLink RX2 23 "HedgeMaze$Garden" "guestCount" "I" ∈ wz_X2_mostStepsTo := List.mem_of_getElem? (i := 1) rfl
theorem wd_X2_mostStepsTo_1 : Cond.fieldLink RX2 20 "HedgeMaze$Host" "stepsFrom" "[[I" ∈ wz_X2_mostStepsTo := List.mem_of_getElem? (i := 2) rfl
theorem wd_X2_mostStepsTo_2 : Cond.methodLink RX2 46 Lib.Math.max.name ∈ wz_X2_mostStepsTo := List.mem_of_getElem? (i := 3) rfl
theorem wd_X2_mostStepsTo_3 : Cond.static Lib.Math.max.name ∈ wz_X2_mostStepsTo := List.mem_of_getElem? (i := 4) rfl
theorem wd_X2_mostStepsTo_4 : Cond.initialized "java/lang/Math" ∈ wz_X2_mostStepsTo := List.mem_of_getElem? (i := 5) rfl
theorem wd_X2_mostStepsTo_5 : Cond.code Lib.Math.max.name Lib.Math.max.code 2 (some .int) ∈ wz_X2_mostStepsTo := List.mem_of_getElem? (i := 6) rfl
theorem in_X2_mostStepsTo_X0 : ∀ w ∈ wsX00, w ∈ wz_X2_mostStepsTo := fun _ h => List.mem_cons_of_mem _ (List.mem_append_left _ (List.mem_append_right _ h))
theorem in_X2_mostStepsTo_X2 : ∀ w ∈ wsX20, w ∈ wz_X2_mostStepsTo := fun _ h => List.mem_cons_of_mem _ (List.mem_append_right _ h)
set_option maxHeartbeats 4000000 in
set_option maxRecDepth 100000 in
theorem c_X2_mostStepsTo (l : Launch) (dC : Nat → ClassId) (dI : Nat → Nat → Nat) (sz : Nat) (ho : Nat) (hob : Nat) (hoo : Nat) (hos : Nat) (hoks : ClassId) (wS : Nat → Option Nat) (hr0 : Nat) (hkr0 : ClassId) (wR0 : Nat → Int32) (hr1 : Nat) (hkr1 : ClassId) (wR1 : Nat → Int32) (hr2 : Nat) (hkr2 : ClassId) (wR2 : Nat → Int32) (hr3 : Nat) (hkr3 : ClassId) (wR3 : Nat → Int32) (hr4 : Nat) (hkr4 : ClassId) (wR4 : Nat → Int32) (gd : Nat) (gdl : Int32) (gdh : Int64) (gdw : Int64) (gdi : Int32) (gde : Int32) (gdc : Int32) (gdt : Nat) (gdg : Int32) (gdu : Nat) (gdn : Int32) (gdx : Nat) (pl : Nat) (p0 : Int32) (hq0 : wS 0 = some hr0) (hq1 : wS 1 = some hr1) (hq2 : wS 2 = some hr2) (hq3 : wS 3 = some hr3) (hq4 : wS 4 = some hr4) (h_gdg : 0 ≤ gdg.toInt ∧ gdg.toInt ≤ 5) (h_p0 : 0 ≤ p0.toInt ∧ p0.toInt ≤ 24) : Met l yX2_mostStepsTo wz_X2_mostStepsTo ({ frames := 1, cells := 0, slots := 0, locals := 40 }) (va_Pc [.ref ho, .ref gd, .int p0] (fun U => U.heap.size = sz ∧ va_P (dC, dI) vwCl [(ho, .inr (2, [.ref hob, .ref hoo, .ref hos])), (hos, .inl (hoks, 5, .inr (.inr (.inr (.inr wS))))), (hr0, .inl (hkr0, 25, .inl wR0)), (hr1, .inl (hkr1, 25, .inl wR1)), (hr2, .inl (hkr2, 25, .inl wR2)), (hr3, .inl (hkr3, 25, .inl wR3)), (hr4, .inl (hkr4, 25, .inl wR4)), (gd, .inr (0, [.ref pl, .int gdl, .long gdh, .long gdw, .int gdi, .int gde, .int gdc, .ref gdt, .int gdg, .ref gdu, .int gdn, .ref gdx]))] U.heap ∧ va_K (dC, dI) vwCl [(hoks, .array .int), (hkr0, .int), (hkr1, .int), (hkr2, .int), (hkr3, .int), (hkr4, .int)] U ∧ va_D (fun _ => True) [(ho, .inr (2, [.ref hob, .ref hoo, .ref hos])), (hos, .inl (hoks, 5, .inr (.inr (.inr (.inr wS))))), (hr0, .inl (hkr0, 25, .inl wR0)), (hr1, .inl (hkr1, 25, .inl wR1)), (hr2, .inl (hkr2, 25, .inl wR2)), (hr3, .inl (hkr3, 25, .inl wR3)), (hr4, .inl (hkr4, 25, .inl wR4)), (gd, .inr (0, [.ref pl, .int gdl, .long gdh, .long gdw, .int gdi, .int gde, .int gdc, .ref gdt, .int gdg, .ref gdu, .int gdn, .ref gdx]))])) (va_Qi (fun (r : Int32) (u : Unit) => True) (fun (u : Unit) (t : State) => va_P (dC, dI) vwCl [(ho, .inr (2, [.ref hob, .ref hoo, .ref hos])), (hos, .inl (hoks, 5, .inr (.inr (.inr (.inr wS))))), (hr0, .inl (hkr0, 25, .inl wR0)), (hr1, .inl (hkr1, 25, .inl wR1)), (hr2, .inl (hkr2, 25, .inl wR2)), (hr3, .inl (hkr3, 25, .inl wR3)), (hr4, .inl (hkr4, 25, .inl wR4)), (gd, .inr (0, [.ref pl, .int gdl, .long gdh, .long gdw, .int gdi, .int gde, .int gdc, .ref gdt, .int gdg, .ref gdu, .int gdn, .ref gdx]))] t.heap ∧ va_K (dC, dI) vwCl [] t ∧ va_D (va_A [(ho, .inr (2, [.ref hob, .ref hoo, .ref hos])), (hos, .inl (hoks, 5, .inr (.inr (.inr (.inr wS))))), (hr0, .inl (hkr0, 25, .inl wR0)), (hr1, .inl (hkr1, 25, .inl wR1)), (hr2, .inl (hkr2, 25, .inl wR2)), (hr3, .inl (hkr3, 25, .inl wR3)), (hr4, .inl (hkr4, 25, .inl wR4)), (gd, .inr (0, [.ref pl, .int gdl, .long gdh, .long gdw, .int gdi, .int gde, .int gdc, .ref gdt, .int gdg, .ref gdu, .int gdn, .ref gdx]))] sz) [(ho, .inr (2, [.ref hob, .ref hoo, .ref hos])), (hos, .inl (hoks, 5, .inr (.inr (.inr (.inr wS))))), (hr0, .inl (hkr0, 25, .inl wR0)), (hr1, .inl (hkr1, 25, .inl wR1)), (hr2, .inl (hkr2, 25, .inl wR2)), (hr3, .inl (hkr3, 25, .inl wR3)), (hr4, .inl (hkr4, 25, .inl wR4)), (gd, .inr (0, [.ref pl, .int gdl, .long gdh, .long gdw, .int gdi, .int gde, .int gdc, .ref gdt, .int gdg, .ref gdu, .int gdn, .ref gdx]))]) (va_A [(ho, .inr (2, [.ref hob, .ref hoo, .ref hos])), (hos, .inl (hoks, 5, .inr (.inr (.inr (.inr wS))))), (hr0, .inl (hkr0, 25, .inl wR0)), (hr1, .inl (hkr1, 25, .inl wR1)), (hr2, .inl (hkr2, 25, .inl wR2)), (hr3, .inl (hkr3, 25, .inl wR3)), (hr4, .inl (hkr4, 25, .inl wR4)), (gd, .inr (0, [.ref pl, .int gdl, .long gdh, .long gdw, .int gdi, .int gde, .int gdc, .ref gdt, .int gdg, .ref gdu, .int gdn, .ref gdx]))] sz)) 0 0 (va_A [(ho, .inr (2, [.ref hob, .ref hoo, .ref hos])), (hos, .inl (hoks, 5, .inr (.inr (.inr (.inr wS))))), (hr0, .inl (hkr0, 25, .inl wR0)), (hr1, .inl (hkr1, 25, .inl wR1)), (hr2, .inl (hkr2, 25, .inl wR2)), (hr3, .inl (hkr3, 25, .inl wR3)), (hr4, .inl (hkr4, 25, .inl wR4)), (gd, .inr (0, [.ref pl, .int gdl, .long gdh, .long gdw, .int gdi, .int gde, .int gdc, .ref gdt, .int gdg, .ref gdu, .int gdn, .ref gdx]))] sz) := by
  refine Met.ofW (cc := cX2_mostStepsTo) (maxL := 5) (ret := (some .int)) (by decide) rfl ?_
  intro p e s m args below meth c s₁ B hml hv
  obtain ⟨rfl, hsz, hP, hK, hD0⟩ := hv
  have hx := B.exec
  have hb := B.bytes
  have hr := B.returns
  have hts := atoms_spec (ws := wz_X2_mostStepsTo) B.pre
  have hown : s.vm.findClass RX2 = some m.cls := findClass_of_methodNamed B.named
  have hlocks := B.notSynchronized
  subst hsz
  have hD := hD0.self (sz := s.heap.size)
  generalize hAe : va_A [(ho, .inr (2, [.ref hob, .ref hoo, .ref hos])), (hos, .inl (hoks, 5, .inr (.inr (.inr (.inr wS))))), (hr0, .inl (hkr0, 25, .inl wR0)), (hr1, .inl (hkr1, 25, .inl wR1)), (hr2, .inl (hkr2, 25, .inl wR2)), (hr3, .inl (hkr3, 25, .inl wR3)), (hr4, .inl (hkr4, 25, .inl wR4)), (gd, .inr (0, [.ref pl, .int gdl, .long gdh, .long gdw, .int gdi, .int gde, .int gdc, .ref gdt, .int gdg, .ref gdu, .int gdn, .ref gdx]))] s.heap.size = A at hD ⊢
  have hA : ∀ q : Nat, s.heap.size ≤ q → A q := fun q h => by rw [← hAe]; exact Or.inr h
  have hS : va_S A s.heap s.heap [] := va_S.rf
  have hP : va_P (dC, dI) vwCl [(ho, .inr (2, [.ref hob, .ref hoo, .ref hos])), (hos, .inl (hoks, 5, .inr (.inr (.inr (.inr wS))))), (hr0, .inl (hkr0, 25, .inl wR0)), (hr1, .inl (hkr1, 25, .inl wR1)), (hr2, .inl (hkr2, 25, .inl wR2)), (hr3, .inl (hkr3, 25, .inl wR3)), (hr4, .inl (hkr4, 25, .inl wR4)), (gd, .inr (0, [.ref pl, .int gdl, .long gdh, .long gdw, .int gdi, .int gde, .int gdc, .ref gdt, .int gdg, .ref gdu, .int gdn, .ref gdx]))] s.heap := hP
  have hl := lv_entry ([.ref ho, .ref gd, .int p0]) (n := 5) (Nat.le_of_ble_eq_true rfl)
  rw [lg_entry_eq]
  generalize (lg_sl ([.ref ho, .ref gd, .int p0]) ++ List.replicate (5 - (lg_sl ([.ref ho, .ref gd, .int p0])).length) Slot.unset).toArray = ls at hl ⊢
  have hl : lv_has ls 5 [(0, .ref ho), (1, .ref gd), (2, .int p0)] := hl
  refine lv_iconst (v := 0) hx hb dX2_mostStepsTo_0 (by decide) ?_
  refine lv_istore_n (lv' := [(3, .int 0), (0, .ref ho), (1, .ref gd), (2, .int p0)]) hx hb dX2_mostStepsTo_1 rfl hl (by decide) rfl (fun ls hl => ?_)
  refine lv_iconst (v := 0) hx hb dX2_mostStepsTo_2 (by decide) ?_
  refine lv_istore (lv' := [(4, .int 0), (3, .int 0), (0, .ref ho), (1, .ref gd), (2, .int p0)]) hx hb dX2_mostStepsTo_3 hl (by decide) rfl (fun ls hl => ?_)
  refine lp_W (I := fun (a : Int32 × Int32) H locs ls => (0 ≤ a.1.toInt ∧ a.1.toInt ≤ 5) ∧ va_P (dC, dI) vwCl [(ho, .inr (2, [.ref hob, .ref hoo, .ref hos])), (hos, .inl (hoks, 5, .inr (.inr (.inr (.inr wS))))), (hr0, .inl (hkr0, 25, .inl wR0)), (hr1, .inl (hkr1, 25, .inl wR1)), (hr2, .inl (hkr2, 25, .inl wR2)), (hr3, .inl (hkr3, 25, .inl wR3)), (hr4, .inl (hkr4, 25, .inl wR4)), (gd, .inr (0, [.ref pl, .int gdl, .long gdh, .long gdw, .int gdi, .int gde, .int gdc, .ref gdt, .int gdg, .ref gdu, .int gdn, .ref gdx]))] H ∧ va_D A [(ho, .inr (2, [.ref hob, .ref hoo, .ref hos])), (hos, .inl (hoks, 5, .inr (.inr (.inr (.inr wS))))), (hr0, .inl (hkr0, 25, .inl wR0)), (hr1, .inl (hkr1, 25, .inl wR1)), (hr2, .inl (hkr2, 25, .inl wR2)), (hr3, .inl (hkr3, 25, .inl wR3)), (hr4, .inl (hkr4, 25, .inl wR4)), (gd, .inr (0, [.ref pl, .int gdl, .long gdh, .long gdw, .int gdi, .int gde, .int gdc, .ref gdt, .int gdg, .ref gdu, .int gdn, .ref gdx]))] ∧ va_S A s.heap H locs ∧ lv_has ls 5 [(4, .int a.1), (3, .int a.2), (0, .ref ho), (1, .ref gd), (2, .int p0)]) (μ := fun a => (5 - a.1.toInt).toNat) ?_ ((0 : Int32), (0 : Int32)) ⟨(by have k0 : (0 : Int32).toInt = 0 := (by decide); (try dsimp only); omega), hP.sub [0, 1, 2, 3, 4, 5, 6, 7] rfl, hD.sub [0, 1, 2, 3, 4, 5, 6, 7] (by decide) rfl, hS, lv_sub hl [0, 1, 2, 3, 4] rfl⟩
  intro a H locs ls hI ih5
  obtain ⟨i1, mm⟩ := a
  obtain ⟨h_i1, hP, hD, hS, hl⟩ := hI
  have h_i1 : 0 ≤ i1.toInt ∧ i1.toInt ≤ 5 := h_i1
  have hP : va_P (dC, dI) vwCl [(ho, .inr (2, [.ref hob, .ref hoo, .ref hos])), (hos, .inl (hoks, 5, .inr (.inr (.inr (.inr wS))))), (hr0, .inl (hkr0, 25, .inl wR0)), (hr1, .inl (hkr1, 25, .inl wR1)), (hr2, .inl (hkr2, 25, .inl wR2)), (hr3, .inl (hkr3, 25, .inl wR3)), (hr4, .inl (hkr4, 25, .inl wR4)), (gd, .inr (0, [.ref pl, .int gdl, .long gdh, .long gdw, .int gdi, .int gde, .int gdc, .ref gdt, .int gdg, .ref gdu, .int gdn, .ref gdx]))] H := hP
  have hD : va_D A [(ho, .inr (2, [.ref hob, .ref hoo, .ref hos])), (hos, .inl (hoks, 5, .inr (.inr (.inr (.inr wS))))), (hr0, .inl (hkr0, 25, .inl wR0)), (hr1, .inl (hkr1, 25, .inl wR1)), (hr2, .inl (hkr2, 25, .inl wR2)), (hr3, .inl (hkr3, 25, .inl wR3)), (hr4, .inl (hkr4, 25, .inl wR4)), (gd, .inr (0, [.ref pl, .int gdl, .long gdh, .long gdw, .int gdi, .int gde, .int gdc, .ref gdt, .int gdg, .ref gdu, .int gdn, .ref gdx]))] := hD
  have hl : lv_has ls 5 [(4, .int i1), (3, .int mm), (0, .ref ho), (1, .ref gd), (2, .int p0)] := hl
  refine lv_iload hx hb dX2_mostStepsTo_5 (lv_at hl 0 rfl) ?_
  refine lv_aload_n hx hb dX2_mostStepsTo_7 rfl (lv_at hl 3 rfl) ?_
  refine va_get (D := (dC, dI)) (ci := 0) (v := .int gdg) (C := RX0) (T := TX0) (N := 12) hx hb hts in_X2_mostStepsTo_X0 hown hK hP 7 rfl rfl 8 (by decide) (hts _ wd_X2_mostStepsTo_0) (fun _ h9 => h9) rfl dX2_mostStepsTo_8 ?_
  refine lv_icmp_ge (tgt := 34) hx hb dX2_mostStepsTo_11 (by decide) (fun c_1 => ?_) (fun c_1 => ?_)
  · have c_1 : gdg.toInt ≤ i1.toInt := i_le (a := gdg) (b := i1) rfl rfl c_1
    refine lv_iload_n hx hb dX2_mostStepsTo_34 rfl (lv_at hl 1 rfl) ?_
    have hP9 := hP.sub (ws' := [(ho, .inr (2, [.ref hob, .ref hoo, .ref hos])), (hos, .inl (hoks, 5, .inr (.inr (.inr (.inr wS))))), (hr0, .inl (hkr0, 25, .inl wR0)), (hr1, .inl (hkr1, 25, .inl wR1)), (hr2, .inl (hkr2, 25, .inl wR2)), (hr3, .inl (hkr3, 25, .inl wR3)), (hr4, .inl (hkr4, 25, .inl wR4)), (gd, .inr (0, [.ref pl, .int gdl, .long gdh, .long gdw, .int gdi, .int gde, .int gdc, .ref gdt, .int gdg, .ref gdu, .int gdn, .ref gdx]))]) [0, 1, 2, 3, 4, 5, 6, 7] rfl
    have hD9 := hD.sub (ws' := [(ho, .inr (2, [.ref hob, .ref hoo, .ref hos])), (hos, .inl (hoks, 5, .inr (.inr (.inr (.inr wS))))), (hr0, .inl (hkr0, 25, .inl wR0)), (hr1, .inl (hkr1, 25, .inl wR1)), (hr2, .inl (hkr2, 25, .inl wR2)), (hr3, .inl (hkr3, 25, .inl wR3)), (hr4, .inl (hkr4, 25, .inl wR4)), (gd, .inr (0, [.ref pl, .int gdl, .long gdh, .long gdw, .int gdi, .int gde, .int gdc, .ref gdt, .int gdg, .ref gdu, .int gdn, .ref gdx]))]) [0, 1, 2, 3, 4, 5, 6, 7] (by decide) rfl
    have hK9 := hK.sub (tys' := []) [] rfl
    refine W.widen (k := 0) (n := 0) (by omega) (by omega) ?_
    exact W.iret (v := mm) hx hb hr (fun t ht hW => ⟨⟨mm, (), rfl, trivial, by rw [ht]; exact hP9, va_K.moved hW.alike hK9, hD9⟩, hS.F ht⟩) hS.2.2 dX2_mostStepsTo_35
  · have c_1 : i1.toInt < gdg.toInt := i_nle (a := gdg) (b := i1) rfl rfl c_1
    refine lv_iload_n hx hb dX2_mostStepsTo_14 rfl (lv_at hl 1 rfl) ?_
    refine lv_aload_n hx hb dX2_mostStepsTo_15 rfl (lv_at hl 2 rfl) ?_
    refine va_get (D := (dC, dI)) (ci := 2) (v := .ref hos) (C := RX2) (T := TX2) (N := 3) hx hb hts in_X2_mostStepsTo_X2 hown hK hP 0 rfl rfl 2 (by decide) (hts _ wd_X2_mostStepsTo_1) (fun _ h9 => h9) rfl dX2_mostStepsTo_16 ?_
    refine lv_iload hx hb dX2_mostStepsTo_19 (lv_at hl 0 rfl) ?_
    have hPy_2 := hP
    have hDy_2 := hD
    have hSy_2 := hS
    have hly_2 := hl
    have hKy_2 := hK
    rcases (i_five (a := i1) (by omega) (by omega) : i1 = 0 ∨ i1 = 1 ∨ i1 = 2 ∨ i1 = 3 ∨ i1 = 4) with rfl | rfl | rfl | rfl | rfl
    · have hP := hPy_2
      have hD := hDy_2
      have hS := hSy_2
      have hl := hly_2
      have hK := hKy_2
      refine va_aldA (i := 0) hx hb hK hP 1 0 rfl rfl (vp_in_iff.mpr ⟨by decide, by decide⟩) dX2_mostStepsTo_21 ?_
      refine W.eq (g2 := F0 m 22 ls (.ref hr0 :: .int mm :: [])) (by rw [show wS (0 : Int32).toNatClampNeg = some hr0 from hq0]; rfl) ?_
      refine lv_iload_n hx hb dX2_mostStepsTo_22 rfl (lv_at hl 4 rfl) ?_
      refine va_iald hx hb hK hP 2 1 rfl rfl (i_in rfl (by omega) (by omega)) dX2_mostStepsTo_23 ?_
      refine lv_topi (fun v_3 ev_3 => ?_)
      refine va_mmax hx hb (hml.trans hl.1.symm) hown (hts _ wd_X2_mostStepsTo_2) (hts _ wd_X2_mostStepsTo_3) (hts _ wd_X2_mostStepsTo_4) (hts _ wd_X2_mostStepsTo_5) (Nat.le_of_ble_eq_true rfl) (Nat.le_of_ble_eq_true rfl) (Nat.le_of_ble_eq_true rfl) (Nat.le_of_ble_eq_true rfl) dX2_mostStepsTo_24 ?_
      refine lv_topi (fun x_4 ex_4 => ?_)
      refine lv_istore_n (lv' := [(3, .int x_4), (4, .int 0), (0, .ref ho), (1, .ref gd), (2, .int p0)]) hx hb dX2_mostStepsTo_27 rfl hl (by decide) rfl (fun ls hl => ?_)
      refine lv_iinc (v := 1) (lv' := [(4, .int 1), (3, .int x_4), (0, .ref ho), (1, .ref gd), (2, .int p0)]) hx hb dX2_mostStepsTo_28 hl (k := 1) rfl (by decide) (by decide) rfl (fun ls hl => ?_)
      refine lv_goto (tgt := 5) hx hb dX2_mostStepsTo_31 (by decide) ?_
      exact ih5 ((1 : Int32), x_4) _ _ _ ⟨(by have k0 : (0 : Int32).toInt = 0 := (by decide); have k1 : (1 : Int32).toInt = 1 := (by decide); have k2 : (2 : Int32).toInt = 2 := (by decide); have k3 : (3 : Int32).toInt = 3 := (by decide); have k4 : (4 : Int32).toInt = 4 := (by decide); (try dsimp only); omega), hP.sub [0, 1, 2, 3, 4, 5, 6, 7] rfl, hD.sub [0, 1, 2, 3, 4, 5, 6, 7] (by decide) rfl, hS, lv_sub hl [0, 1, 2, 3, 4] rfl⟩ (by have k0 : (0 : Int32).toInt = 0 := (by decide); have k1 : (1 : Int32).toInt = 1 := (by decide); have k2 : (2 : Int32).toInt = 2 := (by decide); have k3 : (3 : Int32).toInt = 3 := (by decide); have k4 : (4 : Int32).toInt = 4 := (by decide); (try dsimp only); omega)
    · have hP := hPy_2
      have hD := hDy_2
      have hS := hSy_2
      have hl := hly_2
      have hK := hKy_2
      refine va_aldA (i := 1) hx hb hK hP 1 0 rfl rfl (vp_in_iff.mpr ⟨by decide, by decide⟩) dX2_mostStepsTo_21 ?_
      refine W.eq (g2 := F0 m 22 ls (.ref hr1 :: .int mm :: [])) (by rw [show wS (1 : Int32).toNatClampNeg = some hr1 from hq1]; rfl) ?_
      refine lv_iload_n hx hb dX2_mostStepsTo_22 rfl (lv_at hl 4 rfl) ?_
      refine va_iald hx hb hK hP 3 2 rfl rfl (i_in rfl (by omega) (by omega)) dX2_mostStepsTo_23 ?_
      refine lv_topi (fun v_5 ev_5 => ?_)
      refine va_mmax hx hb (hml.trans hl.1.symm) hown (hts _ wd_X2_mostStepsTo_2) (hts _ wd_X2_mostStepsTo_3) (hts _ wd_X2_mostStepsTo_4) (hts _ wd_X2_mostStepsTo_5) (Nat.le_of_ble_eq_true rfl) (Nat.le_of_ble_eq_true rfl) (Nat.le_of_ble_eq_true rfl) (Nat.le_of_ble_eq_true rfl) dX2_mostStepsTo_24 ?_
      refine lv_topi (fun x_6 ex_6 => ?_)
      refine lv_istore_n (lv' := [(3, .int x_6), (4, .int 1), (0, .ref ho), (1, .ref gd), (2, .int p0)]) hx hb dX2_mostStepsTo_27 rfl hl (by decide) rfl (fun ls hl => ?_)
      refine lv_iinc (v := 2) (lv' := [(4, .int 2), (3, .int x_6), (0, .ref ho), (1, .ref gd), (2, .int p0)]) hx hb dX2_mostStepsTo_28 hl (k := 1) rfl (by decide) (by decide) rfl (fun ls hl => ?_)
      refine lv_goto (tgt := 5) hx hb dX2_mostStepsTo_31 (by decide) ?_
      exact ih5 ((2 : Int32), x_6) _ _ _ ⟨(by have k0 : (0 : Int32).toInt = 0 := (by decide); have k1 : (1 : Int32).toInt = 1 := (by decide); have k2 : (2 : Int32).toInt = 2 := (by decide); have k3 : (3 : Int32).toInt = 3 := (by decide); have k4 : (4 : Int32).toInt = 4 := (by decide); (try dsimp only); omega), hP.sub [0, 1, 2, 3, 4, 5, 6, 7] rfl, hD.sub [0, 1, 2, 3, 4, 5, 6, 7] (by decide) rfl, hS, lv_sub hl [0, 1, 2, 3, 4] rfl⟩ (by have k0 : (0 : Int32).toInt = 0 := (by decide); have k1 : (1 : Int32).toInt = 1 := (by decide); have k2 : (2 : Int32).toInt = 2 := (by decide); have k3 : (3 : Int32).toInt = 3 := (by decide); have k4 : (4 : Int32).toInt = 4 := (by decide); (try dsimp only); omega)
    · have hP := hPy_2
      have hD := hDy_2
      have hS := hSy_2
      have hl := hly_2
      have hK := hKy_2
      refine va_aldA (i := 2) hx hb hK hP 1 0 rfl rfl (vp_in_iff.mpr ⟨by decide, by decide⟩) dX2_mostStepsTo_21 ?_
      refine W.eq (g2 := F0 m 22 ls (.ref hr2 :: .int mm :: [])) (by rw [show wS (2 : Int32).toNatClampNeg = some hr2 from hq2]; rfl) ?_
      refine lv_iload_n hx hb dX2_mostStepsTo_22 rfl (lv_at hl 4 rfl) ?_
      refine va_iald hx hb hK hP 4 3 rfl rfl (i_in rfl (by omega) (by omega)) dX2_mostStepsTo_23 ?_
      refine lv_topi (fun v_7 ev_7 => ?_)
      refine va_mmax hx hb (hml.trans hl.1.symm) hown (hts _ wd_X2_mostStepsTo_2) (hts _ wd_X2_mostStepsTo_3) (hts _ wd_X2_mostStepsTo_4) (hts _ wd_X2_mostStepsTo_5) (Nat.le_of_ble_eq_true rfl) (Nat.le_of_ble_eq_true rfl) (Nat.le_of_ble_eq_true rfl) (Nat.le_of_ble_eq_true rfl) dX2_mostStepsTo_24 ?_
      refine lv_topi (fun x_8 ex_8 => ?_)
      refine lv_istore_n (lv' := [(3, .int x_8), (4, .int 2), (0, .ref ho), (1, .ref gd), (2, .int p0)]) hx hb dX2_mostStepsTo_27 rfl hl (by decide) rfl (fun ls hl => ?_)
      refine lv_iinc (v := 3) (lv' := [(4, .int 3), (3, .int x_8), (0, .ref ho), (1, .ref gd), (2, .int p0)]) hx hb dX2_mostStepsTo_28 hl (k := 1) rfl (by decide) (by decide) rfl (fun ls hl => ?_)
      refine lv_goto (tgt := 5) hx hb dX2_mostStepsTo_31 (by decide) ?_
      exact ih5 ((3 : Int32), x_8) _ _ _ ⟨(by have k0 : (0 : Int32).toInt = 0 := (by decide); have k1 : (1 : Int32).toInt = 1 := (by decide); have k2 : (2 : Int32).toInt = 2 := (by decide); have k3 : (3 : Int32).toInt = 3 := (by decide); have k4 : (4 : Int32).toInt = 4 := (by decide); (try dsimp only); omega), hP.sub [0, 1, 2, 3, 4, 5, 6, 7] rfl, hD.sub [0, 1, 2, 3, 4, 5, 6, 7] (by decide) rfl, hS, lv_sub hl [0, 1, 2, 3, 4] rfl⟩ (by have k0 : (0 : Int32).toInt = 0 := (by decide); have k1 : (1 : Int32).toInt = 1 := (by decide); have k2 : (2 : Int32).toInt = 2 := (by decide); have k3 : (3 : Int32).toInt = 3 := (by decide); have k4 : (4 : Int32).toInt = 4 := (by decide); (try dsimp only); omega)
    · have hP := hPy_2
      have hD := hDy_2
      have hS := hSy_2
      have hl := hly_2
      have hK := hKy_2
      refine va_aldA (i := 3) hx hb hK hP 1 0 rfl rfl (vp_in_iff.mpr ⟨by decide, by decide⟩) dX2_mostStepsTo_21 ?_
      refine W.eq (g2 := F0 m 22 ls (.ref hr3 :: .int mm :: [])) (by rw [show wS (3 : Int32).toNatClampNeg = some hr3 from hq3]; rfl) ?_
      refine lv_iload_n hx hb dX2_mostStepsTo_22 rfl (lv_at hl 4 rfl) ?_
      refine va_iald hx hb hK hP 5 4 rfl rfl (i_in rfl (by omega) (by omega)) dX2_mostStepsTo_23 ?_
      refine lv_topi (fun v_9 ev_9 => ?_)
      refine va_mmax hx hb (hml.trans hl.1.symm) hown (hts _ wd_X2_mostStepsTo_2) (hts _ wd_X2_mostStepsTo_3) (hts _ wd_X2_mostStepsTo_4) (hts _ wd_X2_mostStepsTo_5) (Nat.le_of_ble_eq_true rfl) (Nat.le_of_ble_eq_true rfl) (Nat.le_of_ble_eq_true rfl) (Nat.le_of_ble_eq_true rfl) dX2_mostStepsTo_24 ?_
      refine lv_topi (fun x_10 ex_10 => ?_)
      refine lv_istore_n (lv' := [(3, .int x_10), (4, .int 3), (0, .ref ho), (1, .ref gd), (2, .int p0)]) hx hb dX2_mostStepsTo_27 rfl hl (by decide) rfl (fun ls hl => ?_)
      refine lv_iinc (v := 4) (lv' := [(4, .int 4), (3, .int x_10), (0, .ref ho), (1, .ref gd), (2, .int p0)]) hx hb dX2_mostStepsTo_28 hl (k := 1) rfl (by decide) (by decide) rfl (fun ls hl => ?_)
      refine lv_goto (tgt := 5) hx hb dX2_mostStepsTo_31 (by decide) ?_
      exact ih5 ((4 : Int32), x_10) _ _ _ ⟨(by have k0 : (0 : Int32).toInt = 0 := (by decide); have k1 : (1 : Int32).toInt = 1 := (by decide); have k2 : (2 : Int32).toInt = 2 := (by decide); have k3 : (3 : Int32).toInt = 3 := (by decide); have k4 : (4 : Int32).toInt = 4 := (by decide); (try dsimp only); omega), hP.sub [0, 1, 2, 3, 4, 5, 6, 7] rfl, hD.sub [0, 1, 2, 3, 4, 5, 6, 7] (by decide) rfl, hS, lv_sub hl [0, 1, 2, 3, 4] rfl⟩ (by have k0 : (0 : Int32).toInt = 0 := (by decide); have k1 : (1 : Int32).toInt = 1 := (by decide); have k2 : (2 : Int32).toInt = 2 := (by decide); have k3 : (3 : Int32).toInt = 3 := (by decide); have k4 : (4 : Int32).toInt = 4 := (by decide); (try dsimp only); omega)
    · have hP := hPy_2
      have hD := hDy_2
      have hS := hSy_2
      have hl := hly_2
      have hK := hKy_2
      refine va_aldA (i := 4) hx hb hK hP 1 0 rfl rfl (vp_in_iff.mpr ⟨by decide, by decide⟩) dX2_mostStepsTo_21 ?_
      refine W.eq (g2 := F0 m 22 ls (.ref hr4 :: .int mm :: [])) (by rw [show wS (4 : Int32).toNatClampNeg = some hr4 from hq4]; rfl) ?_
      refine lv_iload_n hx hb dX2_mostStepsTo_22 rfl (lv_at hl 4 rfl) ?_
      refine va_iald hx hb hK hP 6 5 rfl rfl (i_in rfl (by omega) (by omega)) dX2_mostStepsTo_23 ?_
      refine lv_topi (fun v_11 ev_11 => ?_)
      refine va_mmax hx hb (hml.trans hl.1.symm) hown (hts _ wd_X2_mostStepsTo_2) (hts _ wd_X2_mostStepsTo_3) (hts _ wd_X2_mostStepsTo_4) (hts _ wd_X2_mostStepsTo_5) (Nat.le_of_ble_eq_true rfl) (Nat.le_of_ble_eq_true rfl) (Nat.le_of_ble_eq_true rfl) (Nat.le_of_ble_eq_true rfl) dX2_mostStepsTo_24 ?_
      refine lv_topi (fun x_12 ex_12 => ?_)
      refine lv_istore_n (lv' := [(3, .int x_12), (4, .int 4), (0, .ref ho), (1, .ref gd), (2, .int p0)]) hx hb dX2_mostStepsTo_27 rfl hl (by decide) rfl (fun ls hl => ?_)
      refine lv_iinc (v := 5) (lv' := [(4, .int 5), (3, .int x_12), (0, .ref ho), (1, .ref gd), (2, .int p0)]) hx hb dX2_mostStepsTo_28 hl (k := 1) rfl (by decide) (by decide) rfl (fun ls hl => ?_)
      refine lv_goto (tgt := 5) hx hb dX2_mostStepsTo_31 (by decide) ?_
      exact ih5 ((5 : Int32), x_12) _ _ _ ⟨(by have k0 : (0 : Int32).toInt = 0 := (by decide); have k1 : (1 : Int32).toInt = 1 := (by decide); have k2 : (2 : Int32).toInt = 2 := (by decide); have k3 : (3 : Int32).toInt = 3 := (by decide); have k4 : (4 : Int32).toInt = 4 := (by decide); have k5 : (5 : Int32).toInt = 5 := (by decide); (try dsimp only); omega), hP.sub [0, 1, 2, 3, 4, 5, 6, 7] rfl, hD.sub [0, 1, 2, 3, 4, 5, 6, 7] (by decide) rfl, hS, lv_sub hl [0, 1, 2, 3, 4] rfl⟩ (by have k0 : (0 : Int32).toInt = 0 := (by decide); have k1 : (1 : Int32).toInt = 1 := (by decide); have k2 : (2 : Int32).toInt = 2 := (by decide); have k3 : (3 : Int32).toInt = 3 := (by decide); have k4 : (4 : Int32).toInt = 4 := (by decide); have k5 : (5 : Int32).toInt = 5 := (by decide); (try dsimp only); omega)

theorem dX2_allStepsTo_0 : decode cX2_allStepsTo 0 = .ok (.iconst 0, 1) := by decide +kernel
theorem dX2_allStepsTo_1 : decode cX2_allStepsTo 1 = .ok (.istore_n 3, 1) := by decide +kernel
theorem dX2_allStepsTo_2 : decode cX2_allStepsTo 2 = .ok (.iconst 0, 1) := by decide +kernel
theorem dX2_allStepsTo_3 : decode cX2_allStepsTo 3 = .ok (.istore 4, 2) := by decide +kernel
theorem dX2_allStepsTo_5 : decode cX2_allStepsTo 5 = .ok (.iload 4, 2) := by decide +kernel
theorem dX2_allStepsTo_7 : decode cX2_allStepsTo 7 = .ok (.aload_n 1, 1) := by decide +kernel
theorem dX2_allStepsTo_8 : decode cX2_allStepsTo 8 = .ok (.getfield 23, 3) := by decide +kernel
theorem dX2_allStepsTo_11 : decode cX2_allStepsTo 11 = .ok (.if_icmp .ge 21, 3) := by decide +kernel
theorem dX2_allStepsTo_14 : decode cX2_allStepsTo 14 = .ok (.iload_n 3, 1) := by decide +kernel
theorem dX2_allStepsTo_15 : decode cX2_allStepsTo 15 = .ok (.aload_n 0, 1) := by decide +kernel
theorem dX2_allStepsTo_16 : decode cX2_allStepsTo 16 = .ok (.getfield 20, 3) := by decide +kernel
theorem dX2_allStepsTo_19 : decode cX2_allStepsTo 19 = .ok (.iload 4, 2) := by decide +kernel
theorem dX2_allStepsTo_21 : decode cX2_allStepsTo 21 = .ok (.aaload, 1) := by decide +kernel
theorem dX2_allStepsTo_22 : decode cX2_allStepsTo 22 = .ok (.iload_n 2, 1) := by decide +kernel
theorem dX2_allStepsTo_23 : decode cX2_allStepsTo 23 = .ok (.iaload, 1) := by decide +kernel
theorem dX2_allStepsTo_24 : decode cX2_allStepsTo 24 = .ok (.iadd, 1) := by decide +kernel
theorem dX2_allStepsTo_25 : decode cX2_allStepsTo 25 = .ok (.istore_n 3, 1) := by decide +kernel
theorem dX2_allStepsTo_26 : decode cX2_allStepsTo 26 = .ok (.iinc 4 1, 3) := by decide +kernel
theorem dX2_allStepsTo_29 : decode cX2_allStepsTo 29 = .ok (.goto (-24), 3) := by decide +kernel
theorem dX2_allStepsTo_32 : decode cX2_allStepsTo 32 = .ok (.iload_n 3, 1) := by decide +kernel
theorem dX2_allStepsTo_33 : decode cX2_allStepsTo 33 = .ok (.ireturn, 1) := by decide +kernel
def wz_X2_allStepsTo : List Cond := .code yX2_allStepsTo cX2_allStepsTo 5 (some .int) :: ([Cond.fieldLink RX2 23 "HedgeMaze$Garden" "guestCount" "I", Cond.fieldLink RX2 20 "HedgeMaze$Host" "stepsFrom" "[[I"] ++ wsX00 ++ wsX20)
theorem wd_X2_allStepsTo_0 : Cond.fieldLink RX2 23 "HedgeMaze$Garden" "guestCount" "I" ∈ wz_X2_allStepsTo := List.mem_of_getElem? (i := 1) rfl
theorem wd_X2_allStepsTo_1 : Cond.fieldLink RX2 20 "HedgeMaze$Host" "stepsFrom" "[[I" ∈ wz_X2_allStepsTo := List.mem_of_getElem? (i := 2) rfl
theorem in_X2_allStepsTo_X0 : ∀ w ∈ wsX00, w ∈ wz_X2_allStepsTo := fun _ h => List.mem_cons_of_mem _ (List.mem_append_left _ (List.mem_append_right _ h))
theorem in_X2_allStepsTo_X2 : ∀ w ∈ wsX20, w ∈ wz_X2_allStepsTo := fun _ h => List.mem_cons_of_mem _ (List.mem_append_right _ h)
set_option maxHeartbeats 4000000 in
set_option maxRecDepth 100000 in
theorem c_X2_allStepsTo (l : Launch) (dC : Nat → ClassId) (dI : Nat → Nat → Nat) (sz : Nat) (ho : Nat) (hob : Nat) (hoo : Nat) (hos : Nat) (hoks : ClassId) (wS : Nat → Option Nat) (hr0 : Nat) (hkr0 : ClassId) (wR0 : Nat → Int32) (hr1 : Nat) (hkr1 : ClassId) (wR1 : Nat → Int32) (hr2 : Nat) (hkr2 : ClassId) (wR2 : Nat → Int32) (hr3 : Nat) (hkr3 : ClassId) (wR3 : Nat → Int32) (hr4 : Nat) (hkr4 : ClassId) (wR4 : Nat → Int32) (gd : Nat) (gdl : Int32) (gdh : Int64) (gdw : Int64) (gdi : Int32) (gde : Int32) (gdc : Int32) (gdt : Nat) (gdg : Int32) (gdu : Nat) (gdn : Int32) (gdx : Nat) (pl : Nat) (p0 : Int32) (hq0 : wS 0 = some hr0) (hq1 : wS 1 = some hr1) (hq2 : wS 2 = some hr2) (hq3 : wS 3 = some hr3) (hq4 : wS 4 = some hr4) (h_gdg : 0 ≤ gdg.toInt ∧ gdg.toInt ≤ 5) (h_p0 : 0 ≤ p0.toInt ∧ p0.toInt ≤ 24) : Met l yX2_allStepsTo wz_X2_allStepsTo ({ frames := 0, cells := 0, slots := 0, locals := 0 }) (va_Pc [.ref ho, .ref gd, .int p0] (fun U => U.heap.size = sz ∧ va_P (dC, dI) vwCl [(ho, .inr (2, [.ref hob, .ref hoo, .ref hos])), (hos, .inl (hoks, 5, .inr (.inr (.inr (.inr wS))))), (hr0, .inl (hkr0, 25, .inl wR0)), (hr1, .inl (hkr1, 25, .inl wR1)), (hr2, .inl (hkr2, 25, .inl wR2)), (hr3, .inl (hkr3, 25, .inl wR3)), (hr4, .inl (hkr4, 25, .inl wR4)), (gd, .inr (0, [.ref pl, .int gdl, .long gdh, .long gdw, .int gdi, .int gde, .int gdc, .ref gdt, .int gdg, .ref gdu, .int gdn, .ref gdx]))] U.heap ∧ va_K (dC, dI) vwCl [(hoks, .array .int), (hkr0, .int), (hkr1, .int), (hkr2, .int), (hkr3, .int), (hkr4, .int)] U ∧ va_D (fun _ => True) [(ho, .inr (2, [.ref hob, .ref hoo, .ref hos])), (hos, .inl (hoks, 5, .inr (.inr (.inr (.inr wS))))), (hr0, .inl (hkr0, 25, .inl wR0)), (hr1, .inl (hkr1, 25, .inl wR1)), (hr2, .inl (hkr2, 25, .inl wR2)), (hr3, .inl (hkr3, 25, .inl wR3)), (hr4, .inl (hkr4, 25, .inl wR4)), (gd, .inr (0, [.ref pl, .int gdl, .long gdh, .long gdw, .int gdi, .int gde, .int gdc, .ref gdt, .int gdg, .ref gdu, .int gdn, .ref gdx]))])) (va_Qi (fun (r : Int32) (u : Unit) => True) (fun (u : Unit) (t : State) => va_P (dC, dI) vwCl [(ho, .inr (2, [.ref hob, .ref hoo, .ref hos])), (hos, .inl (hoks, 5, .inr (.inr (.inr (.inr wS))))), (hr0, .inl (hkr0, 25, .inl wR0)), (hr1, .inl (hkr1, 25, .inl wR1)), (hr2, .inl (hkr2, 25, .inl wR2)), (hr3, .inl (hkr3, 25, .inl wR3)), (hr4, .inl (hkr4, 25, .inl wR4)), (gd, .inr (0, [.ref pl, .int gdl, .long gdh, .long gdw, .int gdi, .int gde, .int gdc, .ref gdt, .int gdg, .ref gdu, .int gdn, .ref gdx]))] t.heap ∧ va_K (dC, dI) vwCl [] t ∧ va_D (va_A [(ho, .inr (2, [.ref hob, .ref hoo, .ref hos])), (hos, .inl (hoks, 5, .inr (.inr (.inr (.inr wS))))), (hr0, .inl (hkr0, 25, .inl wR0)), (hr1, .inl (hkr1, 25, .inl wR1)), (hr2, .inl (hkr2, 25, .inl wR2)), (hr3, .inl (hkr3, 25, .inl wR3)), (hr4, .inl (hkr4, 25, .inl wR4)), (gd, .inr (0, [.ref pl, .int gdl, .long gdh, .long gdw, .int gdi, .int gde, .int gdc, .ref gdt, .int gdg, .ref gdu, .int gdn, .ref gdx]))] sz) [(ho, .inr (2, [.ref hob, .ref hoo, .ref hos])), (hos, .inl (hoks, 5, .inr (.inr (.inr (.inr wS))))), (hr0, .inl (hkr0, 25, .inl wR0)), (hr1, .inl (hkr1, 25, .inl wR1)), (hr2, .inl (hkr2, 25, .inl wR2)), (hr3, .inl (hkr3, 25, .inl wR3)), (hr4, .inl (hkr4, 25, .inl wR4)), (gd, .inr (0, [.ref pl, .int gdl, .long gdh, .long gdw, .int gdi, .int gde, .int gdc, .ref gdt, .int gdg, .ref gdu, .int gdn, .ref gdx]))]) (va_A [(ho, .inr (2, [.ref hob, .ref hoo, .ref hos])), (hos, .inl (hoks, 5, .inr (.inr (.inr (.inr wS))))), (hr0, .inl (hkr0, 25, .inl wR0)), (hr1, .inl (hkr1, 25, .inl wR1)), (hr2, .inl (hkr2, 25, .inl wR2)), (hr3, .inl (hkr3, 25, .inl wR3)), (hr4, .inl (hkr4, 25, .inl wR4)), (gd, .inr (0, [.ref pl, .int gdl, .long gdh, .long gdw, .int gdi, .int gde, .int gdc, .ref gdt, .int gdg, .ref gdu, .int gdn, .ref gdx]))] sz)) 0 0 (va_A [(ho, .inr (2, [.ref hob, .ref hoo, .ref hos])), (hos, .inl (hoks, 5, .inr (.inr (.inr (.inr wS))))), (hr0, .inl (hkr0, 25, .inl wR0)), (hr1, .inl (hkr1, 25, .inl wR1)), (hr2, .inl (hkr2, 25, .inl wR2)), (hr3, .inl (hkr3, 25, .inl wR3)), (hr4, .inl (hkr4, 25, .inl wR4)), (gd, .inr (0, [.ref pl, .int gdl, .long gdh, .long gdw, .int gdi, .int gde, .int gdc, .ref gdt, .int gdg, .ref gdu, .int gdn, .ref gdx]))] sz) := by
  refine Met.ofW (cc := cX2_allStepsTo) (maxL := 5) (ret := (some .int)) (by decide) rfl ?_
  intro p e s m args below meth c s₁ B hml hv
  obtain ⟨rfl, hsz, hP, hK, hD0⟩ := hv
  have hx := B.exec
  have hb := B.bytes
  have hr := B.returns
  have hts := atoms_spec (ws := wz_X2_allStepsTo) B.pre
  have hown : s.vm.findClass RX2 = some m.cls := findClass_of_methodNamed B.named
  have hlocks := B.notSynchronized
  subst hsz
  have hD := hD0.self (sz := s.heap.size)
  generalize hAe : va_A [(ho, .inr (2, [.ref hob, .ref hoo, .ref hos])), (hos, .inl (hoks, 5, .inr (.inr (.inr (.inr wS))))), (hr0, .inl (hkr0, 25, .inl wR0)), (hr1, .inl (hkr1, 25, .inl wR1)), (hr2, .inl (hkr2, 25, .inl wR2)), (hr3, .inl (hkr3, 25, .inl wR3)), (hr4, .inl (hkr4, 25, .inl wR4)), (gd, .inr (0, [.ref pl, .int gdl, .long gdh, .long gdw, .int gdi, .int gde, .int gdc, .ref gdt, .int gdg, .ref gdu, .int gdn, .ref gdx]))] s.heap.size = A at hD ⊢
  have hA : ∀ q : Nat, s.heap.size ≤ q → A q := fun q h => by rw [← hAe]; exact Or.inr h
  have hS : va_S A s.heap s.heap [] := va_S.rf
  have hP : va_P (dC, dI) vwCl [(ho, .inr (2, [.ref hob, .ref hoo, .ref hos])), (hos, .inl (hoks, 5, .inr (.inr (.inr (.inr wS))))), (hr0, .inl (hkr0, 25, .inl wR0)), (hr1, .inl (hkr1, 25, .inl wR1)), (hr2, .inl (hkr2, 25, .inl wR2)), (hr3, .inl (hkr3, 25, .inl wR3)), (hr4, .inl (hkr4, 25, .inl wR4)), (gd, .inr (0, [.ref pl, .int gdl, .long gdh, .long gdw, .int gdi, .int gde, .int gdc, .ref gdt, .int gdg, .ref gdu, .int gdn, .ref gdx]))] s.heap := hP
  have hl := lv_entry ([.ref ho, .ref gd, .int p0]) (n := 5) (Nat.le_of_ble_eq_true rfl)
  rw [lg_entry_eq]
  generalize (lg_sl ([.ref ho, .ref gd, .int p0]) ++ List.replicate (5 - (lg_sl ([.ref ho, .ref gd, .int p0])).length) Slot.unset).toArray = ls at hl ⊢
  have hl : lv_has ls 5 [(0, .ref ho), (1, .ref gd), (2, .int p0)] := hl
  refine lv_iconst (v := 0) hx hb dX2_allStepsTo_0 (by decide) ?_
  refine lv_istore_n (lv' := [(3, .int 0), (0, .ref ho), (1, .ref gd), (2, .int p0)]) hx hb dX2_allStepsTo_1 rfl hl (by decide) rfl (fun ls hl => ?_)
  refine lv_iconst (v := 0) hx hb dX2_allStepsTo_2 (by decide) ?_
  refine lv_istore (lv' := [(4, .int 0), (3, .int 0), (0, .ref ho), (1, .ref gd), (2, .int p0)]) hx hb dX2_allStepsTo_3 hl (by decide) rfl (fun ls hl => ?_)
  refine lp_W (I := fun (a : Int32 × Int32) H locs ls => (0 ≤ a.1.toInt ∧ a.1.toInt ≤ 5) ∧ va_P (dC, dI) vwCl [(ho, .inr (2, [.ref hob, .ref hoo, .ref hos])), (hos, .inl (hoks, 5, .inr (.inr (.inr (.inr wS))))), (hr0, .inl (hkr0, 25, .inl wR0)), (hr1, .inl (hkr1, 25, .inl wR1)), (hr2, .inl (hkr2, 25, .inl wR2)), (hr3, .inl (hkr3, 25, .inl wR3)), (hr4, .inl (hkr4, 25, .inl wR4)), (gd, .inr (0, [.ref pl, .int gdl, .long gdh, .long gdw, .int gdi, .int gde, .int gdc, .ref gdt, .int gdg, .ref gdu, .int gdn, .ref gdx]))] H ∧ va_D A [(ho, .inr (2, [.ref hob, .ref hoo, .ref hos])), (hos, .inl (hoks, 5, .inr (.inr (.inr (.inr wS))))), (hr0, .inl (hkr0, 25, .inl wR0)), (hr1, .inl (hkr1, 25, .inl wR1)), (hr2, .inl (hkr2, 25, .inl wR2)), (hr3, .inl (hkr3, 25, .inl wR3)), (hr4, .inl (hkr4, 25, .inl wR4)), (gd, .inr (0, [.ref pl, .int gdl, .long gdh, .long gdw, .int gdi, .int gde, .int gdc, .ref gdt, .int gdg, .ref gdu, .int gdn, .ref gdx]))] ∧ va_S A s.heap H locs ∧ lv_has ls 5 [(4, .int a.1), (3, .int a.2), (0, .ref ho), (1, .ref gd), (2, .int p0)]) (μ := fun a => (5 - a.1.toInt).toNat) ?_ ((0 : Int32), (0 : Int32)) ⟨(by have k0 : (0 : Int32).toInt = 0 := (by decide); (try dsimp only); omega), hP.sub [0, 1, 2, 3, 4, 5, 6, 7] rfl, hD.sub [0, 1, 2, 3, 4, 5, 6, 7] (by decide) rfl, hS, lv_sub hl [0, 1, 2, 3, 4] rfl⟩
  intro a H locs ls hI ih5
  obtain ⟨i1, mm⟩ := a
  obtain ⟨h_i1, hP, hD, hS, hl⟩ := hI
  have h_i1 : 0 ≤ i1.toInt ∧ i1.toInt ≤ 5 := h_i1
  have hP : va_P (dC, dI) vwCl [(ho, .inr (2, [.ref hob, .ref hoo, .ref hos])), (hos, .inl (hoks, 5, .inr (.inr (.inr (.inr wS))))), (hr0, .inl (hkr0, 25, .inl wR0)), (hr1, .inl (hkr1, 25, .inl wR1)), (hr2, .inl (hkr2, 25, .inl wR2)), (hr3, .inl (hkr3, 25, .inl wR3)), (hr4, .inl (hkr4, 25, .inl wR4)), (gd, .inr (0, [.ref pl, .int gdl, .long gdh, .long gdw, .int gdi, .int gde, .int gdc, .ref gdt, .int gdg, .ref gdu, .int gdn, .ref gdx]))] H := hP
  have hD : va_D A [(ho, .inr (2, [.ref hob, .ref hoo, .ref hos])), (hos, .inl (hoks, 5, .inr (.inr (.inr (.inr wS))))), (hr0, .inl (hkr0, 25, .inl wR0)), (hr1, .inl (hkr1, 25, .inl wR1)), (hr2, .inl (hkr2, 25, .inl wR2)), (hr3, .inl (hkr3, 25, .inl wR3)), (hr4, .inl (hkr4, 25, .inl wR4)), (gd, .inr (0, [.ref pl, .int gdl, .long gdh, .long gdw, .int gdi, .int gde, .int gdc, .ref gdt, .int gdg, .ref gdu, .int gdn, .ref gdx]))] := hD
  have hl : lv_has ls 5 [(4, .int i1), (3, .int mm), (0, .ref ho), (1, .ref gd), (2, .int p0)] := hl
  refine lv_iload hx hb dX2_allStepsTo_5 (lv_at hl 0 rfl) ?_
  refine lv_aload_n hx hb dX2_allStepsTo_7 rfl (lv_at hl 3 rfl) ?_
  refine va_get (D := (dC, dI)) (ci := 0) (v := .int gdg) (C := RX0) (T := TX0) (N := 12) hx hb hts in_X2_allStepsTo_X0 hown hK hP 7 rfl rfl 8 (by decide) (hts _ wd_X2_allStepsTo_0) (fun _ h9 => h9) rfl dX2_allStepsTo_8 ?_
  refine lv_icmp_ge (tgt := 32) hx hb dX2_allStepsTo_11 (by decide) (fun c_1 => ?_) (fun c_1 => ?_)
  · have c_1 : gdg.toInt ≤ i1.toInt := i_le (a := gdg) (b := i1) rfl rfl c_1
    refine lv_iload_n hx hb dX2_allStepsTo_32 rfl (lv_at hl 1 rfl) ?_
    have hP9 := hP.sub (ws' := [(ho, .inr (2, [.ref hob, .ref hoo, .ref hos])), (hos, .inl (hoks, 5, .inr (.inr (.inr (.inr wS))))), (hr0, .inl (hkr0, 25, .inl wR0)), (hr1, .inl (hkr1, 25, .inl wR1)), (hr2, .inl (hkr2, 25, .inl wR2)), (hr3, .inl (hkr3, 25, .inl wR3)), (hr4, .inl (hkr4, 25, .inl wR4)), (gd, .inr (0, [.ref pl, .int gdl, .long gdh, .long gdw, .int gdi, .int gde, .int gdc, .ref gdt, .int gdg, .ref gdu, .int gdn, .ref gdx]))]) [0, 1, 2, 3, 4, 5, 6, 7] rfl
    have hD9 := hD.sub (ws' := [(ho, .inr (2, [.ref hob, .ref hoo, .ref hos])), (hos, .inl (hoks, 5, .inr (.inr (.inr (.inr wS))))), (hr0, .inl (hkr0, 25, .inl wR0)), (hr1, .inl (hkr1, 25, .inl wR1)), (hr2, .inl (hkr2, 25, .inl wR2)), (hr3, .inl (hkr3, 25, .inl wR3)), (hr4, .inl (hkr4, 25, .inl wR4)), (gd, .inr (0, [.ref pl, .int gdl, .long gdh, .long gdw, .int gdi, .int gde, .int gdc, .ref gdt, .int gdg, .ref gdu, .int gdn, .ref gdx]))]) [0, 1, 2, 3, 4, 5, 6, 7] (by decide) rfl
    have hK9 := hK.sub (tys' := []) [] rfl
    refine W.widen (k := 0) (n := 0) (by omega) (by omega) ?_
    exact W.iret (v := mm) hx hb hr (fun t ht hW => ⟨⟨mm, (), rfl, trivial, by rw [ht]; exact hP9, va_K.moved hW.alike hK9, hD9⟩, hS.F ht⟩) hS.2.2 dX2_allStepsTo_33
  · have c_1 : i1.toInt < gdg.toInt := i_nle (a := gdg) (b := i1) rfl rfl c_1
    refine lv_iload_n hx hb dX2_allStepsTo_14 rfl (lv_at hl 1 rfl) ?_
    refine lv_aload_n hx hb dX2_allStepsTo_15 rfl (lv_at hl 2 rfl) ?_
    refine va_get (D := (dC, dI)) (ci := 2) (v := .ref hos) (C := RX2) (T := TX2) (N := 3) hx hb hts in_X2_allStepsTo_X2 hown hK hP 0 rfl rfl 2 (by decide) (hts _ wd_X2_allStepsTo_1) (fun _ h9 => h9) rfl dX2_allStepsTo_16 ?_
    refine lv_iload hx hb dX2_allStepsTo_19 (lv_at hl 0 rfl) ?_
    have hPy_2 := hP
    have hDy_2 := hD
    have hSy_2 := hS
    have hly_2 := hl
    have hKy_2 := hK
    rcases (i_five (a := i1) (by omega) (by omega) : i1 = 0 ∨ i1 = 1 ∨ i1 = 2 ∨ i1 = 3 ∨ i1 = 4) with rfl | rfl | rfl | rfl | rfl
    · have hP := hPy_2
      have hD := hDy_2
      have hS := hSy_2
      have hl := hly_2
      have hK := hKy_2
      refine va_aldA (i := 0) hx hb hK hP 1 0 rfl rfl (vp_in_iff.mpr ⟨by decide, by decide⟩) dX2_allStepsTo_21 ?_
      refine W.eq (g2 := F0 m 22 ls (.ref hr0 :: .int mm :: [])) (by rw [show wS (0 : Int32).toNatClampNeg = some hr0 from hq0]; rfl) ?_
      refine lv_iload_n hx hb dX2_allStepsTo_22 rfl (lv_at hl 4 rfl) ?_
      refine va_iald hx hb hK hP 2 1 rfl rfl (i_in rfl (by omega) (by omega)) dX2_allStepsTo_23 ?_
      refine lv_topi (fun v_3 ev_3 => ?_)
      refine lv_iadd hx hb dX2_allStepsTo_24 ?_
      refine lv_topi (fun x_4 ex_4 => ?_)
      refine lv_istore_n (lv' := [(3, .int x_4), (4, .int 0), (0, .ref ho), (1, .ref gd), (2, .int p0)]) hx hb dX2_allStepsTo_25 rfl hl (by decide) rfl (fun ls hl => ?_)
      refine lv_iinc (v := 1) (lv' := [(4, .int 1), (3, .int x_4), (0, .ref ho), (1, .ref gd), (2, .int p0)]) hx hb dX2_allStepsTo_26 hl (k := 1) rfl (by decide) (by decide) rfl (fun ls hl => ?_)
      refine lv_goto (tgt := 5) hx hb dX2_allStepsTo_29 (by decide) ?_
      exact ih5 ((1 : Int32), x_4) _ _ _ ⟨(by have k0 : (0 : Int32).toInt = 0 := (by decide); have k1 : (1 : Int32).toInt = 1 := (by decide); have k2 : (2 : Int32).toInt = 2 := (by decide); have k3 : (3 : Int32).toInt = 3 := (by decide); have k4 : (4 : Int32).toInt = 4 := (by decide); (try dsimp only); omega), hP.sub [0, 1, 2, 3, 4, 5, 6, 7] rfl, hD.sub [0, 1, 2, 3, 4, 5, 6, 7] (by decide) rfl, hS, lv_sub hl [0, 1, 2, 3, 4] rfl⟩ (by have k0 : (0 : Int32).toInt = 0 := (by decide); have k1 : (1 : Int32).toInt = 1 := (by decide); have k2 : (2 : Int32).toInt = 2 := (by decide); have k3 : (3 : Int32).toInt = 3 := (by decide); have k4 : (4 : Int32).toInt = 4 := (by decide); (try dsimp only); omega)
    · have hP := hPy_2
      have hD := hDy_2
      have hS := hSy_2
      have hl := hly_2
      have hK := hKy_2
      refine va_aldA (i := 1) hx hb hK hP 1 0 rfl rfl (vp_in_iff.mpr ⟨by decide, by decide⟩) dX2_allStepsTo_21 ?_
      refine W.eq (g2 := F0 m 22 ls (.ref hr1 :: .int mm :: [])) (by rw [show wS (1 : Int32).toNatClampNeg = some hr1 from hq1]; rfl) ?_
      refine lv_iload_n hx hb dX2_allStepsTo_22 rfl (lv_at hl 4 rfl) ?_
      refine va_iald hx hb hK hP 3 2 rfl rfl (i_in rfl (by omega) (by omega)) dX2_allStepsTo_23 ?_
      refine lv_topi (fun v_5 ev_5 => ?_)
      refine lv_iadd hx hb dX2_allStepsTo_24 ?_
      refine lv_topi (fun x_6 ex_6 => ?_)
      refine lv_istore_n (lv' := [(3, .int x_6), (4, .int 1), (0, .ref ho), (1, .ref gd), (2, .int p0)]) hx hb dX2_allStepsTo_25 rfl hl (by decide) rfl (fun ls hl => ?_)
      refine lv_iinc (v := 2) (lv' := [(4, .int 2), (3, .int x_6), (0, .ref ho), (1, .ref gd), (2, .int p0)]) hx hb dX2_allStepsTo_26 hl (k := 1) rfl (by decide) (by decide) rfl (fun ls hl => ?_)
      refine lv_goto (tgt := 5) hx hb dX2_allStepsTo_29 (by decide) ?_
      exact ih5 ((2 : Int32), x_6) _ _ _ ⟨(by have k0 : (0 : Int32).toInt = 0 := (by decide); have k1 : (1 : Int32).toInt = 1 := (by decide); have k2 : (2 : Int32).toInt = 2 := (by decide); have k3 : (3 : Int32).toInt = 3 := (by decide); have k4 : (4 : Int32).toInt = 4 := (by decide); (try dsimp only); omega), hP.sub [0, 1, 2, 3, 4, 5, 6, 7] rfl, hD.sub [0, 1, 2, 3, 4, 5, 6, 7] (by decide) rfl, hS, lv_sub hl [0, 1, 2, 3, 4] rfl⟩ (by have k0 : (0 : Int32).toInt = 0 := (by decide); have k1 : (1 : Int32).toInt = 1 := (by decide); have k2 : (2 : Int32).toInt = 2 := (by decide); have k3 : (3 : Int32).toInt = 3 := (by decide); have k4 : (4 : Int32).toInt = 4 := (by decide); (try dsimp only); omega)
    · have hP := hPy_2
      have hD := hDy_2
      have hS := hSy_2
      have hl := hly_2
      have hK := hKy_2
      refine va_aldA (i := 2) hx hb hK hP 1 0 rfl rfl (vp_in_iff.mpr ⟨by decide, by decide⟩) dX2_allStepsTo_21 ?_
      refine W.eq (g2 := F0 m 22 ls (.ref hr2 :: .int mm :: [])) (by rw [show wS (2 : Int32).toNatClampNeg = some hr2 from hq2]; rfl) ?_
      refine lv_iload_n hx hb dX2_allStepsTo_22 rfl (lv_at hl 4 rfl) ?_
      refine va_iald hx hb hK hP 4 3 rfl rfl (i_in rfl (by omega) (by omega)) dX2_allStepsTo_23 ?_
      refine lv_topi (fun v_7 ev_7 => ?_)
      refine lv_iadd hx hb dX2_allStepsTo_24 ?_
      refine lv_topi (fun x_8 ex_8 => ?_)
      refine lv_istore_n (lv' := [(3, .int x_8), (4, .int 2), (0, .ref ho), (1, .ref gd), (2, .int p0)]) hx hb dX2_allStepsTo_25 rfl hl (by decide) rfl (fun ls hl => ?_)
      refine lv_iinc (v := 3) (lv' := [(4, .int 3), (3, .int x_8), (0, .ref ho), (1, .ref gd), (2, .int p0)]) hx hb dX2_allStepsTo_26 hl (k := 1) rfl (by decide) (by decide) rfl (fun ls hl => ?_)
      refine lv_goto (tgt := 5) hx hb dX2_allStepsTo_29 (by decide) ?_
      exact ih5 ((3 : Int32), x_8) _ _ _ ⟨(by have k0 : (0 : Int32).toInt = 0 := (by decide); have k1 : (1 : Int32).toInt = 1 := (by decide); have k2 : (2 : Int32).toInt = 2 := (by decide); have k3 : (3 : Int32).toInt = 3 := (by decide); have k4 : (4 : Int32).toInt = 4 := (by decide); (try dsimp only); omega), hP.sub [0, 1, 2, 3, 4, 5, 6, 7] rfl, hD.sub [0, 1, 2, 3, 4, 5, 6, 7] (by decide) rfl, hS, lv_sub hl [0, 1, 2, 3, 4] rfl⟩ (by have k0 : (0 : Int32).toInt = 0 := (by decide); have k1 : (1 : Int32).toInt = 1 := (by decide); have k2 : (2 : Int32).toInt = 2 := (by decide); have k3 : (3 : Int32).toInt = 3 := (by decide); have k4 : (4 : Int32).toInt = 4 := (by decide); (try dsimp only); omega)
    · have hP := hPy_2
      have hD := hDy_2
      have hS := hSy_2
      have hl := hly_2
      have hK := hKy_2
      refine va_aldA (i := 3) hx hb hK hP 1 0 rfl rfl (vp_in_iff.mpr ⟨by decide, by decide⟩) dX2_allStepsTo_21 ?_
      refine W.eq (g2 := F0 m 22 ls (.ref hr3 :: .int mm :: [])) (by rw [show wS (3 : Int32).toNatClampNeg = some hr3 from hq3]; rfl) ?_
      refine lv_iload_n hx hb dX2_allStepsTo_22 rfl (lv_at hl 4 rfl) ?_
      refine va_iald hx hb hK hP 5 4 rfl rfl (i_in rfl (by omega) (by omega)) dX2_allStepsTo_23 ?_
      refine lv_topi (fun v_9 ev_9 => ?_)
      refine lv_iadd hx hb dX2_allStepsTo_24 ?_
      refine lv_topi (fun x_10 ex_10 => ?_)
      refine lv_istore_n (lv' := [(3, .int x_10), (4, .int 3), (0, .ref ho), (1, .ref gd), (2, .int p0)]) hx hb dX2_allStepsTo_25 rfl hl (by decide) rfl (fun ls hl => ?_)
      refine lv_iinc (v := 4) (lv' := [(4, .int 4), (3, .int x_10), (0, .ref ho), (1, .ref gd), (2, .int p0)]) hx hb dX2_allStepsTo_26 hl (k := 1) rfl (by decide) (by decide) rfl (fun ls hl => ?_)
      refine lv_goto (tgt := 5) hx hb dX2_allStepsTo_29 (by decide) ?_
      exact ih5 ((4 : Int32), x_10) _ _ _ ⟨(by have k0 : (0 : Int32).toInt = 0 := (by decide); have k1 : (1 : Int32).toInt = 1 := (by decide); have k2 : (2 : Int32).toInt = 2 := (by decide); have k3 : (3 : Int32).toInt = 3 := (by decide); have k4 : (4 : Int32).toInt = 4 := (by decide); (try dsimp only); omega), hP.sub [0, 1, 2, 3, 4, 5, 6, 7] rfl, hD.sub [0, 1, 2, 3, 4, 5, 6, 7] (by decide) rfl, hS, lv_sub hl [0, 1, 2, 3, 4] rfl⟩ (by have k0 : (0 : Int32).toInt = 0 := (by decide); have k1 : (1 : Int32).toInt = 1 := (by decide); have k2 : (2 : Int32).toInt = 2 := (by decide); have k3 : (3 : Int32).toInt = 3 := (by decide); have k4 : (4 : Int32).toInt = 4 := (by decide); (try dsimp only); omega)
    · have hP := hPy_2
      have hD := hDy_2
      have hS := hSy_2
      have hl := hly_2
      have hK := hKy_2
      refine va_aldA (i := 4) hx hb hK hP 1 0 rfl rfl (vp_in_iff.mpr ⟨by decide, by decide⟩) dX2_allStepsTo_21 ?_
      refine W.eq (g2 := F0 m 22 ls (.ref hr4 :: .int mm :: [])) (by rw [show wS (4 : Int32).toNatClampNeg = some hr4 from hq4]; rfl) ?_
      refine lv_iload_n hx hb dX2_allStepsTo_22 rfl (lv_at hl 4 rfl) ?_
      refine va_iald hx hb hK hP 6 5 rfl rfl (i_in rfl (by omega) (by omega)) dX2_allStepsTo_23 ?_
      refine lv_topi (fun v_11 ev_11 => ?_)
      refine lv_iadd hx hb dX2_allStepsTo_24 ?_
      refine lv_topi (fun x_12 ex_12 => ?_)
      refine lv_istore_n (lv' := [(3, .int x_12), (4, .int 4), (0, .ref ho), (1, .ref gd), (2, .int p0)]) hx hb dX2_allStepsTo_25 rfl hl (by decide) rfl (fun ls hl => ?_)
      refine lv_iinc (v := 5) (lv' := [(4, .int 5), (3, .int x_12), (0, .ref ho), (1, .ref gd), (2, .int p0)]) hx hb dX2_allStepsTo_26 hl (k := 1) rfl (by decide) (by decide) rfl (fun ls hl => ?_)
      refine lv_goto (tgt := 5) hx hb dX2_allStepsTo_29 (by decide) ?_
      exact ih5 ((5 : Int32), x_12) _ _ _ ⟨(by have k0 : (0 : Int32).toInt = 0 := (by decide); have k1 : (1 : Int32).toInt = 1 := (by decide); have k2 : (2 : Int32).toInt = 2 := (by decide); have k3 : (3 : Int32).toInt = 3 := (by decide); have k4 : (4 : Int32).toInt = 4 := (by decide); have k5 : (5 : Int32).toInt = 5 := (by decide); (try dsimp only); omega), hP.sub [0, 1, 2, 3, 4, 5, 6, 7] rfl, hD.sub [0, 1, 2, 3, 4, 5, 6, 7] (by decide) rfl, hS, lv_sub hl [0, 1, 2, 3, 4] rfl⟩ (by have k0 : (0 : Int32).toInt = 0 := (by decide); have k1 : (1 : Int32).toInt = 1 := (by decide); have k2 : (2 : Int32).toInt = 2 := (by decide); have k3 : (3 : Int32).toInt = 3 := (by decide); have k4 : (4 : Int32).toInt = 4 := (by decide); have k5 : (5 : Int32).toInt = 5 := (by decide); (try dsimp only); omega)

theorem dX2_meetingCell_0 : decode cX2_meetingCell 0 = .ok (.iconst 0, 1) := by decide +kernel
theorem dX2_meetingCell_1 : decode cX2_meetingCell 1 = .ok (.istore_n 2, 1) := by decide +kernel
theorem dX2_meetingCell_2 : decode cX2_meetingCell 2 = .ok (.iconst 1, 1) := by decide +kernel
theorem dX2_meetingCell_3 : decode cX2_meetingCell 3 = .ok (.istore_n 3, 1) := by decide +kernel
theorem dX2_meetingCell_4 : decode cX2_meetingCell 4 = .ok (.iload_n 3, 1) := by decide +kernel
theorem dX2_meetingCell_5 : decode cX2_meetingCell 5 = .ok (.aload_n 1, 1) := by decide +kernel
theorem dX2_meetingCell_6 : decode cX2_meetingCell 6 = .ok (.getfield 29, 3) := by decide +kernel
theorem dX2_meetingCell_9 : decode cX2_meetingCell 9 = .ok (.getfield 52, 3) := by decide +kernel
theorem dX2_meetingCell_12 : decode cX2_meetingCell 12 = .ok (.if_icmp .ge 26, 3) := by decide +kernel
theorem dX2_meetingCell_15 : decode cX2_meetingCell 15 = .ok (.aload_n 0, 1) := by decide +kernel
theorem dX2_meetingCell_16 : decode cX2_meetingCell 16 = .ok (.aload_n 1, 1) := by decide +kernel
theorem dX2_meetingCell_17 : decode cX2_meetingCell 17 = .ok (.iload_n 3, 1) := by decide +kernel
theorem dX2_meetingCell_18 : decode cX2_meetingCell 18 = .ok (.invokevirtual 55, 3) := by decide +kernel
theorem dX2_meetingCell_21 : decode cX2_meetingCell 21 = .ok (.aload_n 0, 1) := by decide +kernel
theorem dX2_meetingCell_22 : decode cX2_meetingCell 22 = .ok (.aload_n 1, 1) := by decide +kernel
theorem dX2_meetingCell_23 : decode cX2_meetingCell 23 = .ok (.iload_n 2, 1) := by decide +kernel
theorem dX2_meetingCell_24 : decode cX2_meetingCell 24 = .ok (.invokevirtual 55, 3) := by decide +kernel
theorem dX2_meetingCell_27 : decode cX2_meetingCell 27 = .ok (.if_icmp .ge 5, 3) := by decide +kernel
theorem dX2_meetingCell_30 : decode cX2_meetingCell 30 = .ok (.iload_n 3, 1) := by decide +kernel
theorem dX2_meetingCell_31 : decode cX2_meetingCell 31 = .ok (.istore_n 2, 1) := by decide +kernel
theorem dX2_meetingCell_32 : decode cX2_meetingCell 32 = .ok (.iinc 3 1, 3) := by decide +kernel
theorem dX2_meetingCell_35 : decode cX2_meetingCell 35 = .ok (.goto (-31), 3) := by decide +kernel
theorem dX2_meetingCell_38 : decode cX2_meetingCell 38 = .ok (.iload_n 2, 1) := by decide +kernel
theorem dX2_meetingCell_39 : decode cX2_meetingCell 39 = .ok (.ireturn, 1) := by decide +kernel
def wz_X2_meetingCell : List Cond := .code yX2_meetingCell cX2_meetingCell 4 (some .int) :: ([Cond.fieldLink RX2 29 "HedgeMaze$Garden" "plan" "LHedgeMaze$Plan;", Cond.fieldLink RX2 52 "HedgeMaze$Plan" "cellCount" "I", Cond.methodLink RX2 55 yX2_mostStepsTo, Cond.instanceMethod yX2_mostStepsTo, Cond.selects RX2 yX2_mostStepsTo yX2_mostStepsTo, Cond.initialized RX2, Cond.code yX2_mostStepsTo cX2_mostStepsTo 5 (some .int), Cond.fieldLink RX2 23 "HedgeMaze$Garden" "guestCount" "I", Cond.fieldLink RX2 20 "HedgeMaze$Host" "stepsFrom" "[[I", Cond.methodLink RX2 46 Lib.Math.max.name, Cond.static Lib.Math.max.name, Cond.initialized "java/lang/Math", Cond.code Lib.Math.max.name Lib.Math.max.code 2 (some .int)] ++ wsX00 ++ wsX30 ++ wsX20)
theorem wd_X2_meetingCell_0 : Cond.fieldLink RX2 29 "HedgeMaze$Garden" "plan" "LHedgeMaze$Plan;" ∈ wz_X2_meetingCell := List.mem_of_getElem? (i := 1) rfl
theorem wd_X2_meetingCell_1 : Cond.fieldLink RX2 52 "HedgeMaze$Plan" "cellCount" "I" ∈ wz_X2_meetingCell := List.mem_of_getElem? (i := 2) rfl
theorem in_X2_meetingCell_X0 : ∀ w ∈ wsX00, w ∈ wz_X2_meetingCell := fun _ h => List.mem_cons_of_mem _ (List.mem_append_left _ (List.mem_append_left _ (List.mem_append_right _ h)))
theorem in_X2_meetingCell_X3 : ∀ w ∈ wsX30, w ∈ wz_X2_meetingCell := fun _ h => List.mem_cons_of_mem _ (List.mem_append_left _ (List.mem_append_right _ h))
set_option maxRecDepth 20000 in
theorem g_X2_meetingCell_X2_mostStepsTo : GoodIn wz_X2_meetingCell (wsV RX2 55 RX2 yX2_mostStepsTo wz_X2_mostStepsTo) := goodIn_r _ [3, 4, 5, 6, 7, 8, 9, 10, 11, 12, 13, 14, 15, 16, 17, 18, 19, 20, 21, 22, 23, 24, 25, 35, 36, 37] rfl (by decide +kernel)
set_option maxHeartbeats 4000000 in
set_option maxRecDepth 100000 in
theorem c_X2_meetingCell (l : Launch) (dC : Nat → ClassId) (dI : Nat → Nat → Nat) (sz : Nat) (ho : Nat) (hob : Nat) (hoo : Nat) (hos : Nat) (hoks : ClassId) (wS : Nat → Option Nat) (hr0 : Nat) (hkr0 : ClassId) (wR0 : Nat → Int32) (hr1 : Nat) (hkr1 : ClassId) (wR1 : Nat → Int32) (hr2 : Nat) (hkr2 : ClassId) (wR2 : Nat → Int32) (hr3 : Nat) (hkr3 : ClassId) (wR3 : Nat → Int32) (hr4 : Nat) (hkr4 : ClassId) (wR4 : Nat → Int32) (gd : Nat) (gdl : Int32) (gdh : Int64) (gdw : Int64) (gdi : Int32) (gde : Int32) (gdc : Int32) (gdt : Nat) (gdg : Int32) (gdu : Nat) (gdn : Int32) (gdx : Nat) (pl : Nat) (plw : Int32) (pld : Int32) (plc : Int32) (pls : Int32) (plm : Int64) (plf : Nat) (plo : Nat) (plb : Nat) (pla : Nat) (hq0 : wS 0 = some hr0) (hq1 : wS 1 = some hr1) (hq2 : wS 2 = some hr2) (hq3 : wS 3 = some hr3) (hq4 : wS 4 = some hr4) (h_gdg : 0 ≤ gdg.toInt ∧ gdg.toInt ≤ 5) (h_plc : 0 ≤ plc.toInt ∧ plc.toInt ≤ 25) : Met l yX2_meetingCell wz_X2_meetingCell ({ frames := 2, cells := 0, slots := 0, locals := 64 }) (va_Pc [.ref ho, .ref gd] (fun U => U.heap.size = sz ∧ va_P (dC, dI) vwCl [(ho, .inr (2, [.ref hob, .ref hoo, .ref hos])), (hos, .inl (hoks, 5, .inr (.inr (.inr (.inr wS))))), (hr0, .inl (hkr0, 25, .inl wR0)), (hr1, .inl (hkr1, 25, .inl wR1)), (hr2, .inl (hkr2, 25, .inl wR2)), (hr3, .inl (hkr3, 25, .inl wR3)), (hr4, .inl (hkr4, 25, .inl wR4)), (gd, .inr (0, [.ref pl, .int gdl, .long gdh, .long gdw, .int gdi, .int gde, .int gdc, .ref gdt, .int gdg, .ref gdu, .int gdn, .ref gdx])), (pl, .inr (3, [.int plw, .int pld, .int plc, .int pls, .long plm, .ref plf, .ref plo, .ref plb, .ref pla]))] U.heap ∧ va_K (dC, dI) vwCl [(hoks, .array .int), (hkr0, .int), (hkr1, .int), (hkr2, .int), (hkr3, .int), (hkr4, .int)] U ∧ va_D (fun _ => True) [(ho, .inr (2, [.ref hob, .ref hoo, .ref hos])), (hos, .inl (hoks, 5, .inr (.inr (.inr (.inr wS))))), (hr0, .inl (hkr0, 25, .inl wR0)), (hr1, .inl (hkr1, 25, .inl wR1)), (hr2, .inl (hkr2, 25, .inl wR2)), (hr3, .inl (hkr3, 25, .inl wR3)), (hr4, .inl (hkr4, 25, .inl wR4)), (gd, .inr (0, [.ref pl, .int gdl, .long gdh, .long gdw, .int gdi, .int gde, .int gdc, .ref gdt, .int gdg, .ref gdu, .int gdn, .ref gdx])), (pl, .inr (3, [.int plw, .int pld, .int plc, .int pls, .long plm, .ref plf, .ref plo, .ref plb, .ref pla]))])) (va_Qi (fun (r : Int32) (u : Unit) => (0 ≤ r.toInt ∧ r.toInt ≤ 24)) (fun (u : Unit) (t : State) => va_P (dC, dI) vwCl [(ho, .inr (2, [.ref hob, .ref hoo, .ref hos])), (hos, .inl (hoks, 5, .inr (.inr (.inr (.inr wS))))), (hr0, .inl (hkr0, 25, .inl wR0)), (hr1, .inl (hkr1, 25, .inl wR1)), (hr2, .inl (hkr2, 25, .inl wR2)), (hr3, .inl (hkr3, 25, .inl wR3)), (hr4, .inl (hkr4, 25, .inl wR4)), (gd, .inr (0, [.ref pl, .int gdl, .long gdh, .long gdw, .int gdi, .int gde, .int gdc, .ref gdt, .int gdg, .ref gdu, .int gdn, .ref gdx])), (pl, .inr (3, [.int plw, .int pld, .int plc, .int pls, .long plm, .ref plf, .ref plo, .ref plb, .ref pla]))] t.heap ∧ va_K (dC, dI) vwCl [] t ∧ va_D (va_A [(ho, .inr (2, [.ref hob, .ref hoo, .ref hos])), (hos, .inl (hoks, 5, .inr (.inr (.inr (.inr wS))))), (hr0, .inl (hkr0, 25, .inl wR0)), (hr1, .inl (hkr1, 25, .inl wR1)), (hr2, .inl (hkr2, 25, .inl wR2)), (hr3, .inl (hkr3, 25, .inl wR3)), (hr4, .inl (hkr4, 25, .inl wR4)), (gd, .inr (0, [.ref pl, .int gdl, .long gdh, .long gdw, .int gdi, .int gde, .int gdc, .ref gdt, .int gdg, .ref gdu, .int gdn, .ref gdx])), (pl, .inr (3, [.int plw, .int pld, .int plc, .int pls, .long plm, .ref plf, .ref plo, .ref plb, .ref pla]))] sz) [(ho, .inr (2, [.ref hob, .ref hoo, .ref hos])), (hos, .inl (hoks, 5, .inr (.inr (.inr (.inr wS))))), (hr0, .inl (hkr0, 25, .inl wR0)), (hr1, .inl (hkr1, 25, .inl wR1)), (hr2, .inl (hkr2, 25, .inl wR2)), (hr3, .inl (hkr3, 25, .inl wR3)), (hr4, .inl (hkr4, 25, .inl wR4)), (gd, .inr (0, [.ref pl, .int gdl, .long gdh, .long gdw, .int gdi, .int gde, .int gdc, .ref gdt, .int gdg, .ref gdu, .int gdn, .ref gdx])), (pl, .inr (3, [.int plw, .int pld, .int plc, .int pls, .long plm, .ref plf, .ref plo, .ref plb, .ref pla]))]) (va_A [(ho, .inr (2, [.ref hob, .ref hoo, .ref hos])), (hos, .inl (hoks, 5, .inr (.inr (.inr (.inr wS))))), (hr0, .inl (hkr0, 25, .inl wR0)), (hr1, .inl (hkr1, 25, .inl wR1)), (hr2, .inl (hkr2, 25, .inl wR2)), (hr3, .inl (hkr3, 25, .inl wR3)), (hr4, .inl (hkr4, 25, .inl wR4)), (gd, .inr (0, [.ref pl, .int gdl, .long gdh, .long gdw, .int gdi, .int gde, .int gdc, .ref gdt, .int gdg, .ref gdu, .int gdn, .ref gdx])), (pl, .inr (3, [.int plw, .int pld, .int plc, .int pls, .long plm, .ref plf, .ref plo, .ref plb, .ref pla]))] sz)) 0 0 (va_A [(ho, .inr (2, [.ref hob, .ref hoo, .ref hos])), (hos, .inl (hoks, 5, .inr (.inr (.inr (.inr wS))))), (hr0, .inl (hkr0, 25, .inl wR0)), (hr1, .inl (hkr1, 25, .inl wR1)), (hr2, .inl (hkr2, 25, .inl wR2)), (hr3, .inl (hkr3, 25, .inl wR3)), (hr4, .inl (hkr4, 25, .inl wR4)), (gd, .inr (0, [.ref pl, .int gdl, .long gdh, .long gdw, .int gdi, .int gde, .int gdc, .ref gdt, .int gdg, .ref gdu, .int gdn, .ref gdx])), (pl, .inr (3, [.int plw, .int pld, .int plc, .int pls, .long plm, .ref plf, .ref plo, .ref plb, .ref pla]))] sz) := by
  refine Met.ofW (cc := cX2_meetingCell) (maxL := 4) (ret := (some .int)) (by decide) rfl ?_
  intro p e s m args below meth c s₁ B hml hv
  obtain ⟨rfl, hsz, hP, hK, hD0⟩ := hv
  have hx := B.exec
  have hb := B.bytes
  have hr := B.returns
  have hts := atoms_spec (ws := wz_X2_meetingCell) B.pre
  have hown : s.vm.findClass RX2 = some m.cls := findClass_of_methodNamed B.named
  have hlocks := B.notSynchronized
  subst hsz
  have hD := hD0.self (sz := s.heap.size)
  generalize hAe : va_A [(ho, .inr (2, [.ref hob, .ref hoo, .ref hos])), (hos, .inl (hoks, 5, .inr (.inr (.inr (.inr wS))))), (hr0, .inl (hkr0, 25, .inl wR0)), (hr1, .inl (hkr1, 25, .inl wR1)), (hr2, .inl (hkr2, 25, .inl wR2)), (hr3, .inl (hkr3, 25, .inl wR3)), (hr4, .inl (hkr4, 25, .inl wR4)), (gd, .inr (0, [.ref pl, .int gdl, .long gdh, .long gdw, .int gdi, .int gde, .int gdc, .ref gdt, .int gdg, .ref gdu, .int gdn, .ref gdx])), (pl, .inr (3, [.int plw, .int pld, .int plc, .int pls, .long plm, .ref plf, .ref plo, .ref plb, .ref pla]))] s.heap.size = A at hD ⊢
  have hA : ∀ q : Nat, s.heap.size ≤ q → A q := fun q h => by rw [← hAe]; exact Or.inr h
  have hS : va_S A s.heap s.heap [] := va_S.rf
  have hP : va_P (dC, dI) vwCl [(ho, .inr (2, [.ref hob, .ref hoo, .ref hos])), (hos, .inl (hoks, 5, .inr (.inr (.inr (.inr wS))))), (hr0, .inl (hkr0, 25, .inl wR0)), (hr1, .inl (hkr1, 25, .inl wR1)), (hr2, .inl (hkr2, 25, .inl wR2)), (hr3, .inl (hkr3, 25, .inl wR3)), (hr4, .inl (hkr4, 25, .inl wR4)), (gd, .inr (0, [.ref pl, .int gdl, .long gdh, .long gdw, .int gdi, .int gde, .int gdc, .ref gdt, .int gdg, .ref gdu, .int gdn, .ref gdx])), (pl, .inr (3, [.int plw, .int pld, .int plc, .int pls, .long plm, .ref plf, .ref plo, .ref plb, .ref pla]))] s.heap := hP
  have hl := lv_entry ([.ref ho, .ref gd]) (n := 4) (Nat.le_of_ble_eq_true rfl)
  rw [lg_entry_eq]
  generalize (lg_sl ([.ref ho, .ref gd]) ++ List.replicate (4 - (lg_sl ([.ref ho, .ref gd])).length) Slot.unset).toArray = ls at hl ⊢
  have hl : lv_has ls 4 [(0, .ref ho), (1, .ref gd)] := hl
  refine lv_iconst (v := 0) hx hb dX2_meetingCell_0 (by decide) ?_
  refine lv_istore_n (lv' := [(2, .int 0), (0, .ref ho), (1, .ref gd)]) hx hb dX2_meetingCell_1 rfl hl (by decide) rfl (fun ls hl => ?_)
  refine lv_iconst (v := 1) hx hb dX2_meetingCell_2 (by decide) ?_
  refine lv_istore_n (lv' := [(3, .int 1), (2, .int 0), (0, .ref ho), (1, .ref gd)]) hx hb dX2_meetingCell_3 rfl hl (by decide) rfl (fun ls hl => ?_)
  refine lp_W (I := fun (a : Int32 × Int32) H locs ls => (0 ≤ a.1.toInt ∧ a.1.toInt ≤ 25) ∧ (0 ≤ a.2.toInt ∧ a.2.toInt ≤ 24) ∧ va_P (dC, dI) vwCl [(ho, .inr (2, [.ref hob, .ref hoo, .ref hos])), (hos, .inl (hoks, 5, .inr (.inr (.inr (.inr wS))))), (hr0, .inl (hkr0, 25, .inl wR0)), (hr1, .inl (hkr1, 25, .inl wR1)), (hr2, .inl (hkr2, 25, .inl wR2)), (hr3, .inl (hkr3, 25, .inl wR3)), (hr4, .inl (hkr4, 25, .inl wR4)), (gd, .inr (0, [.ref pl, .int gdl, .long gdh, .long gdw, .int gdi, .int gde, .int gdc, .ref gdt, .int gdg, .ref gdu, .int gdn, .ref gdx])), (pl, .inr (3, [.int plw, .int pld, .int plc, .int pls, .long plm, .ref plf, .ref plo, .ref plb, .ref pla]))] H ∧ va_D A [(ho, .inr (2, [.ref hob, .ref hoo, .ref hos])), (hos, .inl (hoks, 5, .inr (.inr (.inr (.inr wS))))), (hr0, .inl (hkr0, 25, .inl wR0)), (hr1, .inl (hkr1, 25, .inl wR1)), (hr2, .inl (hkr2, 25, .inl wR2)), (hr3, .inl (hkr3, 25, .inl wR3)), (hr4, .inl (hkr4, 25, .inl wR4)), (gd, .inr (0, [.ref pl, .int gdl, .long gdh, .long gdw, .int gdi, .int gde, .int gdc, .ref gdt, .int gdg, .ref gdu, .int gdn, .ref gdx])), (pl, .inr (3, [.int plw, .int pld, .int plc, .int pls, .long plm, .ref plf, .ref plo, .ref plb, .ref pla]))] ∧ va_S A s.heap H locs ∧ lv_has ls 4 [(3, .int a.1), (2, .int a.2), (0, .ref ho), (1, .ref gd)]) (μ := fun a => (25 - a.1.toInt).toNat) ?_ ((1 : Int32), (0 : Int32)) ⟨(by have k0 : (0 : Int32).toInt = 0 := (by decide); have k1 : (1 : Int32).toInt = 1 := (by decide); (try dsimp only); omega), (by have k0 : (0 : Int32).toInt = 0 := (by decide); have k1 : (1 : Int32).toInt = 1 := (by decide); (try dsimp only); omega), hP.sub [0, 1, 2, 3, 4, 5, 6, 7, 8] rfl, hD.sub [0, 1, 2, 3, 4, 5, 6, 7, 8] (by decide) rfl, hS, lv_sub hl [0, 1, 2, 3] rfl⟩
  intro a H locs ls hI ih4
  obtain ⟨c1, fo⟩ := a
  obtain ⟨h_c1, h_fo, hP, hD, hS, hl⟩ := hI
  have h_c1 : 0 ≤ c1.toInt ∧ c1.toInt ≤ 25 := h_c1
  have h_fo : 0 ≤ fo.toInt ∧ fo.toInt ≤ 24 := h_fo
  have hP : va_P (dC, dI) vwCl [(ho, .inr (2, [.ref hob, .ref hoo, .ref hos])), (hos, .inl (hoks, 5, .inr (.inr (.inr (.inr wS))))), (hr0, .inl (hkr0, 25, .inl wR0)), (hr1, .inl (hkr1, 25, .inl wR1)), (hr2, .inl (hkr2, 25, .inl wR2)), (hr3, .inl (hkr3, 25, .inl wR3)), (hr4, .inl (hkr4, 25, .inl wR4)), (gd, .inr (0, [.ref pl, .int gdl, .long gdh, .long gdw, .int gdi, .int gde, .int gdc, .ref gdt, .int gdg, .ref gdu, .int gdn, .ref gdx])), (pl, .inr (3, [.int plw, .int pld, .int plc, .int pls, .long plm, .ref plf, .ref plo, .ref plb, .ref pla]))] H := hP
  have hD : va_D A [(ho, .inr (2, [.ref hob, .ref hoo, .ref hos])), (hos, .inl (hoks, 5, .inr (.inr (.inr (.inr wS))))), (hr0, .inl (hkr0, 25, .inl wR0)), (hr1, .inl (hkr1, 25, .inl wR1)), (hr2, .inl (hkr2, 25, .inl wR2)), (hr3, .inl (hkr3, 25, .inl wR3)), (hr4, .inl (hkr4, 25, .inl wR4)), (gd, .inr (0, [.ref pl, .int gdl, .long gdh, .long gdw, .int gdi, .int gde, .int gdc, .ref gdt, .int gdg, .ref gdu, .int gdn, .ref gdx])), (pl, .inr (3, [.int plw, .int pld, .int plc, .int pls, .long plm, .ref plf, .ref plo, .ref plb, .ref pla]))] := hD
  have hl : lv_has ls 4 [(3, .int c1), (2, .int fo), (0, .ref ho), (1, .ref gd)] := hl
  refine lv_iload_n hx hb dX2_meetingCell_4 rfl (lv_at hl 0 rfl) ?_
  refine lv_aload_n hx hb dX2_meetingCell_5 rfl (lv_at hl 3 rfl) ?_
  refine va_get (D := (dC, dI)) (ci := 0) (v := .ref pl) (C := RX0) (T := TX0) (N := 12) hx hb hts in_X2_meetingCell_X0 hown hK hP 7 rfl rfl 0 (by decide) (hts _ wd_X2_meetingCell_0) (fun _ h9 => h9) rfl dX2_meetingCell_6 ?_
  refine va_get (D := (dC, dI)) (ci := 3) (v := .int plc) (C := RX3) (T := TX3) (N := 9) hx hb hts in_X2_meetingCell_X3 hown hK hP 8 rfl rfl 2 (by decide) (hts _ wd_X2_meetingCell_1) (fun _ h9 => h9) rfl dX2_meetingCell_9 ?_
  refine lv_icmp_ge (tgt := 38) hx hb dX2_meetingCell_12 (by decide) (fun c_1 => ?_) (fun c_1 => ?_)
  · have c_1 : plc.toInt ≤ c1.toInt := i_le (a := plc) (b := c1) rfl rfl c_1
    refine lv_iload_n hx hb dX2_meetingCell_38 rfl (lv_at hl 1 rfl) ?_
    have hP9 := hP.sub (ws' := [(ho, .inr (2, [.ref hob, .ref hoo, .ref hos])), (hos, .inl (hoks, 5, .inr (.inr (.inr (.inr wS))))), (hr0, .inl (hkr0, 25, .inl wR0)), (hr1, .inl (hkr1, 25, .inl wR1)), (hr2, .inl (hkr2, 25, .inl wR2)), (hr3, .inl (hkr3, 25, .inl wR3)), (hr4, .inl (hkr4, 25, .inl wR4)), (gd, .inr (0, [.ref pl, .int gdl, .long gdh, .long gdw, .int gdi, .int gde, .int gdc, .ref gdt, .int gdg, .ref gdu, .int gdn, .ref gdx])), (pl, .inr (3, [.int plw, .int pld, .int plc, .int pls, .long plm, .ref plf, .ref plo, .ref plb, .ref pla]))]) [0, 1, 2, 3, 4, 5, 6, 7, 8] rfl
    have hD9 := hD.sub (ws' := [(ho, .inr (2, [.ref hob, .ref hoo, .ref hos])), (hos, .inl (hoks, 5, .inr (.inr (.inr (.inr wS))))), (hr0, .inl (hkr0, 25, .inl wR0)), (hr1, .inl (hkr1, 25, .inl wR1)), (hr2, .inl (hkr2, 25, .inl wR2)), (hr3, .inl (hkr3, 25, .inl wR3)), (hr4, .inl (hkr4, 25, .inl wR4)), (gd, .inr (0, [.ref pl, .int gdl, .long gdh, .long gdw, .int gdi, .int gde, .int gdc, .ref gdt, .int gdg, .ref gdu, .int gdn, .ref gdx])), (pl, .inr (3, [.int plw, .int pld, .int plc, .int pls, .long plm, .ref plf, .ref plo, .ref plb, .ref pla]))]) [0, 1, 2, 3, 4, 5, 6, 7, 8] (by decide) rfl
    have hK9 := hK.sub (tys' := []) [] rfl
    refine W.widen (k := 0) (n := 0) (by omega) (by omega) ?_
    exact W.iret (v := fo) hx hb hr (fun t ht hW => ⟨⟨fo, (), rfl, (by first | rfl | trivial | (dsimp only; omega) | omega | (left; rfl) | (right; rfl) | (dsimp only; first | (left; rfl) | (right; rfl))), by rw [ht]; exact hP9, va_K.moved hW.alike hK9, hD9⟩, hS.F ht⟩) hS.2.2 dX2_meetingCell_39
  · have c_1 : c1.toInt < plc.toInt := i_nle (a := plc) (b := c1) rfl rfl c_1
    refine lv_aload_n hx hb dX2_meetingCell_15 rfl (lv_at hl 2 rfl) ?_
    refine lv_aload_n hx hb dX2_meetingCell_16 rfl (lv_at hl 3 rfl) ?_
    refine lv_iload_n hx hb dX2_meetingCell_17 rfl (lv_at hl 0 rfl) ?_
    have hPc := hP.sub (ws' := [(ho, .inr (2, [.ref hob, .ref hoo, .ref hos])), (hos, .inl (hoks, 5, .inr (.inr (.inr (.inr wS))))), (hr0, .inl (hkr0, 25, .inl wR0)), (hr1, .inl (hkr1, 25, .inl wR1)), (hr2, .inl (hkr2, 25, .inl wR2)), (hr3, .inl (hkr3, 25, .inl wR3)), (hr4, .inl (hkr4, 25, .inl wR4)), (gd, .inr (0, [.ref pl, .int gdl, .long gdh, .long gdw, .int gdi, .int gde, .int gdc, .ref gdt, .int gdg, .ref gdu, .int gdn, .ref gdx]))]) [0, 1, 2, 3, 4, 5, 6, 7] rfl
    have hDc := hD.sub (ws' := [(ho, .inr (2, [.ref hob, .ref hoo, .ref hos])), (hos, .inl (hoks, 5, .inr (.inr (.inr (.inr wS))))), (hr0, .inl (hkr0, 25, .inl wR0)), (hr1, .inl (hkr1, 25, .inl wR1)), (hr2, .inl (hkr2, 25, .inl wR2)), (hr3, .inl (hkr3, 25, .inl wR3)), (hr4, .inl (hkr4, 25, .inl wR4)), (gd, .inr (0, [.ref pl, .int gdl, .long gdh, .long gdw, .int gdi, .int gde, .int gdc, .ref gdt, .int gdg, .ref gdu, .int gdn, .ref gdx]))]) [0, 1, 2, 3, 4, 5, 6, 7] (by decide) rfl
    have hKc := hK.sub (tys' := [(hoks, .array .int), (hkr0, .int), (hkr1, .int), (hkr2, .int), (hkr3, .int), (hkr4, .int)]) [0, 1, 2, 3, 4, 5] rfl
    have hFc := va_free (wc := [(ho, .inr (2, [.ref hob, .ref hoo, .ref hos])), (hos, .inl (hoks, 5, .inr (.inr (.inr (.inr wS))))), (hr0, .inl (hkr0, 25, .inl wR0)), (hr1, .inl (hkr1, 25, .inl wR1)), (hr2, .inl (hkr2, 25, .inl wR2)), (hr3, .inl (hkr3, 25, .inl wR3)), (hr4, .inl (hkr4, 25, .inl wR4)), (gd, .inr (0, [.ref pl, .int gdl, .long gdh, .long gdw, .int gdi, .int gde, .int gdc, .ref gdt, .int gdg, .ref gdu, .int gdn, .ref gdx]))]) hD hS hA [0, 1, 2, 3, 4, 5, 6, 7] rfl
    refine va_calli (va_runV (As := [.ref gd, .int c1]) (rest := []) ⟨hx, hb, hml, hown, hts⟩ (c_X2_mostStepsTo l dC dI H.size ho hob hoo hos hoks wS hr0 hkr0 wR0 hr1 hkr1 wR1 hr2 hkr2 wR2 hr3 hkr3 wR3 hr4 hkr4 wR4 gd gdl gdh gdw gdi gde gdc gdt gdg gdu gdn gdx pl c1 hq0 hq1 hq2 hq3 hq4 (by omega) (by omega)) (cwV 2 hts g_X2_meetingCell_X2_mostStepsTo rfl rfl rfl (by decide +kernel) ⟨Nat.le_of_ble_eq_true rfl, Nat.le_of_ble_eq_true rfl⟩) ⟨fun a U g mk q => by obtain ⟨q0, q1, qP, qK, qD⟩ := q; exact ⟨q0, q1, qP, va_K.moved (u := U) (U := U.calling g mk a) (Vm.Alike.refl U.vm) qK, qD⟩, va_recv hKc hPc (ci := 2) (q0 := 0) rfl rfl, fun U hU hW => ⟨rfl, by rw [hU], by rw [hU]; exact hPc, va_K.moved hW.alike hKc, hDc.weaken (fun _ _ _ _ => trivial)⟩⟩ rfl rfl hl.1 rfl (lv_room (Nat.le_of_ble_eq_true rfl)) dX2_meetingCell_18 ⟨Nat.le_of_ble_eq_true rfl, Nat.le_of_ble_eq_true rfl⟩) hS (fun q _ h => hFc q h) hFc (fun r_2 u t H1 locs ht hvm hw_3 hB hz1 hk1 hS => ?_)
    obtain ⟨hP1, hK1, hD1⟩ := hB
    have hP1 : va_P (dC, dI) vwCl [(ho, .inr (2, [.ref hob, .ref hoo, .ref hos])), (hos, .inl (hoks, 5, .inr (.inr (.inr (.inr wS))))), (hr0, .inl (hkr0, 25, .inl wR0)), (hr1, .inl (hkr1, 25, .inl wR1)), (hr2, .inl (hkr2, 25, .inl wR2)), (hr3, .inl (hkr3, 25, .inl wR3)), (hr4, .inl (hkr4, 25, .inl wR4)), (gd, .inr (0, [.ref pl, .int gdl, .long gdh, .long gdw, .int gdi, .int gde, .int gdc, .ref gdt, .int gdg, .ref gdu, .int gdn, .ref gdx]))] t.heap := hP1
    rw [ht] at hP1
    try dsimp only at hw_3
    obtain ⟨hP, hD⟩ := va_join (wr := [(pl, .inr (3, [.int plw, .int pld, .int plc, .int pls, .long plm, .ref plf, .ref plo, .ref plb, .ref pla]))]) (w1 := [(ho, .inr (2, [.ref hob, .ref hoo, .ref hos])), (hos, .inl (hoks, 5, .inr (.inr (.inr (.inr wS))))), (hr0, .inl (hkr0, 25, .inl wR0)), (hr1, .inl (hkr1, 25, .inl wR1)), (hr2, .inl (hkr2, 25, .inl wR2)), (hr3, .inl (hkr3, 25, .inl wR3)), (hr4, .inl (hkr4, 25, .inl wR4)), (gd, .inr (0, [.ref pl, .int gdl, .long gdh, .long gdw, .int gdi, .int gde, .int gdc, .ref gdt, .int gdg, .ref gdu, .int gdn, .ref gdx]))]) hP hD [0, 1, 2, 3, 4, 5, 6, 7] [8] rfl rfl (by decide) (by decide) hk1 hFc hP1 hD1
    generalize H1 = H at hP hS ⊢
    have hP : va_P (dC, dI) vwCl [(pl, .inr (3, [.int plw, .int pld, .int plc, .int pls, .long plm, .ref plf, .ref plo, .ref plb, .ref pla])), (ho, .inr (2, [.ref hob, .ref hoo, .ref hos])), (hos, .inl (hoks, 5, .inr (.inr (.inr (.inr wS))))), (hr0, .inl (hkr0, 25, .inl wR0)), (hr1, .inl (hkr1, 25, .inl wR1)), (hr2, .inl (hkr2, 25, .inl wR2)), (hr3, .inl (hkr3, 25, .inl wR3)), (hr4, .inl (hkr4, 25, .inl wR4)), (gd, .inr (0, [.ref pl, .int gdl, .long gdh, .long gdw, .int gdi, .int gde, .int gdc, .ref gdt, .int gdg, .ref gdu, .int gdn, .ref gdx]))] H := hP
    have hD : va_D A [(pl, .inr (3, [.int plw, .int pld, .int plc, .int pls, .long plm, .ref plf, .ref plo, .ref plb, .ref pla])), (ho, .inr (2, [.ref hob, .ref hoo, .ref hos])), (hos, .inl (hoks, 5, .inr (.inr (.inr (.inr wS))))), (hr0, .inl (hkr0, 25, .inl wR0)), (hr1, .inl (hkr1, 25, .inl wR1)), (hr2, .inl (hkr2, 25, .inl wR2)), (hr3, .inl (hkr3, 25, .inl wR3)), (hr4, .inl (hkr4, 25, .inl wR4)), (gd, .inr (0, [.ref pl, .int gdl, .long gdh, .long gdw, .int gdi, .int gde, .int gdc, .ref gdt, .int gdg, .ref gdu, .int gdn, .ref gdx]))] := hD
    refine lv_aload_n hx hb dX2_meetingCell_21 rfl (lv_at hl 2 rfl) ?_
    refine lv_aload_n hx hb dX2_meetingCell_22 rfl (lv_at hl 3 rfl) ?_
    refine lv_iload_n hx hb dX2_meetingCell_23 rfl (lv_at hl 1 rfl) ?_
    have hPc := hP.sub (ws' := [(ho, .inr (2, [.ref hob, .ref hoo, .ref hos])), (hos, .inl (hoks, 5, .inr (.inr (.inr (.inr wS))))), (hr0, .inl (hkr0, 25, .inl wR0)), (hr1, .inl (hkr1, 25, .inl wR1)), (hr2, .inl (hkr2, 25, .inl wR2)), (hr3, .inl (hkr3, 25, .inl wR3)), (hr4, .inl (hkr4, 25, .inl wR4)), (gd, .inr (0, [.ref pl, .int gdl, .long gdh, .long gdw, .int gdi, .int gde, .int gdc, .ref gdt, .int gdg, .ref gdu, .int gdn, .ref gdx]))]) [1, 2, 3, 4, 5, 6, 7, 8] rfl
    have hDc := hD.sub (ws' := [(ho, .inr (2, [.ref hob, .ref hoo, .ref hos])), (hos, .inl (hoks, 5, .inr (.inr (.inr (.inr wS))))), (hr0, .inl (hkr0, 25, .inl wR0)), (hr1, .inl (hkr1, 25, .inl wR1)), (hr2, .inl (hkr2, 25, .inl wR2)), (hr3, .inl (hkr3, 25, .inl wR3)), (hr4, .inl (hkr4, 25, .inl wR4)), (gd, .inr (0, [.ref pl, .int gdl, .long gdh, .long gdw, .int gdi, .int gde, .int gdc, .ref gdt, .int gdg, .ref gdu, .int gdn, .ref gdx]))]) [1, 2, 3, 4, 5, 6, 7, 8] (by decide) rfl
    have hKc := hK.sub (tys' := [(hoks, .array .int), (hkr0, .int), (hkr1, .int), (hkr2, .int), (hkr3, .int), (hkr4, .int)]) [0, 1, 2, 3, 4, 5] rfl
    have hFc := va_free (wc := [(ho, .inr (2, [.ref hob, .ref hoo, .ref hos])), (hos, .inl (hoks, 5, .inr (.inr (.inr (.inr wS))))), (hr0, .inl (hkr0, 25, .inl wR0)), (hr1, .inl (hkr1, 25, .inl wR1)), (hr2, .inl (hkr2, 25, .inl wR2)), (hr3, .inl (hkr3, 25, .inl wR3)), (hr4, .inl (hkr4, 25, .inl wR4)), (gd, .inr (0, [.ref pl, .int gdl, .long gdh, .long gdw, .int gdi, .int gde, .int gdc, .ref gdt, .int gdg, .ref gdu, .int gdn, .ref gdx]))]) hD hS hA [1, 2, 3, 4, 5, 6, 7, 8] rfl
    refine va_calli (va_runV (As := [.ref gd, .int fo]) (rest := [.int r_2]) ⟨hx, hb, hml, hown, hts⟩ (c_X2_mostStepsTo l dC dI H.size ho hob hoo hos hoks wS hr0 hkr0 wR0 hr1 hkr1 wR1 hr2 hkr2 wR2 hr3 hkr3 wR3 hr4 hkr4 wR4 gd gdl gdh gdw gdi gde gdc gdt gdg gdu gdn gdx pl fo hq0 hq1 hq2 hq3 hq4 (by omega) (by omega)) (cwV 2 hts g_X2_meetingCell_X2_mostStepsTo rfl rfl rfl (by decide +kernel) ⟨Nat.le_of_ble_eq_true rfl, Nat.le_of_ble_eq_true rfl⟩) ⟨fun a U g mk q => by obtain ⟨q0, q1, qP, qK, qD⟩ := q; exact ⟨q0, q1, qP, va_K.moved (u := U) (U := U.calling g mk a) (Vm.Alike.refl U.vm) qK, qD⟩, va_recv hKc hPc (ci := 2) (q0 := 0) rfl rfl, fun U hU hW => ⟨rfl, by rw [hU], by rw [hU]; exact hPc, va_K.moved hW.alike hKc, hDc.weaken (fun _ _ _ _ => trivial)⟩⟩ rfl rfl hl.1 rfl (lv_room (Nat.le_of_ble_eq_true rfl)) dX2_meetingCell_24 ⟨Nat.le_of_ble_eq_true rfl, Nat.le_of_ble_eq_true rfl⟩) hS (fun q _ h => hFc q h) hFc (fun r_4 u t H1 locs ht hvm hw_5 hB hz1 hk1 hS => ?_)
    obtain ⟨hP1, hK1, hD1⟩ := hB
    have hP1 : va_P (dC, dI) vwCl [(ho, .inr (2, [.ref hob, .ref hoo, .ref hos])), (hos, .inl (hoks, 5, .inr (.inr (.inr (.inr wS))))), (hr0, .inl (hkr0, 25, .inl wR0)), (hr1, .inl (hkr1, 25, .inl wR1)), (hr2, .inl (hkr2, 25, .inl wR2)), (hr3, .inl (hkr3, 25, .inl wR3)), (hr4, .inl (hkr4, 25, .inl wR4)), (gd, .inr (0, [.ref pl, .int gdl, .long gdh, .long gdw, .int gdi, .int gde, .int gdc, .ref gdt, .int gdg, .ref gdu, .int gdn, .ref gdx]))] t.heap := hP1
    rw [ht] at hP1
    try dsimp only at hw_5
    obtain ⟨hP, hD⟩ := va_join (wr := [(pl, .inr (3, [.int plw, .int pld, .int plc, .int pls, .long plm, .ref plf, .ref plo, .ref plb, .ref pla]))]) (w1 := [(ho, .inr (2, [.ref hob, .ref hoo, .ref hos])), (hos, .inl (hoks, 5, .inr (.inr (.inr (.inr wS))))), (hr0, .inl (hkr0, 25, .inl wR0)), (hr1, .inl (hkr1, 25, .inl wR1)), (hr2, .inl (hkr2, 25, .inl wR2)), (hr3, .inl (hkr3, 25, .inl wR3)), (hr4, .inl (hkr4, 25, .inl wR4)), (gd, .inr (0, [.ref pl, .int gdl, .long gdh, .long gdw, .int gdi, .int gde, .int gdc, .ref gdt, .int gdg, .ref gdu, .int gdn, .ref gdx]))]) hP hD [1, 2, 3, 4, 5, 6, 7, 8] [0] rfl rfl (by decide) (by decide) hk1 hFc hP1 hD1
    generalize H1 = H at hP hS ⊢
    have hP : va_P (dC, dI) vwCl [(pl, .inr (3, [.int plw, .int pld, .int plc, .int pls, .long plm, .ref plf, .ref plo, .ref plb, .ref pla])), (ho, .inr (2, [.ref hob, .ref hoo, .ref hos])), (hos, .inl (hoks, 5, .inr (.inr (.inr (.inr wS))))), (hr0, .inl (hkr0, 25, .inl wR0)), (hr1, .inl (hkr1, 25, .inl wR1)), (hr2, .inl (hkr2, 25, .inl wR2)), (hr3, .inl (hkr3, 25, .inl wR3)), (hr4, .inl (hkr4, 25, .inl wR4)), (gd, .inr (0, [.ref pl, .int gdl, .long gdh, .long gdw, .int gdi, .int gde, .int gdc, .ref gdt, .int gdg, .ref gdu, .int gdn, .ref gdx]))] H := hP
    have hD : va_D A [(pl, .inr (3, [.int plw, .int pld, .int plc, .int pls, .long plm, .ref plf, .ref plo, .ref plb, .ref pla])), (ho, .inr (2, [.ref hob, .ref hoo, .ref hos])), (hos, .inl (hoks, 5, .inr (.inr (.inr (.inr wS))))), (hr0, .inl (hkr0, 25, .inl wR0)), (hr1, .inl (hkr1, 25, .inl wR1)), (hr2, .inl (hkr2, 25, .inl wR2)), (hr3, .inl (hkr3, 25, .inl wR3)), (hr4, .inl (hkr4, 25, .inl wR4)), (gd, .inr (0, [.ref pl, .int gdl, .long gdh, .long gdw, .int gdi, .int gde, .int gdc, .ref gdt, .int gdg, .ref gdu, .int gdn, .ref gdx]))] := hD
    refine lv_icmp_ge (tgt := 32) hx hb dX2_meetingCell_27 (by decide) (fun c_6 => ?_) (fun c_6 => ?_)
    · have c_6 : r_4.toInt ≤ r_2.toInt := i_le (a := r_4) (b := r_2) rfl rfl c_6
      obtain ⟨x_7, ex_7⟩ : ∃ y9 : Int32, y9 = c1 + Int32.ofInt 1 := ⟨_, rfl⟩
      have zx_7 : x_7.toInt = c1.toInt + 1 := by rw [ex_7]; exact i_add rfl (show (Int32.ofInt 1).toInt = 1 by decide) (by omega) (by omega)
      refine lv_iinc (v := x_7) (lv' := [(3, .int x_7), (2, .int fo), (0, .ref ho), (1, .ref gd)]) hx hb dX2_meetingCell_32 hl (k := 0) rfl (by rw [ex_7]) (by decide) rfl (fun ls hl => ?_)
      refine lv_goto (tgt := 4) hx hb dX2_meetingCell_35 (by decide) ?_
      exact ih4 (x_7, fo) _ _ _ ⟨(by (try dsimp only); omega), (by (try dsimp only); omega), hP.sub [1, 2, 3, 4, 5, 6, 7, 8, 0] rfl, hD.sub [1, 2, 3, 4, 5, 6, 7, 8, 0] (by decide) rfl, hS, lv_sub hl [0, 1, 2, 3] rfl⟩ (by (try dsimp only); omega)
    · have c_6 : r_2.toInt < r_4.toInt := i_nle (a := r_4) (b := r_2) rfl rfl c_6
      refine lv_iload_n hx hb dX2_meetingCell_30 rfl (lv_at hl 0 rfl) ?_
      refine lv_istore_n (lv' := [(2, .int c1), (3, .int c1), (0, .ref ho), (1, .ref gd)]) hx hb dX2_meetingCell_31 rfl hl (by decide) rfl (fun ls hl => ?_)
      obtain ⟨x_8, ex_8⟩ : ∃ y9 : Int32, y9 = c1 + Int32.ofInt 1 := ⟨_, rfl⟩
      have zx_8 : x_8.toInt = c1.toInt + 1 := by rw [ex_8]; exact i_add rfl (show (Int32.ofInt 1).toInt = 1 by decide) (by omega) (by omega)
      refine lv_iinc (v := x_8) (lv' := [(3, .int x_8), (2, .int c1), (0, .ref ho), (1, .ref gd)]) hx hb dX2_meetingCell_32 hl (k := 1) rfl (by rw [ex_8]) (by decide) rfl (fun ls hl => ?_)
      refine lv_goto (tgt := 4) hx hb dX2_meetingCell_35 (by decide) ?_
      exact ih4 (x_8, c1) _ _ _ ⟨(by (try dsimp only); omega), (by (try dsimp only); omega), hP.sub [1, 2, 3, 4, 5, 6, 7, 8, 0] rfl, hD.sub [1, 2, 3, 4, 5, 6, 7, 8, 0] (by decide) rfl, hS, lv_sub hl [0, 1, 2, 3] rfl⟩ (by (try dsimp only); omega)

theorem dX2_stepsOfRound_0 : decode cX2_stepsOfRound 0 = .ok (.iconst 0, 1) := by decide +kernel
theorem dX2_stepsOfRound_1 : decode cX2_stepsOfRound 1 = .ok (.istore_n 3, 1) := by decide +kernel
theorem dX2_stepsOfRound_2 : decode cX2_stepsOfRound 2 = .ok (.iload_n 2, 1) := by decide +kernel
theorem dX2_stepsOfRound_3 : decode cX2_stepsOfRound 3 = .ok (.istore 4, 2) := by decide +kernel
theorem dX2_stepsOfRound_5 : decode cX2_stepsOfRound 5 = .ok (.iconst 0, 1) := by decide +kernel
theorem dX2_stepsOfRound_6 : decode cX2_stepsOfRound 6 = .ok (.istore 5, 2) := by decide +kernel
theorem dX2_stepsOfRound_8 : decode cX2_stepsOfRound 8 = .ok (.iload 5, 2) := by decide +kernel
theorem dX2_stepsOfRound_10 : decode cX2_stepsOfRound 10 = .ok (.aload_n 1, 1) := by decide +kernel
theorem dX2_stepsOfRound_11 : decode cX2_stepsOfRound 11 = .ok (.getfield 23, 3) := by decide +kernel
theorem dX2_stepsOfRound_14 : decode cX2_stepsOfRound 14 = .ok (.if_icmp .ge 40, 3) := by decide +kernel
theorem dX2_stepsOfRound_17 : decode cX2_stepsOfRound 17 = .ok (.aload_n 0, 1) := by decide +kernel
theorem dX2_stepsOfRound_18 : decode cX2_stepsOfRound 18 = .ok (.getfield 15, 3) := by decide +kernel
theorem dX2_stepsOfRound_21 : decode cX2_stepsOfRound 21 = .ok (.iload 5, 2) := by decide +kernel
theorem dX2_stepsOfRound_23 : decode cX2_stepsOfRound 23 = .ok (.iaload, 1) := by decide +kernel
theorem dX2_stepsOfRound_24 : decode cX2_stepsOfRound 24 = .ok (.istore 6, 2) := by decide +kernel
theorem dX2_stepsOfRound_26 : decode cX2_stepsOfRound 26 = .ok (.iload_n 3, 1) := by decide +kernel
theorem dX2_stepsOfRound_27 : decode cX2_stepsOfRound 27 = .ok (.aload_n 0, 1) := by decide +kernel
theorem dX2_stepsOfRound_28 : decode cX2_stepsOfRound 28 = .ok (.getfield 20, 3) := by decide +kernel
theorem dX2_stepsOfRound_31 : decode cX2_stepsOfRound 31 = .ok (.iload 6, 2) := by decide +kernel
theorem dX2_stepsOfRound_33 : decode cX2_stepsOfRound 33 = .ok (.aaload, 1) := by decide +kernel
theorem dX2_stepsOfRound_34 : decode cX2_stepsOfRound 34 = .ok (.iload 4, 2) := by decide +kernel
theorem dX2_stepsOfRound_36 : decode cX2_stepsOfRound 36 = .ok (.iaload, 1) := by decide +kernel
theorem dX2_stepsOfRound_37 : decode cX2_stepsOfRound 37 = .ok (.iadd, 1) := by decide +kernel
theorem dX2_stepsOfRound_38 : decode cX2_stepsOfRound 38 = .ok (.istore_n 3, 1) := by decide +kernel
theorem dX2_stepsOfRound_39 : decode cX2_stepsOfRound 39 = .ok (.aload_n 1, 1) := by decide +kernel
theorem dX2_stepsOfRound_40 : decode cX2_stepsOfRound 40 = .ok (.getfield 33, 3) := by decide +kernel
theorem dX2_stepsOfRound_43 : decode cX2_stepsOfRound 43 = .ok (.iload 6, 2) := by decide +kernel
theorem dX2_stepsOfRound_45 : decode cX2_stepsOfRound 45 = .ok (.iaload, 1) := by decide +kernel
theorem dX2_stepsOfRound_46 : decode cX2_stepsOfRound 46 = .ok (.istore 4, 2) := by decide +kernel
theorem dX2_stepsOfRound_48 : decode cX2_stepsOfRound 48 = .ok (.iinc 5 1, 3) := by decide +kernel
theorem dX2_stepsOfRound_51 : decode cX2_stepsOfRound 51 = .ok (.goto (-43), 3) := by decide +kernel
theorem dX2_stepsOfRound_54 : decode cX2_stepsOfRound 54 = .ok (.aload_n 1, 1) := by decide +kernel
theorem dX2_stepsOfRound_55 : decode cX2_stepsOfRound 55 = .ok (.getfield 23, 3) := by decide +kernel
theorem dX2_stepsOfRound_58 : decode cX2_stepsOfRound 58 = .ok (.ifCond .le 26, 3) := by decide +kernel
theorem dX2_stepsOfRound_61 : decode cX2_stepsOfRound 61 = .ok (.iload_n 3, 1) := by decide +kernel
theorem dX2_stepsOfRound_62 : decode cX2_stepsOfRound 62 = .ok (.aload_n 0, 1) := by decide +kernel
theorem dX2_stepsOfRound_63 : decode cX2_stepsOfRound 63 = .ok (.getfield 20, 3) := by decide +kernel
theorem dX2_stepsOfRound_66 : decode cX2_stepsOfRound 66 = .ok (.aload_n 0, 1) := by decide +kernel
theorem dX2_stepsOfRound_67 : decode cX2_stepsOfRound 67 = .ok (.getfield 15, 3) := by decide +kernel
theorem dX2_stepsOfRound_70 : decode cX2_stepsOfRound 70 = .ok (.aload_n 1, 1) := by decide +kernel
theorem dX2_stepsOfRound_71 : decode cX2_stepsOfRound 71 = .ok (.getfield 23, 3) := by decide +kernel
theorem dX2_stepsOfRound_74 : decode cX2_stepsOfRound 74 = .ok (.iconst 1, 1) := by decide +kernel
theorem dX2_stepsOfRound_75 : decode cX2_stepsOfRound 75 = .ok (.isub, 1) := by decide +kernel
theorem dX2_stepsOfRound_76 : decode cX2_stepsOfRound 76 = .ok (.iaload, 1) := by decide +kernel
theorem dX2_stepsOfRound_77 : decode cX2_stepsOfRound 77 = .ok (.aaload, 1) := by decide +kernel
theorem dX2_stepsOfRound_78 : decode cX2_stepsOfRound 78 = .ok (.iload_n 2, 1) := by decide +kernel
theorem dX2_stepsOfRound_79 : decode cX2_stepsOfRound 79 = .ok (.iaload, 1) := by decide +kernel
theorem dX2_stepsOfRound_80 : decode cX2_stepsOfRound 80 = .ok (.iadd, 1) := by decide +kernel
theorem dX2_stepsOfRound_81 : decode cX2_stepsOfRound 81 = .ok (.goto 4, 3) := by decide +kernel
theorem dX2_stepsOfRound_84 : decode cX2_stepsOfRound 84 = .ok (.iload_n 3, 1) := by decide +kernel
theorem dX2_stepsOfRound_85 : decode cX2_stepsOfRound 85 = .ok (.ireturn, 1) := by decide +kernel
def wz_X2_stepsOfRound : List Cond := .code yX2_stepsOfRound cX2_stepsOfRound 7 (some .int) :: ([Cond.fieldLink RX2 23 "HedgeMaze$Garden" "guestCount" "I", Cond.fieldLink RX2 20 "HedgeMaze$Host" "stepsFrom" "[[I", Cond.fieldLink RX2 15 "HedgeMaze$Host" "order" "[I", Cond.fieldLink RX2 33 "HedgeMaze$Garden" "guests" "[I"] ++ wsX00 ++ wsX20)
theorem wd_X2_stepsOfRound_0 : Cond.fieldLink RX2 23 "HedgeMaze$Garden" "guestCount" "I" ∈ wz_X2_stepsOfRound := List.mem_of_getElem? (i := 1) rfl
theorem wd_X2_stepsOfRound_1 : Cond.fieldLink RX2 20 "HedgeMaze$Host" "stepsFrom" "[[I" ∈ wz_X2_stepsOfRound := List.mem_of_getElem? (i := 2) rfl
theorem wd_X2_stepsOfRound_2 : Cond.fieldLink RX2 15 "HedgeMaze$Host" "order" "[I" ∈ wz_X2_stepsOfRound := List.mem_of_getElem? (i := 3) rfl
theorem wd_X2_stepsOfRound_3 : Cond.fieldLink RX2 33 "HedgeMaze$Garden" "guests" "[I" ∈ wz_X2_stepsOfRound := List.mem_of_getElem? (i := 4) rfl
theorem in_X2_stepsOfRound_X0 : ∀ w ∈ wsX00, w ∈ wz_X2_stepsOfRound := fun _ h => List.mem_cons_of_mem _ (List.mem_append_left _ (List.mem_append_right _ h))
theorem in_X2_stepsOfRound_X2 : ∀ w ∈ wsX20, w ∈ wz_X2_stepsOfRound := fun _ h => List.mem_cons_of_mem _ (List.mem_append_right _ h)
set_option maxHeartbeats 4000000 in
set_option maxRecDepth 100000 in
theorem c_X2_stepsOfRound (l : Launch) (dC : Nat → ClassId) (dI : Nat → Nat → Nat) (sz : Nat) (ho : Nat) (hob : Nat) (hoo : Nat) (hos : Nat) (hoko : ClassId) (wO : Nat → Int32) (hoks : ClassId) (wS : Nat → Option Nat) (hr0 : Nat) (hkr0 : ClassId) (wR0 : Nat → Int32) (hr1 : Nat) (hkr1 : ClassId) (wR1 : Nat → Int32) (hr2 : Nat) (hkr2 : ClassId) (wR2 : Nat → Int32) (hr3 : Nat) (hkr3 : ClassId) (wR3 : Nat → Int32) (hr4 : Nat) (hkr4 : ClassId) (wR4 : Nat → Int32) (gd : Nat) (gdl : Int32) (gdh : Int64) (gdw : Int64) (gdi : Int32) (gde : Int32) (gdc : Int32) (gdt : Nat) (gdg : Int32) (gdu : Nat) (gdn : Int32) (gdx : Nat) (gdku : ClassId) (gdU : Nat → Int32) (pl : Nat) (p0 : Int32) (hq0 : wS 0 = some hr0) (hq1 : wS 1 = some hr1) (hq2 : wS 2 = some hr2) (hq3 : wS 3 = some hr3) (hq4 : wS 4 = some hr4) (h_gdg : 0 ≤ gdg.toInt ∧ gdg.toInt ≤ 5) (h_p0 : 0 ≤ p0.toInt ∧ p0.toInt ≤ 24) (hR_hoo : RG wO 5 0 4) (hR_gdu : RG gdU 5 0 24) : Met l yX2_stepsOfRound wz_X2_stepsOfRound ({ frames := 0, cells := 0, slots := 0, locals := 0 }) (va_Pc [.ref ho, .ref gd, .int p0] (fun U => U.heap.size = sz ∧ va_P (dC, dI) vwCl [(ho, .inr (2, [.ref hob, .ref hoo, .ref hos])), (hoo, .inl (hoko, 5, .inl wO)), (hos, .inl (hoks, 5, .inr (.inr (.inr (.inr wS))))), (hr0, .inl (hkr0, 25, .inl wR0)), (hr1, .inl (hkr1, 25, .inl wR1)), (hr2, .inl (hkr2, 25, .inl wR2)), (hr3, .inl (hkr3, 25, .inl wR3)), (hr4, .inl (hkr4, 25, .inl wR4)), (gd, .inr (0, [.ref pl, .int gdl, .long gdh, .long gdw, .int gdi, .int gde, .int gdc, .ref gdt, .int gdg, .ref gdu, .int gdn, .ref gdx])), (gdu, .inl (gdku, 5, .inl gdU))] U.heap ∧ va_K (dC, dI) vwCl [(hoko, .int), (hoks, .array .int), (hkr0, .int), (hkr1, .int), (hkr2, .int), (hkr3, .int), (hkr4, .int), (gdku, .int)] U ∧ va_D (fun _ => True) [(ho, .inr (2, [.ref hob, .ref hoo, .ref hos])), (hoo, .inl (hoko, 5, .inl wO)), (hos, .inl (hoks, 5, .inr (.inr (.inr (.inr wS))))), (hr0, .inl (hkr0, 25, .inl wR0)), (hr1, .inl (hkr1, 25, .inl wR1)), (hr2, .inl (hkr2, 25, .inl wR2)), (hr3, .inl (hkr3, 25, .inl wR3)), (hr4, .inl (hkr4, 25, .inl wR4)), (gd, .inr (0, [.ref pl, .int gdl, .long gdh, .long gdw, .int gdi, .int gde, .int gdc, .ref gdt, .int gdg, .ref gdu, .int gdn, .ref gdx])), (gdu, .inl (gdku, 5, .inl gdU))])) (va_Qi (fun (r : Int32) (u : Unit) => True) (fun (u : Unit) (t : State) => va_P (dC, dI) vwCl [(ho, .inr (2, [.ref hob, .ref hoo, .ref hos])), (hoo, .inl (hoko, 5, .inl wO)), (hos, .inl (hoks, 5, .inr (.inr (.inr (.inr wS))))), (hr0, .inl (hkr0, 25, .inl wR0)), (hr1, .inl (hkr1, 25, .inl wR1)), (hr2, .inl (hkr2, 25, .inl wR2)), (hr3, .inl (hkr3, 25, .inl wR3)), (hr4, .inl (hkr4, 25, .inl wR4)), (gd, .inr (0, [.ref pl, .int gdl, .long gdh, .long gdw, .int gdi, .int gde, .int gdc, .ref gdt, .int gdg, .ref gdu, .int gdn, .ref gdx])), (gdu, .inl (gdku, 5, .inl gdU))] t.heap ∧ va_K (dC, dI) vwCl [] t ∧ va_D (va_A [(ho, .inr (2, [.ref hob, .ref hoo, .ref hos])), (hoo, .inl (hoko, 5, .inl wO)), (hos, .inl (hoks, 5, .inr (.inr (.inr (.inr wS))))), (hr0, .inl (hkr0, 25, .inl wR0)), (hr1, .inl (hkr1, 25, .inl wR1)), (hr2, .inl (hkr2, 25, .inl wR2)), (hr3, .inl (hkr3, 25, .inl wR3)), (hr4, .inl (hkr4, 25, .inl wR4)), (gd, .inr (0, [.ref pl, .int gdl, .long gdh, .long gdw, .int gdi, .int gde, .int gdc, .ref gdt, .int gdg, .ref gdu, .int gdn, .ref gdx])), (gdu, .inl (gdku, 5, .inl gdU))] sz) [(ho, .inr (2, [.ref hob, .ref hoo, .ref hos])), (hoo, .inl (hoko, 5, .inl wO)), (hos, .inl (hoks, 5, .inr (.inr (.inr (.inr wS))))), (hr0, .inl (hkr0, 25, .inl wR0)), (hr1, .inl (hkr1, 25, .inl wR1)), (hr2, .inl (hkr2, 25, .inl wR2)), (hr3, .inl (hkr3, 25, .inl wR3)), (hr4, .inl (hkr4, 25, .inl wR4)), (gd, .inr (0, [.ref pl, .int gdl, .long gdh, .long gdw, .int gdi, .int gde, .int gdc, .ref gdt, .int gdg, .ref gdu, .int gdn, .ref gdx])), (gdu, .inl (gdku, 5, .inl gdU))]) (va_A [(ho, .inr (2, [.ref hob, .ref hoo, .ref hos])), (hoo, .inl (hoko, 5, .inl wO)), (hos, .inl (hoks, 5, .inr (.inr (.inr (.inr wS))))), (hr0, .inl (hkr0, 25, .inl wR0)), (hr1, .inl (hkr1, 25, .inl wR1)), (hr2, .inl (hkr2, 25, .inl wR2)), (hr3, .inl (hkr3, 25, .inl wR3)), (hr4, .inl (hkr4, 25, .inl wR4)), (gd, .inr (0, [.ref pl, .int gdl, .long gdh, .long gdw, .int gdi, .int gde, .int gdc, .ref gdt, .int gdg, .ref gdu, .int gdn, .ref gdx])), (gdu, .inl (gdku, 5, .inl gdU))] sz)) 0 0 (va_A [(ho, .inr (2, [.ref hob, .ref hoo, .ref hos])), (hoo, .inl (hoko, 5, .inl wO)), (hos, .inl (hoks, 5, .inr (.inr (.inr (.inr wS))))), (hr0, .inl (hkr0, 25, .inl wR0)), (hr1, .inl (hkr1, 25, .inl wR1)), (hr2, .inl (hkr2, 25, .inl wR2)), (hr3, .inl (hkr3, 25, .inl wR3)), (hr4, .inl (hkr4, 25, .inl wR4)), (gd, .inr (0, [.ref pl, .int gdl, .long gdh, .long gdw, .int gdi, .int gde, .int gdc, .ref gdt, .int gdg, .ref gdu, .int gdn, .ref gdx])), (gdu, .inl (gdku, 5, .inl gdU))] sz) := by
  refine Met.ofW (cc := cX2_stepsOfRound) (maxL := 7) (ret := (some .int)) (by decide) rfl ?_
  intro p e s m args below meth c s₁ B hml hv
  obtain ⟨rfl, hsz, hP, hK, hD0⟩ := hv
  have hx := B.exec
  have hb := B.bytes
  have hr := B.returns
  have hts := atoms_spec (ws := wz_X2_stepsOfRound) B.pre
  have hown : s.vm.findClass RX2 = some m.cls := findClass_of_methodNamed B.named
  have hlocks := B.notSynchronized
  subst hsz
  have hD := hD0.self (sz := s.heap.size)
  generalize hAe : va_A [(ho, .inr (2, [.ref hob, .ref hoo, .ref hos])), (hoo, .inl (hoko, 5, .inl wO)), (hos, .inl (hoks, 5, .inr (.inr (.inr (.inr wS))))), (hr0, .inl (hkr0, 25, .inl wR0)), (hr1, .inl (hkr1, 25, .inl wR1)), (hr2, .inl (hkr2, 25, .inl wR2)), (hr3, .inl (hkr3, 25, .inl wR3)), (hr4, .inl (hkr4, 25, .inl wR4)), (gd, .inr (0, [.ref pl, .int gdl, .long gdh, .long gdw, .int gdi, .int gde, .int gdc, .ref gdt, .int gdg, .ref gdu, .int gdn, .ref gdx])), (gdu, .inl (gdku, 5, .inl gdU))] s.heap.size = A at hD ⊢
  have hA : ∀ q : Nat, s.heap.size ≤ q → A q := fun q h => by rw [← hAe]; exact Or.inr h
  have hS : va_S A s.heap s.heap [] := va_S.rf
  have hP : va_P (dC, dI) vwCl [(ho, .inr (2, [.ref hob, .ref hoo, .ref hos])), (hoo, .inl (hoko, 5, .inl wO)), (hos, .inl (hoks, 5, .inr (.inr (.inr (.inr wS))))), (hr0, .inl (hkr0, 25, .inl wR0)), (hr1, .inl (hkr1, 25, .inl wR1)), (hr2, .inl (hkr2, 25, .inl wR2)), (hr3, .inl (hkr3, 25, .inl wR3)), (hr4, .inl (hkr4, 25, .inl wR4)), (gd, .inr (0, [.ref pl, .int gdl, .long gdh, .long gdw, .int gdi, .int gde, .int gdc, .ref gdt, .int gdg, .ref gdu, .int gdn, .ref gdx])), (gdu, .inl (gdku, 5, .inl gdU))] s.heap := hP
  have hl := lv_entry ([.ref ho, .ref gd, .int p0]) (n := 7) (Nat.le_of_ble_eq_true rfl)
  rw [lg_entry_eq]
  generalize (lg_sl ([.ref ho, .ref gd, .int p0]) ++ List.replicate (7 - (lg_sl ([.ref ho, .ref gd, .int p0])).length) Slot.unset).toArray = ls at hl ⊢
  have hl : lv_has ls 7 [(0, .ref ho), (1, .ref gd), (2, .int p0)] := hl
  refine lv_iconst (v := 0) hx hb dX2_stepsOfRound_0 (by decide) ?_
  refine lv_istore_n (lv' := [(3, .int 0), (0, .ref ho), (1, .ref gd), (2, .int p0)]) hx hb dX2_stepsOfRound_1 rfl hl (by decide) rfl (fun ls hl => ?_)
  refine lv_iload_n hx hb dX2_stepsOfRound_2 rfl (lv_at hl 3 rfl) ?_
  refine lv_istore (lv' := [(4, .int p0), (3, .int 0), (0, .ref ho), (1, .ref gd), (2, .int p0)]) hx hb dX2_stepsOfRound_3 hl (by decide) rfl (fun ls hl => ?_)
  refine lv_iconst (v := 0) hx hb dX2_stepsOfRound_5 (by decide) ?_
  refine lv_istore (lv' := [(5, .int 0), (4, .int p0), (3, .int 0), (0, .ref ho), (1, .ref gd), (2, .int p0)]) hx hb dX2_stepsOfRound_6 hl (by decide) rfl (fun ls hl => ?_)
  refine lp_W (I := fun (a : Int32 × Int32 × Int32) H locs ls => (0 ≤ a.1.toInt ∧ a.1.toInt ≤ 5) ∧ (0 ≤ a.2.2.toInt ∧ a.2.2.toInt ≤ 24) ∧ va_P (dC, dI) vwCl [(ho, .inr (2, [.ref hob, .ref hoo, .ref hos])), (hoo, .inl (hoko, 5, .inl wO)), (hos, .inl (hoks, 5, .inr (.inr (.inr (.inr wS))))), (hr0, .inl (hkr0, 25, .inl wR0)), (hr1, .inl (hkr1, 25, .inl wR1)), (hr2, .inl (hkr2, 25, .inl wR2)), (hr3, .inl (hkr3, 25, .inl wR3)), (hr4, .inl (hkr4, 25, .inl wR4)), (gd, .inr (0, [.ref pl, .int gdl, .long gdh, .long gdw, .int gdi, .int gde, .int gdc, .ref gdt, .int gdg, .ref gdu, .int gdn, .ref gdx])), (gdu, .inl (gdku, 5, .inl gdU))] H ∧ va_D A [(ho, .inr (2, [.ref hob, .ref hoo, .ref hos])), (hoo, .inl (hoko, 5, .inl wO)), (hos, .inl (hoks, 5, .inr (.inr (.inr (.inr wS))))), (hr0, .inl (hkr0, 25, .inl wR0)), (hr1, .inl (hkr1, 25, .inl wR1)), (hr2, .inl (hkr2, 25, .inl wR2)), (hr3, .inl (hkr3, 25, .inl wR3)), (hr4, .inl (hkr4, 25, .inl wR4)), (gd, .inr (0, [.ref pl, .int gdl, .long gdh, .long gdw, .int gdi, .int gde, .int gdc, .ref gdt, .int gdg, .ref gdu, .int gdn, .ref gdx])), (gdu, .inl (gdku, 5, .inl gdU))] ∧ va_S A s.heap H locs ∧ lv_has ls 7 [(5, .int a.1), (4, .int a.2.2), (3, .int a.2.1), (0, .ref ho), (1, .ref gd), (2, .int p0)]) (μ := fun a => (5 - a.1.toInt).toNat) ?_ ((0 : Int32), (0 : Int32), p0) ⟨(by have k0 : (0 : Int32).toInt = 0 := (by decide); (try dsimp only); omega), (by have k0 : (0 : Int32).toInt = 0 := (by decide); (try dsimp only); omega), hP.sub [0, 1, 2, 3, 4, 5, 6, 7, 8, 9] rfl, hD.sub [0, 1, 2, 3, 4, 5, 6, 7, 8, 9] (by decide) rfl, hS, lv_sub hl [0, 1, 2, 3, 4, 5] rfl⟩
  intro a H locs ls hI ih8
  obtain ⟨i1, sp, at9⟩ := a
  obtain ⟨h_i1, h_at, hP, hD, hS, hl⟩ := hI
  have h_i1 : 0 ≤ i1.toInt ∧ i1.toInt ≤ 5 := h_i1
  have h_at : 0 ≤ at9.toInt ∧ at9.toInt ≤ 24 := h_at
  have hP : va_P (dC, dI) vwCl [(ho, .inr (2, [.ref hob, .ref hoo, .ref hos])), (hoo, .inl (hoko, 5, .inl wO)), (hos, .inl (hoks, 5, .inr (.inr (.inr (.inr wS))))), (hr0, .inl (hkr0, 25, .inl wR0)), (hr1, .inl (hkr1, 25, .inl wR1)), (hr2, .inl (hkr2, 25, .inl wR2)), (hr3, .inl (hkr3, 25, .inl wR3)), (hr4, .inl (hkr4, 25, .inl wR4)), (gd, .inr (0, [.ref pl, .int gdl, .long gdh, .long gdw, .int gdi, .int gde, .int gdc, .ref gdt, .int gdg, .ref gdu, .int gdn, .ref gdx])), (gdu, .inl (gdku, 5, .inl gdU))] H := hP
  have hD : va_D A [(ho, .inr (2, [.ref hob, .ref hoo, .ref hos])), (hoo, .inl (hoko, 5, .inl wO)), (hos, .inl (hoks, 5, .inr (.inr (.inr (.inr wS))))), (hr0, .inl (hkr0, 25, .inl wR0)), (hr1, .inl (hkr1, 25, .inl wR1)), (hr2, .inl (hkr2, 25, .inl wR2)), (hr3, .inl (hkr3, 25, .inl wR3)), (hr4, .inl (hkr4, 25, .inl wR4)), (gd, .inr (0, [.ref pl, .int gdl, .long gdh, .long gdw, .int gdi, .int gde, .int gdc, .ref gdt, .int gdg, .ref gdu, .int gdn, .ref gdx])), (gdu, .inl (gdku, 5, .inl gdU))] := hD
  have hl : lv_has ls 7 [(5, .int i1), (4, .int at9), (3, .int sp), (0, .ref ho), (1, .ref gd), (2, .int p0)] := hl
  refine lv_iload hx hb dX2_stepsOfRound_8 (lv_at hl 0 rfl) ?_
  refine lv_aload_n hx hb dX2_stepsOfRound_10 rfl (lv_at hl 4 rfl) ?_
  refine va_get (D := (dC, dI)) (ci := 0) (v := .int gdg) (C := RX0) (T := TX0) (N := 12) hx hb hts in_X2_stepsOfRound_X0 hown hK hP 8 rfl rfl 8 (by decide) (hts _ wd_X2_stepsOfRound_0) (fun _ h9 => h9) rfl dX2_stepsOfRound_11 ?_
  refine lv_icmp_ge (tgt := 54) hx hb dX2_stepsOfRound_14 (by decide) (fun c_1 => ?_) (fun c_1 => ?_)
  · have c_1 : gdg.toInt ≤ i1.toInt := i_le (a := gdg) (b := i1) rfl rfl c_1
    refine lv_aload_n hx hb dX2_stepsOfRound_54 rfl (lv_at hl 4 rfl) ?_
    refine va_get (D := (dC, dI)) (ci := 0) (v := .int gdg) (C := RX0) (T := TX0) (N := 12) hx hb hts in_X2_stepsOfRound_X0 hown hK hP 8 rfl rfl 8 (by decide) (hts _ wd_X2_stepsOfRound_0) (fun _ h9 => h9) rfl dX2_stepsOfRound_55 ?_
    refine lv_if_le (tgt := 84) hx hb dX2_stepsOfRound_58 (by decide) (fun c_2 => ?_) (fun c_2 => ?_)
    · have c_2 : gdg.toInt ≤ 0 := i_le (a := gdg) (b := 0) rfl (by decide) c_2
      refine lv_iload_n hx hb dX2_stepsOfRound_84 rfl (lv_at hl 2 rfl) ?_
      have hP9 := hP.sub (ws' := [(ho, .inr (2, [.ref hob, .ref hoo, .ref hos])), (hoo, .inl (hoko, 5, .inl wO)), (hos, .inl (hoks, 5, .inr (.inr (.inr (.inr wS))))), (hr0, .inl (hkr0, 25, .inl wR0)), (hr1, .inl (hkr1, 25, .inl wR1)), (hr2, .inl (hkr2, 25, .inl wR2)), (hr3, .inl (hkr3, 25, .inl wR3)), (hr4, .inl (hkr4, 25, .inl wR4)), (gd, .inr (0, [.ref pl, .int gdl, .long gdh, .long gdw, .int gdi, .int gde, .int gdc, .ref gdt, .int gdg, .ref gdu, .int gdn, .ref gdx])), (gdu, .inl (gdku, 5, .inl gdU))]) [0, 1, 2, 3, 4, 5, 6, 7, 8, 9] rfl
      have hD9 := hD.sub (ws' := [(ho, .inr (2, [.ref hob, .ref hoo, .ref hos])), (hoo, .inl (hoko, 5, .inl wO)), (hos, .inl (hoks, 5, .inr (.inr (.inr (.inr wS))))), (hr0, .inl (hkr0, 25, .inl wR0)), (hr1, .inl (hkr1, 25, .inl wR1)), (hr2, .inl (hkr2, 25, .inl wR2)), (hr3, .inl (hkr3, 25, .inl wR3)), (hr4, .inl (hkr4, 25, .inl wR4)), (gd, .inr (0, [.ref pl, .int gdl, .long gdh, .long gdw, .int gdi, .int gde, .int gdc, .ref gdt, .int gdg, .ref gdu, .int gdn, .ref gdx])), (gdu, .inl (gdku, 5, .inl gdU))]) [0, 1, 2, 3, 4, 5, 6, 7, 8, 9] (by decide) rfl
      have hK9 := hK.sub (tys' := []) [] rfl
      refine W.widen (k := 0) (n := 0) (by omega) (by omega) ?_
      exact W.iret (v := sp) hx hb hr (fun t ht hW => ⟨⟨sp, (), rfl, trivial, by rw [ht]; exact hP9, va_K.moved hW.alike hK9, hD9⟩, hS.F ht⟩) hS.2.2 dX2_stepsOfRound_85
    · have c_2 : 0 < gdg.toInt := i_nle (a := gdg) (b := 0) rfl (by decide) c_2
      refine lv_iload_n hx hb dX2_stepsOfRound_61 rfl (lv_at hl 2 rfl) ?_
      refine lv_aload_n hx hb dX2_stepsOfRound_62 rfl (lv_at hl 3 rfl) ?_
      refine va_get (D := (dC, dI)) (ci := 2) (v := .ref hos) (C := RX2) (T := TX2) (N := 3) hx hb hts in_X2_stepsOfRound_X2 hown hK hP 0 rfl rfl 2 (by decide) (hts _ wd_X2_stepsOfRound_1) (fun _ h9 => h9) rfl dX2_stepsOfRound_63 ?_
      refine lv_aload_n hx hb dX2_stepsOfRound_66 rfl (lv_at hl 3 rfl) ?_
      refine va_get (D := (dC, dI)) (ci := 2) (v := .ref hoo) (C := RX2) (T := TX2) (N := 3) hx hb hts in_X2_stepsOfRound_X2 hown hK hP 0 rfl rfl 1 (by decide) (hts _ wd_X2_stepsOfRound_2) (fun _ h9 => h9) rfl dX2_stepsOfRound_67 ?_
      refine lv_aload_n hx hb dX2_stepsOfRound_70 rfl (lv_at hl 4 rfl) ?_
      refine va_get (D := (dC, dI)) (ci := 0) (v := .int gdg) (C := RX0) (T := TX0) (N := 12) hx hb hts in_X2_stepsOfRound_X0 hown hK hP 8 rfl rfl 8 (by decide) (hts _ wd_X2_stepsOfRound_0) (fun _ h9 => h9) rfl dX2_stepsOfRound_71 ?_
      refine lv_iconst (v := 1) hx hb dX2_stepsOfRound_74 (by decide) ?_
      refine lv_isub hx hb dX2_stepsOfRound_75 ?_
      refine lv_topi (fun x_3 ex_3 => ?_)
      have zx_3 : x_3.toInt = gdg.toInt - 1 := by rw [ex_3]; exact i_sub rfl (by decide) (by omega) (by omega)
      have hin_4 : vp_in x_3 5 := (i_in rfl (by omega) (by omega))
      refine va_iald hx hb hK hP 1 0 rfl rfl hin_4 dX2_stepsOfRound_76 ?_
      refine lv_topi (fun v_5 ev_5 => ?_)
      have hv_5 := RG.at hR_hoo hin_4 ev_5
      have hPy_6 := hP
      have hDy_6 := hD
      have hSy_6 := hS
      have hly_6 := hl
      have hKy_6 := hK
      rcases (i_five (a := v_5) (by omega) (by omega) : v_5 = 0 ∨ v_5 = 1 ∨ v_5 = 2 ∨ v_5 = 3 ∨ v_5 = 4) with rfl | rfl | rfl | rfl | rfl
      · have hP := hPy_6
        have hD := hDy_6
        have hS := hSy_6
        have hl := hly_6
        have hK := hKy_6
        refine va_aldA (i := 0) hx hb hK hP 2 1 rfl rfl (vp_in_iff.mpr ⟨by decide, by decide⟩) dX2_stepsOfRound_77 ?_
        refine W.eq (g2 := F0 m 78 ls (.ref hr0 :: .int sp :: [])) (by rw [show wS (0 : Int32).toNatClampNeg = some hr0 from hq0]; rfl) ?_
        refine lv_iload_n hx hb dX2_stepsOfRound_78 rfl (lv_at hl 5 rfl) ?_
        refine va_iald hx hb hK hP 3 2 rfl rfl (i_in rfl (by omega) (by omega)) dX2_stepsOfRound_79 ?_
        refine lv_topi (fun v_7 ev_7 => ?_)
        refine lv_iadd hx hb dX2_stepsOfRound_80 ?_
        refine lv_topi (fun x_8 ex_8 => ?_)
        refine lv_goto (tgt := 85) hx hb dX2_stepsOfRound_81 (by decide) ?_
        have hP9 := hP.sub (ws' := [(ho, .inr (2, [.ref hob, .ref hoo, .ref hos])), (hoo, .inl (hoko, 5, .inl wO)), (hos, .inl (hoks, 5, .inr (.inr (.inr (.inr wS))))), (hr0, .inl (hkr0, 25, .inl wR0)), (hr1, .inl (hkr1, 25, .inl wR1)), (hr2, .inl (hkr2, 25, .inl wR2)), (hr3, .inl (hkr3, 25, .inl wR3)), (hr4, .inl (hkr4, 25, .inl wR4)), (gd, .inr (0, [.ref pl, .int gdl, .long gdh, .long gdw, .int gdi, .int gde, .int gdc, .ref gdt, .int gdg, .ref gdu, .int gdn, .ref gdx])), (gdu, .inl (gdku, 5, .inl gdU))]) [0, 1, 2, 3, 4, 5, 6, 7, 8, 9] rfl
        have hD9 := hD.sub (ws' := [(ho, .inr (2, [.ref hob, .ref hoo, .ref hos])), (hoo, .inl (hoko, 5, .inl wO)), (hos, .inl (hoks, 5, .inr (.inr (.inr (.inr wS))))), (hr0, .inl (hkr0, 25, .inl wR0)), (hr1, .inl (hkr1, 25, .inl wR1)), (hr2, .inl (hkr2, 25, .inl wR2)), (hr3, .inl (hkr3, 25, .inl wR3)), (hr4, .inl (hkr4, 25, .inl wR4)), (gd, .inr (0, [.ref pl, .int gdl, .long gdh, .long gdw, .int gdi, .int gde, .int gdc, .ref gdt, .int gdg, .ref gdu, .int gdn, .ref gdx])), (gdu, .inl (gdku, 5, .inl gdU))]) [0, 1, 2, 3, 4, 5, 6, 7, 8, 9] (by decide) rfl
        have hK9 := hK.sub (tys' := []) [] rfl
        refine W.widen (k := 0) (n := 0) (by omega) (by omega) ?_
        exact W.iret (v := x_8) hx hb hr (fun t ht hW => ⟨⟨x_8, (), rfl, trivial, by rw [ht]; exact hP9, va_K.moved hW.alike hK9, hD9⟩, hS.F ht⟩) hS.2.2 dX2_stepsOfRound_85
      · have hP := hPy_6
        have hD := hDy_6
        have hS := hSy_6
        have hl := hly_6
        have hK := hKy_6
        refine va_aldA (i := 1) hx hb hK hP 2 1 rfl rfl (vp_in_iff.mpr ⟨by decide, by decide⟩) dX2_stepsOfRound_77 ?_
        refine W.eq (g2 := F0 m 78 ls (.ref hr1 :: .int sp :: [])) (by rw [show wS (1 : Int32).toNatClampNeg = some hr1 from hq1]; rfl) ?_
        refine lv_iload_n hx hb dX2_stepsOfRound_78 rfl (lv_at hl 5 rfl) ?_
        refine va_iald hx hb hK hP 4 3 rfl rfl (i_in rfl (by omega) (by omega)) dX2_stepsOfRound_79 ?_
        refine lv_topi (fun v_9 ev_9 => ?_)
        refine lv_iadd hx hb dX2_stepsOfRound_80 ?_
        refine lv_topi (fun x_10 ex_10 => ?_)
        refine lv_goto (tgt := 85) hx hb dX2_stepsOfRound_81 (by decide) ?_
        have hP9 := hP.sub (ws' := [(ho, .inr (2, [.ref hob, .ref hoo, .ref hos])), (hoo, .inl (hoko, 5, .inl wO)), (hos, .inl (hoks, 5, .inr (.inr (.inr (.inr wS))))), (hr0, .inl (hkr0, 25, .inl wR0)), (hr1, .inl (hkr1, 25, .inl wR1)), (hr2, .inl (hkr2, 25, .inl wR2)), (hr3, .inl (hkr3, 25, .inl wR3)), (hr4, .inl (hkr4, 25, .inl wR4)), (gd, .inr (0, [.ref pl, .int gdl, .long gdh, .long gdw, .int gdi, .int gde, .int gdc, .ref gdt, .int gdg, .ref gdu, .int gdn, .ref gdx])), (gdu, .inl (gdku, 5, .inl gdU))]) [0, 1, 2, 3, 4, 5, 6, 7, 8, 9] rfl
        have hD9 := hD.sub (ws' := [(ho, .inr (2, [.ref hob, .ref hoo, .ref hos])), (hoo, .inl (hoko, 5, .inl wO)), (hos, .inl (hoks, 5, .inr (.inr (.inr (.inr wS))))), (hr0, .inl (hkr0, 25, .inl wR0)), (hr1, .inl (hkr1, 25, .inl wR1)), (hr2, .inl (hkr2, 25, .inl wR2)), (hr3, .inl (hkr3, 25, .inl wR3)), (hr4, .inl (hkr4, 25, .inl wR4)), (gd, .inr (0, [.ref pl, .int gdl, .long gdh, .long gdw, .int gdi, .int gde, .int gdc, .ref gdt, .int gdg, .ref gdu, .int gdn, .ref gdx])), (gdu, .inl (gdku, 5, .inl gdU))]) [0, 1, 2, 3, 4, 5, 6, 7, 8, 9] (by decide) rfl
        have hK9 := hK.sub (tys' := []) [] rfl
        refine W.widen (k := 0) (n := 0) (by omega) (by omega) ?_
        exact W.iret (v := x_10) hx hb hr (fun t ht hW => ⟨⟨x_10, (), rfl, trivial, by rw [ht]; exact hP9, va_K.moved hW.alike hK9, hD9⟩, hS.F ht⟩) hS.2.2 dX2_stepsOfRound_85
      · have hP := hPy_6
        have hD := hDy_6
        have hS := hSy_6
        have hl := hly_6
        have hK := hKy_6
        refine va_aldA (i := 2) hx hb hK hP 2 1 rfl rfl (vp_in_iff.mpr ⟨by decide, by decide⟩) dX2_stepsOfRound_77 ?_
        refine W.eq (g2 := F0 m 78 ls (.ref hr2 :: .int sp :: [])) (by rw [show wS (2 : Int32).toNatClampNeg = some hr2 from hq2]; rfl) ?_
        refine lv_iload_n hx hb dX2_stepsOfRound_78 rfl (lv_at hl 5 rfl) ?_
        refine va_iald hx hb hK hP 5 4 rfl rfl (i_in rfl (by omega) (by omega)) dX2_stepsOfRound_79 ?_
        refine lv_topi (fun v_11 ev_11 => ?_)
        refine lv_iadd hx hb dX2_stepsOfRound_80 ?_
        refine lv_topi (fun x_12 ex_12 => ?_)
        refine lv_goto (tgt := 85) hx hb dX2_stepsOfRound_81 (by decide) ?_
        have hP9 := hP.sub (ws' := [(ho, .inr (2, [.ref hob, .ref hoo, .ref hos])), (hoo, .inl (hoko, 5, .inl wO)), (hos, .inl (hoks, 5, .inr (.inr (.inr (.inr wS))))), (hr0, .inl (hkr0, 25, .inl wR0)), (hr1, .inl (hkr1, 25, .inl wR1)), (hr2, .inl (hkr2, 25, .inl wR2)), (hr3, .inl (hkr3, 25, .inl wR3)), (hr4, .inl (hkr4, 25, .inl wR4)), (gd, .inr (0, [.ref pl, .int gdl, .long gdh, .long gdw, .int gdi, .int gde, .int gdc, .ref gdt, .int gdg, .ref gdu, .int gdn, .ref gdx])), (gdu, .inl (gdku, 5, .inl gdU))]) [0, 1, 2, 3, 4, 5, 6, 7, 8, 9] rfl
        have hD9 := hD.sub (ws' := [(ho, .inr (2, [.ref hob, .ref hoo, .ref hos])), (hoo, .inl (hoko, 5, .inl wO)), (hos, .inl (hoks, 5, .inr (.inr (.inr (.inr wS))))), (hr0, .inl (hkr0, 25, .inl wR0)), (hr1, .inl (hkr1, 25, .inl wR1)), (hr2, .inl (hkr2, 25, .inl wR2)), (hr3, .inl (hkr3, 25, .inl wR3)), (hr4, .inl (hkr4, 25, .inl wR4)), (gd, .inr (0, [.ref pl, .int gdl, .long gdh, .long gdw, .int gdi, .int gde, .int gdc, .ref gdt, .int gdg, .ref gdu, .int gdn, .ref gdx])), (gdu, .inl (gdku, 5, .inl gdU))]) [0, 1, 2, 3, 4, 5, 6, 7, 8, 9] (by decide) rfl
        have hK9 := hK.sub (tys' := []) [] rfl
        refine W.widen (k := 0) (n := 0) (by omega) (by omega) ?_
        exact W.iret (v := x_12) hx hb hr (fun t ht hW => ⟨⟨x_12, (), rfl, trivial, by rw [ht]; exact hP9, va_K.moved hW.alike hK9, hD9⟩, hS.F ht⟩) hS.2.2 dX2_stepsOfRound_85
      · have hP := hPy_6
        have hD := hDy_6
        have hS := hSy_6
        have hl := hly_6
        have hK := hKy_6
        refine va_aldA (i := 3) hx hb hK hP 2 1 rfl rfl (vp_in_iff.mpr ⟨by decide, by decide⟩) dX2_stepsOfRound_77 ?_
        refine W.eq (g2 := F0 m 78 ls (.ref hr3 :: .int sp :: [])) (by rw [show wS (3 : Int32).toNatClampNeg = some hr3 from hq3]; rfl) ?_
        refine lv_iload_n hx hb dX2_stepsOfRound_78 rfl (lv_at hl 5 rfl) ?_
        refine va_iald hx hb hK hP 6 5 rfl rfl (i_in rfl (by omega) (by omega)) dX2_stepsOfRound_79 ?_
        refine lv_topi (fun v_13 ev_13 => ?_)
        refine lv_iadd hx hb dX2_stepsOfRound_80 ?_
        refine lv_topi (fun x_14 ex_14 => ?_)
        refine lv_goto (tgt := 85) hx hb dX2_stepsOfRound_81 (by decide) ?_
        have hP9 := hP.sub (ws' := [(ho, .inr (2, [.ref hob, .ref hoo, .ref hos])), (hoo, .inl (hoko, 5, .inl wO)), (hos, .inl (hoks, 5, .inr (.inr (.inr (.inr wS))))), (hr0, .inl (hkr0, 25, .inl wR0)), (hr1, .inl (hkr1, 25, .inl wR1)), (hr2, .inl (hkr2, 25, .inl wR2)), (hr3, .inl (hkr3, 25, .inl wR3)), (hr4, .inl (hkr4, 25, .inl wR4)), (gd, .inr (0, [.ref pl, .int gdl, .long gdh, .long gdw, .int gdi, .int gde, .int gdc, .ref gdt, .int gdg, .ref gdu, .int gdn, .ref gdx])), (gdu, .inl (gdku, 5, .inl gdU))]) [0, 1, 2, 3, 4, 5, 6, 7, 8, 9] rfl
        have hD9 := hD.sub (ws' := [(ho, .inr (2, [.ref hob, .ref hoo, .ref hos])), (hoo, .inl (hoko, 5, .inl wO)), (hos, .inl (hoks, 5, .inr (.inr (.inr (.inr wS))))), (hr0, .inl (hkr0, 25, .inl wR0)), (hr1, .inl (hkr1, 25, .inl wR1)), (hr2, .inl (hkr2, 25, .inl wR2)), (hr3, .inl (hkr3, 25, .inl wR3)), (hr4, .inl (hkr4, 25, .inl wR4)), (gd, .inr (0, [.ref pl, .int gdl, .long gdh, .long gdw, .int gdi, .int gde, .int gdc, .ref gdt, .int gdg, .ref gdu, .int gdn, .ref gdx])), (gdu, .inl (gdku, 5, .inl gdU))]) [0, 1, 2, 3, 4, 5, 6, 7, 8, 9] (by decide) rfl
        have hK9 := hK.sub (tys' := []) [] rfl
        refine W.widen (k := 0) (n := 0) (by omega) (by omega) ?_
        exact W.iret (v := x_14) hx hb hr (fun t ht hW => ⟨⟨x_14, (), rfl, trivial, by rw [ht]; exact hP9, va_K.moved hW.alike hK9, hD9⟩, hS.F ht⟩) hS.2.2 dX2_stepsOfRound_85
      · have hP := hPy_6
        have hD := hDy_6
        have hS := hSy_6
        have hl := hly_6
        have hK := hKy_6
        refine va_aldA (i := 4) hx hb hK hP 2 1 rfl rfl (vp_in_iff.mpr ⟨by decide, by decide⟩) dX2_stepsOfRound_77 ?_
        refine W.eq (g2 := F0 m 78 ls (.ref hr4 :: .int sp :: [])) (by rw [show wS (4 : Int32).toNatClampNeg = some hr4 from hq4]; rfl) ?_
        refine lv_iload_n hx hb dX2_stepsOfRound_78 rfl (lv_at hl 5 rfl) ?_
        refine va_iald hx hb hK hP 7 6 rfl rfl (i_in rfl (by omega) (by omega)) dX2_stepsOfRound_79 ?_
        refine lv_topi (fun v_15 ev_15 => ?_)
        refine lv_iadd hx hb dX2_stepsOfRound_80 ?_
        refine lv_topi (fun x_16 ex_16 => ?_)
        refine lv_goto (tgt := 85) hx hb dX2_stepsOfRound_81 (by decide) ?_
        have hP9 := hP.sub (ws' := [(ho, .inr (2, [.ref hob, .ref hoo, .ref hos])), (hoo, .inl (hoko, 5, .inl wO)), (hos, .inl (hoks, 5, .inr (.inr (.inr (.inr wS))))), (hr0, .inl (hkr0, 25, .inl wR0)), (hr1, .inl (hkr1, 25, .inl wR1)), (hr2, .inl (hkr2, 25, .inl wR2)), (hr3, .inl (hkr3, 25, .inl wR3)), (hr4, .inl (hkr4, 25, .inl wR4)), (gd, .inr (0, [.ref pl, .int gdl, .long gdh, .long gdw, .int gdi, .int gde, .int gdc, .ref gdt, .int gdg, .ref gdu, .int gdn, .ref gdx])), (gdu, .inl (gdku, 5, .inl gdU))]) [0, 1, 2, 3, 4, 5, 6, 7, 8, 9] rfl
        have hD9 := hD.sub (ws' := [(ho, .inr (2, [.ref hob, .ref hoo, .ref hos])), (hoo, .inl (hoko, 5, .inl wO)), (hos, .inl (hoks, 5, .inr (.inr (.inr (.inr wS))))), (hr0, .inl (hkr0, 25, .inl wR0)), (hr1, .inl (hkr1, 25, .inl wR1)), (hr2, .inl (hkr2, 25, .inl wR2)), (hr3, .inl (hkr3, 25, .inl wR3)), (hr4, .inl (hkr4, 25, .inl wR4)), (gd, .inr (0, [.ref pl, .int gdl, .long gdh, .long gdw, .int gdi, .int gde, .int gdc, .ref gdt, .int gdg, .ref gdu, .int gdn, .ref gdx])), (gdu, .inl (gdku, 5, .inl gdU))]) [0, 1, 2, 3, 4, 5, 6, 7, 8, 9] (by decide) rfl
        have hK9 := hK.sub (tys' := []) [] rfl
        refine W.widen (k := 0) (n := 0) (by omega) (by omega) ?_
        exact W.iret (v := x_16) hx hb hr (fun t ht hW => ⟨⟨x_16, (), rfl, trivial, by rw [ht]; exact hP9, va_K.moved hW.alike hK9, hD9⟩, hS.F ht⟩) hS.2.2 dX2_stepsOfRound_85
  · have c_1 : i1.toInt < gdg.toInt := i_nle (a := gdg) (b := i1) rfl rfl c_1
    refine lv_aload_n hx hb dX2_stepsOfRound_17 rfl (lv_at hl 3 rfl) ?_
    refine va_get (D := (dC, dI)) (ci := 2) (v := .ref hoo) (C := RX2) (T := TX2) (N := 3) hx hb hts in_X2_stepsOfRound_X2 hown hK hP 0 rfl rfl 1 (by decide) (hts _ wd_X2_stepsOfRound_2) (fun _ h9 => h9) rfl dX2_stepsOfRound_18 ?_
    refine lv_iload hx hb dX2_stepsOfRound_21 (lv_at hl 0 rfl) ?_
    have hin_17 : vp_in i1 5 := (i_in rfl (by omega) (by omega))
    refine va_iald hx hb hK hP 1 0 rfl rfl hin_17 dX2_stepsOfRound_23 ?_
    refine lv_topi (fun v_18 ev_18 => ?_)
    have hv_18 := RG.at hR_hoo hin_17 ev_18
    refine lv_istore (lv' := [(6, .int v_18), (5, .int i1), (4, .int at9), (3, .int sp), (0, .ref ho), (1, .ref gd), (2, .int p0)]) hx hb dX2_stepsOfRound_24 hl (by decide) rfl (fun ls hl => ?_)
    refine lv_iload_n hx hb dX2_stepsOfRound_26 rfl (lv_at hl 3 rfl) ?_
    refine lv_aload_n hx hb dX2_stepsOfRound_27 rfl (lv_at hl 4 rfl) ?_
    refine va_get (D := (dC, dI)) (ci := 2) (v := .ref hos) (C := RX2) (T := TX2) (N := 3) hx hb hts in_X2_stepsOfRound_X2 hown hK hP 0 rfl rfl 2 (by decide) (hts _ wd_X2_stepsOfRound_1) (fun _ h9 => h9) rfl dX2_stepsOfRound_28 ?_
    refine lv_iload hx hb dX2_stepsOfRound_31 (lv_at hl 0 rfl) ?_
    have hPy_19 := hP
    have hDy_19 := hD
    have hSy_19 := hS
    have hly_19 := hl
    have hKy_19 := hK
    rcases (i_five (a := v_18) (by omega) (by omega) : v_18 = 0 ∨ v_18 = 1 ∨ v_18 = 2 ∨ v_18 = 3 ∨ v_18 = 4) with rfl | rfl | rfl | rfl | rfl
    · have hP := hPy_19
      have hD := hDy_19
      have hS := hSy_19
      have hl := hly_19
      have hK := hKy_19
      refine va_aldA (i := 0) hx hb hK hP 2 1 rfl rfl (vp_in_iff.mpr ⟨by decide, by decide⟩) dX2_stepsOfRound_33 ?_
      refine W.eq (g2 := F0 m 34 ls (.ref hr0 :: .int sp :: [])) (by rw [show wS (0 : Int32).toNatClampNeg = some hr0 from hq0]; rfl) ?_
      refine lv_iload hx hb dX2_stepsOfRound_34 (lv_at hl 2 rfl) ?_
      refine va_iald hx hb hK hP 3 2 rfl rfl (i_in rfl (by omega) (by omega)) dX2_stepsOfRound_36 ?_
      refine lv_topi (fun v_20 ev_20 => ?_)
      refine lv_iadd hx hb dX2_stepsOfRound_37 ?_
      refine lv_topi (fun x_21 ex_21 => ?_)
      refine lv_istore_n (lv' := [(3, .int x_21), (6, .int 0), (5, .int i1), (4, .int at9), (0, .ref ho), (1, .ref gd), (2, .int p0)]) hx hb dX2_stepsOfRound_38 rfl hl (by decide) rfl (fun ls hl => ?_)
      refine lv_aload_n hx hb dX2_stepsOfRound_39 rfl (lv_at hl 5 rfl) ?_
      refine va_get (D := (dC, dI)) (ci := 0) (v := .ref gdu) (C := RX0) (T := TX0) (N := 12) hx hb hts in_X2_stepsOfRound_X0 hown hK hP 8 rfl rfl 9 (by decide) (hts _ wd_X2_stepsOfRound_3) (fun _ h9 => h9) rfl dX2_stepsOfRound_40 ?_
      refine lv_iload hx hb dX2_stepsOfRound_43 (lv_at hl 1 rfl) ?_
      have hin_22 : vp_in ((0 : Int32)) 5 := (vp_in_iff.mpr ⟨by decide, by decide⟩)
      refine va_iald hx hb hK hP 9 7 rfl rfl hin_22 dX2_stepsOfRound_45 ?_
      refine lv_topi (fun v_23 ev_23 => ?_)
      have hv_23 := RG.at hR_gdu hin_22 ev_23
      refine lv_istore (lv' := [(4, .int v_23), (3, .int x_21), (6, .int 0), (5, .int i1), (0, .ref ho), (1, .ref gd), (2, .int p0)]) hx hb dX2_stepsOfRound_46 hl (by decide) rfl (fun ls hl => ?_)
      obtain ⟨x_24, ex_24⟩ : ∃ y9 : Int32, y9 = i1 + Int32.ofInt 1 := ⟨_, rfl⟩
      have zx_24 : x_24.toInt = i1.toInt + 1 := by rw [ex_24]; exact i_add rfl (show (Int32.ofInt 1).toInt = 1 by decide) (by omega) (by omega)
      refine lv_iinc (v := x_24) (lv' := [(5, .int x_24), (4, .int v_23), (3, .int x_21), (6, .int 0), (0, .ref ho), (1, .ref gd), (2, .int p0)]) hx hb dX2_stepsOfRound_48 hl (k := 3) rfl (by rw [ex_24]) (by decide) rfl (fun ls hl => ?_)
      refine lv_goto (tgt := 8) hx hb dX2_stepsOfRound_51 (by decide) ?_
      exact ih8 (x_24, x_21, v_23) _ _ _ ⟨(by have k0 : (0 : Int32).toInt = 0 := (by decide); have k1 : (1 : Int32).toInt = 1 := (by decide); have k2 : (2 : Int32).toInt = 2 := (by decide); have k3 : (3 : Int32).toInt = 3 := (by decide); have k4 : (4 : Int32).toInt = 4 := (by decide); (try dsimp only); omega), (by have k0 : (0 : Int32).toInt = 0 := (by decide); have k1 : (1 : Int32).toInt = 1 := (by decide); have k2 : (2 : Int32).toInt = 2 := (by decide); have k3 : (3 : Int32).toInt = 3 := (by decide); have k4 : (4 : Int32).toInt = 4 := (by decide); (try dsimp only); omega), hP.sub [0, 1, 2, 3, 4, 5, 6, 7, 8, 9] rfl, hD.sub [0, 1, 2, 3, 4, 5, 6, 7, 8, 9] (by decide) rfl, hS, lv_sub hl [0, 1, 2, 4, 5, 6] rfl⟩ (by have k0 : (0 : Int32).toInt = 0 := (by decide); have k1 : (1 : Int32).toInt = 1 := (by decide); have k2 : (2 : Int32).toInt = 2 := (by decide); have k3 : (3 : Int32).toInt = 3 := (by decide); have k4 : (4 : Int32).toInt = 4 := (by decide); (try dsimp only); omega)
    · have hP := hPy_19
      have hD := hDy_19
      have hS := hSy_19
      have hl := hly_19
      have hK := hKy_19
      refine va_aldA (i := 1) hx hb hK hP 2 1 rfl rfl (vp_in_iff.mpr ⟨by decide, by decide⟩) dX2_stepsOfRound_33 ?_
      refine W.eq (g2 := F0 m 34 ls (.ref hr1 :: .int sp :: [])) (by rw [show wS (1 : Int32).toNatClampNeg = some hr1 from hq1]; rfl) ?_
      refine lv_iload hx hb dX2_stepsOfRound_34 (lv_at hl 2 rfl) ?_
      refine va_iald hx hb hK hP 4 3 rfl rfl (i_in rfl (by omega) (by omega)) dX2_stepsOfRound_36 ?_
      refine lv_topi (fun v_25 ev_25 => ?_)
      refine lv_iadd hx hb dX2_stepsOfRound_37 ?_
      refine lv_topi (fun x_26 ex_26 => ?_)
      refine lv_istore_n (lv' := [(3, .int x_26), (6, .int 1), (5, .int i1), (4, .int at9), (0, .ref ho), (1, .ref gd), (2, .int p0)]) hx hb dX2_stepsOfRound_38 rfl hl (by decide) rfl (fun ls hl => ?_)
      refine lv_aload_n hx hb dX2_stepsOfRound_39 rfl (lv_at hl 5 rfl) ?_
      refine va_get (D := (dC, dI)) (ci := 0) (v := .ref gdu) (C := RX0) (T := TX0) (N := 12) hx hb hts in_X2_stepsOfRound_X0 hown hK hP 8 rfl rfl 9 (by decide) (hts _ wd_X2_stepsOfRound_3) (fun _ h9 => h9) rfl dX2_stepsOfRound_40 ?_
      refine lv_iload hx hb dX2_stepsOfRound_43 (lv_at hl 1 rfl) ?_
      have hin_27 : vp_in ((1 : Int32)) 5 := (vp_in_iff.mpr ⟨by decide, by decide⟩)
      refine va_iald hx hb hK hP 9 7 rfl rfl hin_27 dX2_stepsOfRound_45 ?_
      refine lv_topi (fun v_28 ev_28 => ?_)
      have hv_28 := RG.at hR_gdu hin_27 ev_28
      refine lv_istore (lv' := [(4, .int v_28), (3, .int x_26), (6, .int 1), (5, .int i1), (0, .ref ho), (1, .ref gd), (2, .int p0)]) hx hb dX2_stepsOfRound_46 hl (by decide) rfl (fun ls hl => ?_)
      obtain ⟨x_29, ex_29⟩ : ∃ y9 : Int32, y9 = i1 + Int32.ofInt 1 := ⟨_, rfl⟩
      have zx_29 : x_29.toInt = i1.toInt + 1 := by rw [ex_29]; exact i_add rfl (show (Int32.ofInt 1).toInt = 1 by decide) (by omega) (by omega)
      refine lv_iinc (v := x_29) (lv' := [(5, .int x_29), (4, .int v_28), (3, .int x_26), (6, .int 1), (0, .ref ho), (1, .ref gd), (2, .int p0)]) hx hb dX2_stepsOfRound_48 hl (k := 3) rfl (by rw [ex_29]) (by decide) rfl (fun ls hl => ?_)
      refine lv_goto (tgt := 8) hx hb dX2_stepsOfRound_51 (by decide) ?_
      exact ih8 (x_29, x_26, v_28) _ _ _ ⟨(by have k0 : (0 : Int32).toInt = 0 := (by decide); have k1 : (1 : Int32).toInt = 1 := (by decide); have k2 : (2 : Int32).toInt = 2 := (by decide); have k3 : (3 : Int32).toInt = 3 := (by decide); have k4 : (4 : Int32).toInt = 4 := (by decide); (try dsimp only); omega), (by have k0 : (0 : Int32).toInt = 0 := (by decide); have k1 : (1 : Int32).toInt = 1 := (by decide); have k2 : (2 : Int32).toInt = 2 := (by decide); have k3 : (3 : Int32).toInt = 3 := (by decide); have k4 : (4 : Int32).toInt = 4 := (by decide); (try dsimp only); omega), hP.sub [0, 1, 2, 3, 4, 5, 6, 7, 8, 9] rfl, hD.sub [0, 1, 2, 3, 4, 5, 6, 7, 8, 9] (by decide) rfl, hS, lv_sub hl [0, 1, 2, 4, 5, 6] rfl⟩ (by have k0 : (0 : Int32).toInt = 0 := (by decide); have k1 : (1 : Int32).toInt = 1 := (by decide); have k2 : (2 : Int32).toInt = 2 := (by decide); have k3 : (3 : Int32).toInt = 3 := (by decide); have k4 : (4 : Int32).toInt = 4 := (by decide); (try dsimp only); omega)
    · have hP := hPy_19
      have hD := hDy_19
      have hS := hSy_19
      have hl := hly_19
      have hK := hKy_19
      refine va_aldA (i := 2) hx hb hK hP 2 1 rfl rfl (vp_in_iff.mpr ⟨by decide, by decide⟩) dX2_stepsOfRound_33 ?_
      refine W.eq (g2 := F0 m 34 ls (.ref hr2 :: .int sp :: [])) (by rw [show wS (2 : Int32).toNatClampNeg = some hr2 from hq2]; rfl) ?_
      refine lv_iload hx hb dX2_stepsOfRound_34 (lv_at hl 2 rfl) ?_
      refine va_iald hx hb hK hP 5 4 rfl rfl (i_in rfl (by omega) (by omega)) dX2_stepsOfRound_36 ?_
      refine lv_topi (fun v_30 ev_30 => ?_)
      refine lv_iadd hx hb dX2_stepsOfRound_37 ?_
      refine lv_topi (fun x_31 ex_31 => ?_)
      refine lv_istore_n (lv' := [(3, .int x_31), (6, .int 2), (5, .int i1), (4, .int at9), (0, .ref ho), (1, .ref gd), (2, .int p0)]) hx hb dX2_stepsOfRound_38 rfl hl (by decide) rfl (fun ls hl => ?_)
      refine lv_aload_n hx hb dX2_stepsOfRound_39 rfl (lv_at hl 5 rfl) ?_
      refine va_get (D := (dC, dI)) (ci := 0) (v := .ref gdu) (C := RX0) (T := TX0) (N := 12) hx hb hts in_X2_stepsOfRound_X0 hown hK hP 8 rfl rfl 9 (by decide) (hts _ wd_X2_stepsOfRound_3) (fun _ h9 => h9) rfl dX2_stepsOfRound_40 ?_
      refine lv_iload hx hb dX2_stepsOfRound_43 (lv_at hl 1 rfl) ?_
      have hin_32 : vp_in ((2 : Int32)) 5 := (vp_in_iff.mpr ⟨by decide, by decide⟩)
      refine va_iald hx hb hK hP 9 7 rfl rfl hin_32 dX2_stepsOfRound_45 ?_
      refine lv_topi (fun v_33 ev_33 => ?_)
      have hv_33 := RG.at hR_gdu hin_32 ev_33
      refine lv_istore (lv' := [(4, .int v_33), (3, .int x_31), (6, .int 2), (5, .int i1), (0, .ref ho), (1, .ref gd), (2, .int p0)]) hx hb dX2_stepsOfRound_46 hl (by decide) rfl (fun ls hl => ?_)
      obtain ⟨x_34, ex_34⟩ : ∃ y9 : Int32, y9 = i1 + Int32.ofInt 1 := ⟨_, rfl⟩
      have zx_34 : x_34.toInt = i1.toInt + 1 := by rw [ex_34]; exact i_add rfl (show (Int32.ofInt 1).toInt = 1 by decide) (by omega) (by omega)
      refine lv_iinc (v := x_34) (lv' := [(5, .int x_34), (4, .int v_33), (3, .int x_31), (6, .int 2), (0, .ref ho), (1, .ref gd), (2, .int p0)]) hx hb dX2_stepsOfRound_48 hl (k := 3) rfl (by rw [ex_34]) (by decide) rfl (fun ls hl => ?_)
      refine lv_goto (tgt := 8) hx hb dX2_stepsOfRound_51 (by decide) ?_
      exact ih8 (x_34, x_31, v_33) _ _ _ ⟨(by have k0 : (0 : Int32).toInt = 0 := (by decide); have k1 : (1 : Int32).toInt = 1 := (by decide); have k2 : (2 : Int32).toInt = 2 := (by decide); have k3 : (3 : Int32).toInt = 3 := (by decide); have k4 : (4 : Int32).toInt = 4 := (by decide); (try dsimp only); omega), (by have k0 : (0 : Int32).toInt = 0 := (by decide); have k1 : (1 : Int32).toInt = 1 := (by decide); have k2 : (2 : Int32).toInt = 2 := (by decide); have k3 : (3 : Int32).toInt = 3 := (by decide); have k4 : (4 : Int32).toInt = 4 := (by decide); (try dsimp only); omega), hP.sub [0, 1, 2, 3, 4, 5, 6, 7, 8, 9] rfl, hD.sub [0, 1, 2, 3, 4, 5, 6, 7, 8, 9] (by decide) rfl, hS, lv_sub hl [0, 1, 2, 4, 5, 6] rfl⟩ (by have k0 : (0 : Int32).toInt = 0 := (by decide); have k1 : (1 : Int32).toInt = 1 := (by decide); have k2 : (2 : Int32).toInt = 2 := (by decide); have k3 : (3 : Int32).toInt = 3 := (by decide); have k4 : (4 : Int32).toInt = 4 := (by decide); (try dsimp only); omega)
    · have hP := hPy_19
      have hD := hDy_19
      have hS := hSy_19
      have hl := hly_19
      have hK := hKy_19
      refine va_aldA (i := 3) hx hb hK hP 2 1 rfl rfl (vp_in_iff.mpr ⟨by decide, by decide⟩) dX2_stepsOfRound_33 ?_
      refine W.eq (g2 := F0 m 34 ls (.ref hr3 :: .int sp :: [])) (by rw [show wS (3 : Int32).toNatClampNeg = some hr3 from hq3]; rfl) ?_
      refine lv_iload hx hb dX2_stepsOfRound_34 (lv_at hl 2 rfl) ?_
      refine va_iald hx hb hK hP 6 5 rfl rfl (i_in rfl (by omega) (by omega)) dX2_stepsOfRound_36 ?_
      refine lv_topi (fun v_35 ev_35 => ?_)
      refine lv_iadd hx hb dX2_stepsOfRound_37 ?_
      refine lv_topi (fun x_36 ex_36 => ?_)
      refine lv_istore_n (lv' := [(3, .int x_36), (6, .int 3), (5, .int i1), (4, .int at9), (0, .ref ho), (1, .ref gd), (2, .int p0)]) hx hb dX2_stepsOfRound_38 rfl hl (by decide) rfl (fun ls hl => ?_)
      refine lv_aload_n hx hb dX2_stepsOfRound_39 rfl (lv_at hl 5 rfl) ?_
      refine va_get (D := (dC, dI)) (ci := 0) (v := .ref gdu) (C := RX0) (T := TX0) (N := 12) hx hb hts in_X2_stepsOfRound_X0 hown hK hP 8 rfl rfl 9 (by decide) (hts _ wd_X2_stepsOfRound_3) (fun _ h9 => h9) rfl dX2_stepsOfRound_40 ?_
      refine lv_iload hx hb dX2_stepsOfRound_43 (lv_at hl 1 rfl) ?_
      have hin_37 : vp_in ((3 : Int32)) 5 := (vp_in_iff.mpr ⟨by decide, by decide⟩)
      refine va_iald hx hb hK hP 9 7 rfl rfl hin_37 dX2_stepsOfRound_45 ?_
      refine lv_topi (fun v_38 ev_38 => ?_)
      have hv_38 := RG.at hR_gdu hin_37 ev_38
      refine lv_istore (lv' := [(4, .int v_38), (3, .int x_36), (6, .int 3), (5, .int i1), (0, .ref ho), (1, .ref gd), (2, .int p0)]) hx hb dX2_stepsOfRound_46 hl (by decide) rfl (fun ls hl => ?_)
      obtain ⟨x_39, ex_39⟩ : ∃ y9 : Int32, y9 = i1 + Int32.ofInt 1 := ⟨_, rfl⟩
      have zx_39 : x_39.toInt = i1.toInt + 1 := by rw [ex_39]; exact i_add rfl (show (Int32.ofInt 1).toInt = 1 by decide) (by omega) (by omega)
      refine lv_iinc (v := x_39) (lv' := [(5, .int x_39), (4, .int v_38), (3, .int x_36), (6, .int 3), (0, .ref ho), (1, .ref gd), (2, .int p0)]) hx hb dX2_stepsOfRound_48 hl (k := 3) rfl (by rw [ex_39]) (by decide) rfl (fun ls hl => ?_)
      refine lv_goto (tgt := 8) hx hb dX2_stepsOfRound_51 (by decide) ?_
      exact ih8 (x_39, x_36, v_38) _ _ _ ⟨(by have k0 : (0 : Int32).toInt = 0 := (by decide); have k1 : (1 : Int32).toInt = 1 := (by decide); have k2 : (2 : Int32).toInt = 2 := (by decide); have k3 : (3 : Int32).toInt = 3 := (by decide); have k4 : (4 : Int32).toInt = 4 := (by decide); (try dsimp only); omega), (by have k0 : (0 : Int32).toInt = 0 := (by decide); have k1 : (1 : Int32).toInt = 1 := (by decide); have k2 : (2 : Int32).toInt = 2 := (by decide); have k3 : (3 : Int32).toInt = 3 := (by decide); have k4 : (4 : Int32).toInt = 4 := (by decide); (try dsimp only); omega), hP.sub [0, 1, 2, 3, 4, 5, 6, 7, 8, 9] rfl, hD.sub [0, 1, 2, 3, 4, 5, 6, 7, 8, 9] (by decide) rfl, hS, lv_sub hl [0, 1, 2, 4, 5, 6] rfl⟩ (by have k0 : (0 : Int32).toInt = 0 := (by decide); have k1 : (1 : Int32).toInt = 1 := (by decide); have k2 : (2 : Int32).toInt = 2 := (by decide); have k3 : (3 : Int32).toInt = 3 := (by decide); have k4 : (4 : Int32).toInt = 4 := (by decide); (try dsimp only); omega)
    · have hP := hPy_19
      have hD := hDy_19
      have hS := hSy_19
      have hl := hly_19
      have hK := hKy_19
      refine va_aldA (i := 4) hx hb hK hP 2 1 rfl rfl (vp_in_iff.mpr ⟨by decide, by decide⟩) dX2_stepsOfRound_33 ?_
      refine W.eq (g2 := F0 m 34 ls (.ref hr4 :: .int sp :: [])) (by rw [show wS (4 : Int32).toNatClampNeg = some hr4 from hq4]; rfl) ?_
      refine lv_iload hx hb dX2_stepsOfRound_34 (lv_at hl 2 rfl) ?_
      refine va_iald hx hb hK hP 7 6 rfl rfl (i_in rfl (by omega) (by omega)) dX2_stepsOfRound_36 ?_
      refine lv_topi (fun v_40 ev_40 => ?_)
      refine lv_iadd hx hb dX2_stepsOfRound_37 ?_
      refine lv_topi (fun x_41 ex_41 => ?_)
      refine lv_istore_n (lv' := [(3, .int x_41), (6, .int 4), (5, .int i1), (4, .int at9), (0, .ref ho), (1, .ref gd), (2, .int p0)]) hx hb dX2_stepsOfRound_38 rfl hl (by decide) rfl (fun ls hl => ?_)
      refine lv_aload_n hx hb dX2_stepsOfRound_39 rfl (lv_at hl 5 rfl) ?_
      refine va_get (D := (dC, dI)) (ci := 0) (v := .ref gdu) (C := RX0) (T := TX0) (N := 12) hx hb hts in_X2_stepsOfRound_X0 hown hK hP 8 rfl rfl 9 (by decide) (hts _ wd_X2_stepsOfRound_3) (fun _ h9 => h9) rfl dX2_stepsOfRound_40 ?_
      refine lv_iload hx hb dX2_stepsOfRound_43 (lv_at hl 1 rfl) ?_
      have hin_42 : vp_in ((4 : Int32)) 5 := (vp_in_iff.mpr ⟨by decide, by decide⟩)
      refine va_iald hx hb hK hP 9 7 rfl rfl hin_42 dX2_stepsOfRound_45 ?_
      refine lv_topi (fun v_43 ev_43 => ?_)
      have hv_43 := RG.at hR_gdu hin_42 ev_43
      refine lv_istore (lv' := [(4, .int v_43), (3, .int x_41), (6, .int 4), (5, .int i1), (0, .ref ho), (1, .ref gd), (2, .int p0)]) hx hb dX2_stepsOfRound_46 hl (by decide) rfl (fun ls hl => ?_)
      obtain ⟨x_44, ex_44⟩ : ∃ y9 : Int32, y9 = i1 + Int32.ofInt 1 := ⟨_, rfl⟩
      have zx_44 : x_44.toInt = i1.toInt + 1 := by rw [ex_44]; exact i_add rfl (show (Int32.ofInt 1).toInt = 1 by decide) (by omega) (by omega)
      refine lv_iinc (v := x_44) (lv' := [(5, .int x_44), (4, .int v_43), (3, .int x_41), (6, .int 4), (0, .ref ho), (1, .ref gd), (2, .int p0)]) hx hb dX2_stepsOfRound_48 hl (k := 3) rfl (by rw [ex_44]) (by decide) rfl (fun ls hl => ?_)
      refine lv_goto (tgt := 8) hx hb dX2_stepsOfRound_51 (by decide) ?_
      exact ih8 (x_44, x_41, v_43) _ _ _ ⟨(by have k0 : (0 : Int32).toInt = 0 := (by decide); have k1 : (1 : Int32).toInt = 1 := (by decide); have k2 : (2 : Int32).toInt = 2 := (by decide); have k3 : (3 : Int32).toInt = 3 := (by decide); have k4 : (4 : Int32).toInt = 4 := (by decide); (try dsimp only); omega), (by have k0 : (0 : Int32).toInt = 0 := (by decide); have k1 : (1 : Int32).toInt = 1 := (by decide); have k2 : (2 : Int32).toInt = 2 := (by decide); have k3 : (3 : Int32).toInt = 3 := (by decide); have k4 : (4 : Int32).toInt = 4 := (by decide); (try dsimp only); omega), hP.sub [0, 1, 2, 3, 4, 5, 6, 7, 8, 9] rfl, hD.sub [0, 1, 2, 3, 4, 5, 6, 7, 8, 9] (by decide) rfl, hS, lv_sub hl [0, 1, 2, 4, 5, 6] rfl⟩ (by have k0 : (0 : Int32).toInt = 0 := (by decide); have k1 : (1 : Int32).toInt = 1 := (by decide); have k2 : (2 : Int32).toInt = 2 := (by decide); have k3 : (3 : Int32).toInt = 3 := (by decide); have k4 : (4 : Int32).toInt = 4 := (by decide); (try dsimp only); omega)

theorem dX2_exchange_0 : decode cX2_exchange 0 = .ok (.aload_n 0, 1) := by decide +kernel
theorem dX2_exchange_1 : decode cX2_exchange 1 = .ok (.getfield 15, 3) := by decide +kernel
theorem dX2_exchange_4 : decode cX2_exchange 4 = .ok (.iload_n 1, 1) := by decide +kernel
theorem dX2_exchange_5 : decode cX2_exchange 5 = .ok (.iaload, 1) := by decide +kernel
theorem dX2_exchange_6 : decode cX2_exchange 6 = .ok (.istore_n 3, 1) := by decide +kernel
theorem dX2_exchange_7 : decode cX2_exchange 7 = .ok (.aload_n 0, 1) := by decide +kernel
theorem dX2_exchange_8 : decode cX2_exchange 8 = .ok (.getfield 15, 3) := by decide +kernel
theorem dX2_exchange_11 : decode cX2_exchange 11 = .ok (.iload_n 1, 1) := by decide +kernel
theorem dX2_exchange_12 : decode cX2_exchange 12 = .ok (.aload_n 0, 1) := by decide +kernel
theorem dX2_exchange_13 : decode cX2_exchange 13 = .ok (.getfield 15, 3) := by decide +kernel
theorem dX2_exchange_16 : decode cX2_exchange 16 = .ok (.iload_n 2, 1) := by decide +kernel
theorem dX2_exchange_17 : decode cX2_exchange 17 = .ok (.iaload, 1) := by decide +kernel
theorem dX2_exchange_18 : decode cX2_exchange 18 = .ok (.iastore, 1) := by decide +kernel
theorem dX2_exchange_19 : decode cX2_exchange 19 = .ok (.aload_n 0, 1) := by decide +kernel
theorem dX2_exchange_20 : decode cX2_exchange 20 = .ok (.getfield 15, 3) := by decide +kernel
theorem dX2_exchange_23 : decode cX2_exchange 23 = .ok (.iload_n 2, 1) := by decide +kernel
theorem dX2_exchange_24 : decode cX2_exchange 24 = .ok (.iload_n 3, 1) := by decide +kernel
theorem dX2_exchange_25 : decode cX2_exchange 25 = .ok (.iastore, 1) := by decide +kernel
theorem dX2_exchange_26 : decode cX2_exchange 26 = .ok (.return_, 1) := by decide +kernel
def wz_X2_exchange : List Cond := .code yX2_exchange cX2_exchange 4 none :: ([Cond.fieldLink RX2 15 "HedgeMaze$Host" "order" "[I"] ++ wsX20)
theorem wd_X2_exchange_0 : Cond.fieldLink RX2 15 "HedgeMaze$Host" "order" "[I" ∈ wz_X2_exchange := List.mem_of_getElem? (i := 1) rfl
theorem in_X2_exchange_X2 : ∀ w ∈ wsX20, w ∈ wz_X2_exchange := fun _ h => List.mem_cons_of_mem _ (List.mem_append_right _ h)
set_option maxHeartbeats 4000000 in
set_option maxRecDepth 100000 in
theorem c_X2_exchange (l : Launch) (dC : Nat → ClassId) (dI : Nat → Nat → Nat) (sz : Nat) (ho : Nat) (hob : Nat) (hoo : Nat) (hos : Nat) (hoko : ClassId) (wO : Nat → Int32) (p0 : Int32) (p1 : Int32) (h_p0 : 0 ≤ p0.toInt ∧ p0.toInt ≤ 4) (h_p1 : 0 ≤ p1.toInt ∧ p1.toInt ≤ 4) (hR_hoo : RG wO 5 0 4) : Met l yX2_exchange wz_X2_exchange ({ frames := 0, cells := 0, slots := 0, locals := 0 }) (va_Pc [.ref ho, .int p0, .int p1] (fun U => U.heap.size = sz ∧ va_P (dC, dI) vwCl [(ho, .inr (2, [.ref hob, .ref hoo, .ref hos])), (hoo, .inl (hoko, 5, .inl wO))] U.heap ∧ va_K (dC, dI) vwCl [(hoko, .int)] U ∧ va_D (fun _ => True) [(ho, .inr (2, [.ref hob, .ref hoo, .ref hos])), (hoo, .inl (hoko, 5, .inl wO))])) (va_Qv (fun (u : (Nat → Int32)) => (RG u 5 0 4)) (fun (u : (Nat → Int32)) (t : State) => va_P (dC, dI) vwCl [(ho, .inr (2, [.ref hob, .ref hoo, .ref hos])), (hoo, .inl (hoko, 5, .inl u))] t.heap ∧ va_K (dC, dI) vwCl [] t ∧ va_D (va_A [(ho, .inr (2, [.ref hob, .ref hoo, .ref hos])), (hoo, .inl (hoko, 5, .inl wO))] sz) [(ho, .inr (2, [.ref hob, .ref hoo, .ref hos])), (hoo, .inl (hoko, 5, .inl u))]) (va_A [(ho, .inr (2, [.ref hob, .ref hoo, .ref hos])), (hoo, .inl (hoko, 5, .inl wO))] sz)) 0 0 (va_A [(ho, .inr (2, [.ref hob, .ref hoo, .ref hos])), (hoo, .inl (hoko, 5, .inl wO))] sz) := by
  refine Met.ofW (cc := cX2_exchange) (maxL := 4) (ret := none) (by decide) rfl ?_
  intro p e s m args below meth c s₁ B hml hv
  obtain ⟨rfl, hsz, hP, hK, hD0⟩ := hv
  have hx := B.exec
  have hb := B.bytes
  have hr := B.returns
  have hts := atoms_spec (ws := wz_X2_exchange) B.pre
  have hown : s.vm.findClass RX2 = some m.cls := findClass_of_methodNamed B.named
  have hlocks := B.notSynchronized
  subst hsz
  have hD := hD0.self (sz := s.heap.size)
  generalize hAe : va_A [(ho, .inr (2, [.ref hob, .ref hoo, .ref hos])), (hoo, .inl (hoko, 5, .inl wO))] s.heap.size = A at hD ⊢
  have hA : ∀ q : Nat, s.heap.size ≤ q → A q := fun q h => by rw [← hAe]; exact Or.inr h
  have hS : va_S A s.heap s.heap [] := va_S.rf
  have hP : va_P (dC, dI) vwCl [(ho, .inr (2, [.ref hob, .ref hoo, .ref hos])), (hoo, .inl (hoko, 5, .inl wO))] s.heap := hP
  have hl := lv_entry ([.ref ho, .int p0, .int p1]) (n := 4) (Nat.le_of_ble_eq_true rfl)
  rw [lg_entry_eq]
  generalize (lg_sl ([.ref ho, .int p0, .int p1]) ++ List.replicate (4 - (lg_sl ([.ref ho, .int p0, .int p1])).length) Slot.unset).toArray = ls at hl ⊢
  have hl : lv_has ls 4 [(0, .ref ho), (1, .int p0), (2, .int p1)] := hl
  refine lv_aload_n hx hb dX2_exchange_0 rfl (lv_at hl 0 rfl) ?_
  refine va_get (D := (dC, dI)) (ci := 2) (v := .ref hoo) (C := RX2) (T := TX2) (N := 3) hx hb hts in_X2_exchange_X2 hown hK hP 0 rfl rfl 1 (by decide) (hts _ wd_X2_exchange_0) (fun _ h9 => h9) rfl dX2_exchange_1 ?_
  refine lv_iload_n hx hb dX2_exchange_4 rfl (lv_at hl 1 rfl) ?_
  have hin_1 : vp_in p0 5 := (i_in rfl (by omega) (by omega))
  refine va_iald hx hb hK hP 1 0 rfl rfl hin_1 dX2_exchange_5 ?_
  refine lv_topi (fun v_2 ev_2 => ?_)
  have hv_2 := RG.at hR_hoo hin_1 ev_2
  refine lv_istore_n (lv' := [(3, .int v_2), (0, .ref ho), (1, .int p0), (2, .int p1)]) hx hb dX2_exchange_6 rfl hl (by decide) rfl (fun ls hl => ?_)
  refine lv_aload_n hx hb dX2_exchange_7 rfl (lv_at hl 1 rfl) ?_
  refine va_get (D := (dC, dI)) (ci := 2) (v := .ref hoo) (C := RX2) (T := TX2) (N := 3) hx hb hts in_X2_exchange_X2 hown hK hP 0 rfl rfl 1 (by decide) (hts _ wd_X2_exchange_0) (fun _ h9 => h9) rfl dX2_exchange_8 ?_
  refine lv_iload_n hx hb dX2_exchange_11 rfl (lv_at hl 2 rfl) ?_
  refine lv_aload_n hx hb dX2_exchange_12 rfl (lv_at hl 1 rfl) ?_
  refine va_get (D := (dC, dI)) (ci := 2) (v := .ref hoo) (C := RX2) (T := TX2) (N := 3) hx hb hts in_X2_exchange_X2 hown hK hP 0 rfl rfl 1 (by decide) (hts _ wd_X2_exchange_0) (fun _ h9 => h9) rfl dX2_exchange_13 ?_
  refine lv_iload_n hx hb dX2_exchange_16 rfl (lv_at hl 3 rfl) ?_
  have hin_3 : vp_in p1 5 := (i_in rfl (by omega) (by omega))
  refine va_iald hx hb hK hP 1 0 rfl rfl hin_3 dX2_exchange_17 ?_
  refine lv_topi (fun v_4 ev_4 => ?_)
  have hv_4 := RG.at hR_hoo hin_3 ev_4
  refine va_iast hx hb hK hP hD hS 1 0 rfl rfl (i_in rfl (by omega) (by omega)) dX2_exchange_18 (fun H locs hP hD hS => ?_)
  have hP : va_P (dC, dI) vwCl [(ho, .inr (2, [.ref hob, .ref hoo, .ref hos])), (hoo, .inl (hoko, 5, .inl (upd wO p0.toNatClampNeg v_4)))] H := hP
  have hD : va_D A [(ho, .inr (2, [.ref hob, .ref hoo, .ref hos])), (hoo, .inl (hoko, 5, .inl (upd wO p0.toNatClampNeg v_4)))] := hD
  have hR_5 := RG.upd hR_hoo p0.toNatClampNeg (x := v_4) rfl (by omega) (by omega)
  obtain ⟨f_6, ef_6⟩ : ∃ g, g = upd wO p0.toNatClampNeg v_4 := ⟨_, rfl⟩
  rw [← ef_6] at hP hD
  rw [← ef_6] at hR_5
  refine lv_aload_n hx hb dX2_exchange_19 rfl (lv_at hl 1 rfl) ?_
  refine va_get (D := (dC, dI)) (ci := 2) (v := .ref hoo) (C := RX2) (T := TX2) (N := 3) hx hb hts in_X2_exchange_X2 hown hK hP 0 rfl rfl 1 (by decide) (hts _ wd_X2_exchange_0) (fun _ h9 => h9) rfl dX2_exchange_20 ?_
  refine lv_iload_n hx hb dX2_exchange_23 rfl (lv_at hl 3 rfl) ?_
  refine lv_iload_n hx hb dX2_exchange_24 rfl (lv_at hl 0 rfl) ?_
  refine va_iast hx hb hK hP hD hS 1 0 rfl rfl (i_in rfl (by omega) (by omega)) dX2_exchange_25 (fun H locs hP hD hS => ?_)
  have hP : va_P (dC, dI) vwCl [(ho, .inr (2, [.ref hob, .ref hoo, .ref hos])), (hoo, .inl (hoko, 5, .inl (upd f_6 p1.toNatClampNeg v_2)))] H := hP
  have hD : va_D A [(ho, .inr (2, [.ref hob, .ref hoo, .ref hos])), (hoo, .inl (hoko, 5, .inl (upd f_6 p1.toNatClampNeg v_2)))] := hD
  have hR_7 := RG.upd hR_5 p1.toNatClampNeg (x := v_2) rfl (by omega) (by omega)
  obtain ⟨f_8, ef_8⟩ : ∃ g, g = upd f_6 p1.toNatClampNeg v_2 := ⟨_, rfl⟩
  rw [← ef_8] at hP hD
  rw [← ef_8] at hR_7
  have hP9 := hP.sub (ws' := [(ho, .inr (2, [.ref hob, .ref hoo, .ref hos])), (hoo, .inl (hoko, 5, .inl f_8))]) [0, 1] rfl
  have hD9 := hD.sub (ws' := [(ho, .inr (2, [.ref hob, .ref hoo, .ref hos])), (hoo, .inl (hoko, 5, .inl f_8))]) [0, 1] (by decide) rfl
  have hK9 := hK.sub (tys' := []) [] rfl
  refine W.widen (k := 0) (n := 0) (by omega) (by omega) ?_
  exact W.vret hx hb hr (fun t ht hW => ⟨⟨(f_8), rfl, hR_7, by rw [ht]; exact hP9, va_K.moved hW.alike hK9, hD9⟩, hS.F ht⟩) hS.2.2 dX2_exchange_26

theorem dX2_nextOrder_0 : decode cX2_nextOrder 0 = .ok (.iload_n 1, 1) := by decide +kernel
theorem dX2_nextOrder_1 : decode cX2_nextOrder 1 = .ok (.iconst 2, 1) := by decide +kernel
theorem dX2_nextOrder_2 : decode cX2_nextOrder 2 = .ok (.isub, 1) := by decide +kernel
theorem dX2_nextOrder_3 : decode cX2_nextOrder 3 = .ok (.istore_n 2, 1) := by decide +kernel
theorem dX2_nextOrder_4 : decode cX2_nextOrder 4 = .ok (.iload_n 2, 1) := by decide +kernel
theorem dX2_nextOrder_5 : decode cX2_nextOrder 5 = .ok (.ifCond .lt 26, 3) := by decide +kernel
theorem dX2_nextOrder_8 : decode cX2_nextOrder 8 = .ok (.aload_n 0, 1) := by decide +kernel
theorem dX2_nextOrder_9 : decode cX2_nextOrder 9 = .ok (.getfield 15, 3) := by decide +kernel
theorem dX2_nextOrder_12 : decode cX2_nextOrder 12 = .ok (.iload_n 2, 1) := by decide +kernel
theorem dX2_nextOrder_13 : decode cX2_nextOrder 13 = .ok (.iaload, 1) := by decide +kernel
theorem dX2_nextOrder_14 : decode cX2_nextOrder 14 = .ok (.aload_n 0, 1) := by decide +kernel
theorem dX2_nextOrder_15 : decode cX2_nextOrder 15 = .ok (.getfield 15, 3) := by decide +kernel
theorem dX2_nextOrder_18 : decode cX2_nextOrder 18 = .ok (.iload_n 2, 1) := by decide +kernel
theorem dX2_nextOrder_19 : decode cX2_nextOrder 19 = .ok (.iconst 1, 1) := by decide +kernel
theorem dX2_nextOrder_20 : decode cX2_nextOrder 20 = .ok (.iadd, 1) := by decide +kernel
theorem dX2_nextOrder_21 : decode cX2_nextOrder 21 = .ok (.iaload, 1) := by decide +kernel
theorem dX2_nextOrder_22 : decode cX2_nextOrder 22 = .ok (.if_icmp .le 9, 3) := by decide +kernel
theorem dX2_nextOrder_25 : decode cX2_nextOrder 25 = .ok (.iinc 2 (-1), 3) := by decide +kernel
theorem dX2_nextOrder_28 : decode cX2_nextOrder 28 = .ok (.goto (-24), 3) := by decide +kernel
theorem dX2_nextOrder_31 : decode cX2_nextOrder 31 = .ok (.iload_n 2, 1) := by decide +kernel
theorem dX2_nextOrder_32 : decode cX2_nextOrder 32 = .ok (.ifCond .ge 5, 3) := by decide +kernel
theorem dX2_nextOrder_35 : decode cX2_nextOrder 35 = .ok (.iconst 0, 1) := by decide +kernel
theorem dX2_nextOrder_36 : decode cX2_nextOrder 36 = .ok (.ireturn, 1) := by decide +kernel
theorem dX2_nextOrder_37 : decode cX2_nextOrder 37 = .ok (.iload_n 1, 1) := by decide +kernel
theorem dX2_nextOrder_38 : decode cX2_nextOrder 38 = .ok (.iconst 1, 1) := by decide +kernel
theorem dX2_nextOrder_39 : decode cX2_nextOrder 39 = .ok (.isub, 1) := by decide +kernel
theorem dX2_nextOrder_40 : decode cX2_nextOrder 40 = .ok (.istore_n 3, 1) := by decide +kernel
theorem dX2_nextOrder_41 : decode cX2_nextOrder 41 = .ok (.iload_n 3, 1) := by decide +kernel
theorem dX2_nextOrder_42 : decode cX2_nextOrder 42 = .ok (.iload_n 2, 1) := by decide +kernel
theorem dX2_nextOrder_43 : decode cX2_nextOrder 43 = .ok (.if_icmp .le 24, 3) := by decide +kernel
theorem dX2_nextOrder_46 : decode cX2_nextOrder 46 = .ok (.aload_n 0, 1) := by decide +kernel
theorem dX2_nextOrder_47 : decode cX2_nextOrder 47 = .ok (.getfield 15, 3) := by decide +kernel
theorem dX2_nextOrder_50 : decode cX2_nextOrder 50 = .ok (.iload_n 3, 1) := by decide +kernel
theorem dX2_nextOrder_51 : decode cX2_nextOrder 51 = .ok (.iaload, 1) := by decide +kernel
theorem dX2_nextOrder_52 : decode cX2_nextOrder 52 = .ok (.aload_n 0, 1) := by decide +kernel
theorem dX2_nextOrder_53 : decode cX2_nextOrder 53 = .ok (.getfield 15, 3) := by decide +kernel
theorem dX2_nextOrder_56 : decode cX2_nextOrder 56 = .ok (.iload_n 2, 1) := by decide +kernel
theorem dX2_nextOrder_57 : decode cX2_nextOrder 57 = .ok (.iaload, 1) := by decide +kernel
theorem dX2_nextOrder_58 : decode cX2_nextOrder 58 = .ok (.if_icmp .ge 9, 3) := by decide +kernel
theorem dX2_nextOrder_61 : decode cX2_nextOrder 61 = .ok (.iinc 3 (-1), 3) := by decide +kernel
theorem dX2_nextOrder_64 : decode cX2_nextOrder 64 = .ok (.goto (-23), 3) := by decide +kernel
theorem dX2_nextOrder_67 : decode cX2_nextOrder 67 = .ok (.aload_n 0, 1) := by decide +kernel
theorem dX2_nextOrder_68 : decode cX2_nextOrder 68 = .ok (.iload_n 2, 1) := by decide +kernel
theorem dX2_nextOrder_69 : decode cX2_nextOrder 69 = .ok (.iload_n 3, 1) := by decide +kernel
theorem dX2_nextOrder_70 : decode cX2_nextOrder 70 = .ok (.invokevirtual 76, 3) := by decide +kernel
theorem dX2_nextOrder_73 : decode cX2_nextOrder 73 = .ok (.iload_n 2, 1) := by decide +kernel
theorem dX2_nextOrder_74 : decode cX2_nextOrder 74 = .ok (.iconst 1, 1) := by decide +kernel
theorem dX2_nextOrder_75 : decode cX2_nextOrder 75 = .ok (.iadd, 1) := by decide +kernel
theorem dX2_nextOrder_76 : decode cX2_nextOrder 76 = .ok (.istore 4, 2) := by decide +kernel
theorem dX2_nextOrder_78 : decode cX2_nextOrder 78 = .ok (.iload_n 1, 1) := by decide +kernel
theorem dX2_nextOrder_79 : decode cX2_nextOrder 79 = .ok (.iconst 1, 1) := by decide +kernel
theorem dX2_nextOrder_80 : decode cX2_nextOrder 80 = .ok (.isub, 1) := by decide +kernel
theorem dX2_nextOrder_81 : decode cX2_nextOrder 81 = .ok (.istore 5, 2) := by decide +kernel
theorem dX2_nextOrder_83 : decode cX2_nextOrder 83 = .ok (.iload 4, 2) := by decide +kernel
theorem dX2_nextOrder_85 : decode cX2_nextOrder 85 = .ok (.iload 5, 2) := by decide +kernel
theorem dX2_nextOrder_87 : decode cX2_nextOrder 87 = .ok (.if_icmp .ge 20, 3) := by decide +kernel
theorem dX2_nextOrder_90 : decode cX2_nextOrder 90 = .ok (.aload_n 0, 1) := by decide +kernel
theorem dX2_nextOrder_91 : decode cX2_nextOrder 91 = .ok (.iload 4, 2) := by decide +kernel
theorem dX2_nextOrder_93 : decode cX2_nextOrder 93 = .ok (.iload 5, 2) := by decide +kernel
theorem dX2_nextOrder_95 : decode cX2_nextOrder 95 = .ok (.invokevirtual 76, 3) := by decide +kernel
theorem dX2_nextOrder_98 : decode cX2_nextOrder 98 = .ok (.iinc 4 1, 3) := by decide +kernel
theorem dX2_nextOrder_101 : decode cX2_nextOrder 101 = .ok (.iinc 5 (-1), 3) := by decide +kernel
theorem dX2_nextOrder_104 : decode cX2_nextOrder 104 = .ok (.goto (-21), 3) := by decide +kernel
theorem dX2_nextOrder_107 : decode cX2_nextOrder 107 = .ok (.iconst 1, 1) := by decide +kernel
theorem dX2_nextOrder_108 : decode cX2_nextOrder 108 = .ok (.ireturn, 1) := by decide +kernel
def wz_X2_nextOrder : List Cond := .code yX2_nextOrder cX2_nextOrder 6 (some .boolean) :: ([Cond.fieldLink RX2 15 "HedgeMaze$Host" "order" "[I", Cond.methodLink RX2 76 yX2_exchange, Cond.instanceMethod yX2_exchange, Cond.selects RX2 yX2_exchange yX2_exchange, Cond.initialized RX2, Cond.code yX2_exchange cX2_exchange 4 none] ++ wsX20)
theorem wd_X2_nextOrder_0 : Cond.fieldLink RX2 15 "HedgeMaze$Host" "order" "[I" ∈ wz_X2_nextOrder := List.mem_of_getElem? (i := 1) rfl
theorem in_X2_nextOrder_X2 : ∀ w ∈ wsX20, w ∈ wz_X2_nextOrder := fun _ h => List.mem_cons_of_mem _ (List.mem_append_right _ h)
set_option maxRecDepth 20000 in
theorem g_X2_nextOrder_X2_exchange : GoodIn wz_X2_nextOrder (wsV RX2 76 RX2 yX2_exchange wz_X2_exchange) := goodIn_r _ [2, 3, 4, 5, 6, 1, 7, 8, 9] rfl (by decide +kernel)
set_option maxHeartbeats 4000000 in
set_option maxRecDepth 100000 in
theorem c_X2_nextOrder (l : Launch) (dC : Nat → ClassId) (dI : Nat → Nat → Nat) (sz : Nat) (ho : Nat) (hob : Nat) (hoo : Nat) (hos : Nat) (hoko : ClassId) (wO : Nat → Int32) (p0 : Int32) (h_p0 : 0 ≤ p0.toInt ∧ p0.toInt ≤ 5) (hR_hoo : RG wO 5 0 4) : Met l yX2_nextOrder wz_X2_nextOrder ({ frames := 1, cells := 0, slots := 0, locals := 23 }) (va_Pc [.ref ho, .int p0] (fun U => U.heap.size = sz ∧ va_P (dC, dI) vwCl [(ho, .inr (2, [.ref hob, .ref hoo, .ref hos])), (hoo, .inl (hoko, 5, .inl wO))] U.heap ∧ va_K (dC, dI) vwCl [(hoko, .int)] U ∧ va_D (fun _ => True) [(ho, .inr (2, [.ref hob, .ref hoo, .ref hos])), (hoo, .inl (hoko, 5, .inl wO))])) (va_Qi (fun (r : Int32) (u : (Nat → Int32)) => (r = 0 ∨ r = 1) ∧ (RG u 5 0 4)) (fun (u : (Nat → Int32)) (t : State) => va_P (dC, dI) vwCl [(ho, .inr (2, [.ref hob, .ref hoo, .ref hos])), (hoo, .inl (hoko, 5, .inl u))] t.heap ∧ va_K (dC, dI) vwCl [] t ∧ va_D (va_A [(ho, .inr (2, [.ref hob, .ref hoo, .ref hos])), (hoo, .inl (hoko, 5, .inl wO))] sz) [(ho, .inr (2, [.ref hob, .ref hoo, .ref hos])), (hoo, .inl (hoko, 5, .inl u))]) (va_A [(ho, .inr (2, [.ref hob, .ref hoo, .ref hos])), (hoo, .inl (hoko, 5, .inl wO))] sz)) 0 0 (va_A [(ho, .inr (2, [.ref hob, .ref hoo, .ref hos])), (hoo, .inl (hoko, 5, .inl wO))] sz) := by
  refine Met.ofW (cc := cX2_nextOrder) (maxL := 6) (ret := (some .boolean)) (by decide) rfl ?_
  intro p e s m args below meth c s₁ B hml hv
  obtain ⟨rfl, hsz, hP, hK, hD0⟩ := hv
  have hx := B.exec
  have hb := B.bytes
  have hr := B.returns
  have hts := atoms_spec (ws := wz_X2_nextOrder) B.pre
  have hown : s.vm.findClass RX2 = some m.cls := findClass_of_methodNamed B.named
  have hlocks := B.notSynchronized
  subst hsz
  have hD := hD0.self (sz := s.heap.size)
  generalize hAe : va_A [(ho, .inr (2, [.ref hob, .ref hoo, .ref hos])), (hoo, .inl (hoko, 5, .inl wO))] s.heap.size = A at hD ⊢
  have hA : ∀ q : Nat, s.heap.size ≤ q → A q := fun q h => by rw [← hAe]; exact Or.inr h
  have hS : va_S A s.heap s.heap [] := va_S.rf
  have hP : va_P (dC, dI) vwCl [(ho, .inr (2, [.ref hob, .ref hoo, .ref hos])), (hoo, .inl (hoko, 5, .inl wO))] s.heap := hP
  have hl := lv_entry ([.ref ho, .int p0]) (n := 6) (Nat.le_of_ble_eq_true rfl)
  rw [lg_entry_eq]
  generalize (lg_sl ([.ref ho, .int p0]) ++ List.replicate (6 - (lg_sl ([.ref ho, .int p0])).length) Slot.unset).toArray = ls at hl ⊢
  have hl : lv_has ls 6 [(0, .ref ho), (1, .int p0)] := hl
  refine lv_iload_n hx hb dX2_nextOrder_0 rfl (lv_at hl 1 rfl) ?_
  refine lv_iconst (v := 2) hx hb dX2_nextOrder_1 (by decide) ?_
  refine lv_isub hx hb dX2_nextOrder_2 ?_
  refine lv_topi (fun x_1 ex_1 => ?_)
  have zx_1 : x_1.toInt = p0.toInt - 2 := by rw [ex_1]; exact i_sub rfl (by decide) (by omega) (by omega)
  refine lv_istore_n (lv' := [(2, .int x_1), (0, .ref ho), (1, .int p0)]) hx hb dX2_nextOrder_3 rfl hl (by decide) rfl (fun ls hl => ?_)
  refine lp_W (I := fun (a : Int32) H locs ls => (-2 ≤ a.toInt ∧ a.toInt ≤ p0.toInt - 2) ∧ va_P (dC, dI) vwCl [(ho, .inr (2, [.ref hob, .ref hoo, .ref hos])), (hoo, .inl (hoko, 5, .inl wO))] H ∧ va_D A [(ho, .inr (2, [.ref hob, .ref hoo, .ref hos])), (hoo, .inl (hoko, 5, .inl wO))] ∧ va_S A s.heap H locs ∧ lv_has ls 6 [(2, .int a), (0, .ref ho), (1, .int p0)]) (μ := fun a => (a.toInt + 2).toNat) ?_ (x_1) ⟨(by (try dsimp only); omega), hP.sub [0, 1] rfl, hD.sub [0, 1] (by decide) rfl, hS, lv_sub hl [0, 1, 2] rfl⟩
  intro a H locs ls hI ih4
  obtain ⟨pc1, rfl⟩ : ∃ z, z = a := ⟨_, rfl⟩
  obtain ⟨h_pc, hP, hD, hS, hl⟩ := hI
  have h_pc : -2 ≤ pc1.toInt ∧ pc1.toInt ≤ p0.toInt - 2 := h_pc
  have hP : va_P (dC, dI) vwCl [(ho, .inr (2, [.ref hob, .ref hoo, .ref hos])), (hoo, .inl (hoko, 5, .inl wO))] H := hP
  have hD : va_D A [(ho, .inr (2, [.ref hob, .ref hoo, .ref hos])), (hoo, .inl (hoko, 5, .inl wO))] := hD
  have hl : lv_has ls 6 [(2, .int pc1), (0, .ref ho), (1, .int p0)] := hl
  refine lv_iload_n hx hb dX2_nextOrder_4 rfl (lv_at hl 0 rfl) ?_
  refine lv_if_lt (tgt := 31) hx hb dX2_nextOrder_5 (by decide) (fun c_2 => ?_) (fun c_2 => ?_)
  · have c_2 : pc1.toInt < 0 := i_lt (a := pc1) (b := 0) rfl (by decide) c_2
    refine lv_iload_n hx hb dX2_nextOrder_31 rfl (lv_at hl 0 rfl) ?_
    refine lv_if_ge (tgt := 37) hx hb dX2_nextOrder_32 (by decide) (fun c_3 => ?_) (fun c_3 => ?_)
    · have c_3 : 0 ≤ pc1.toInt := i_le (a := 0) (b := pc1) (by decide) rfl c_3
      refine lv_iload_n hx hb dX2_nextOrder_37 rfl (lv_at hl 2 rfl) ?_
      refine lv_iconst (v := 1) hx hb dX2_nextOrder_38 (by decide) ?_
      refine lv_isub hx hb dX2_nextOrder_39 ?_
      refine lv_topi (fun x_4 ex_4 => ?_)
      have zx_4 : x_4.toInt = p0.toInt - 1 := by rw [ex_4]; exact i_sub rfl (by decide) (by omega) (by omega)
      refine lv_istore_n (lv' := [(3, .int x_4), (2, .int pc1), (0, .ref ho), (1, .int p0)]) hx hb dX2_nextOrder_40 rfl hl (by decide) rfl (fun ls hl => ?_)
      refine lp_W (I := fun (a : Int32) H locs ls => (0 ≤ a.toInt ∧ a.toInt ≤ 4) ∧ va_P (dC, dI) vwCl [(ho, .inr (2, [.ref hob, .ref hoo, .ref hos])), (hoo, .inl (hoko, 5, .inl wO))] H ∧ va_D A [(ho, .inr (2, [.ref hob, .ref hoo, .ref hos])), (hoo, .inl (hoko, 5, .inl wO))] ∧ va_S A s.heap H locs ∧ lv_has ls 6 [(3, .int a), (2, .int pc1), (0, .ref ho), (1, .int p0)]) (μ := fun a => (a.toInt + 1).toNat) ?_ (x_4) ⟨(by (try dsimp only); omega), hP.sub [0, 1] rfl, hD.sub [0, 1] (by decide) rfl, hS, lv_sub hl [0, 1, 2, 3] rfl⟩
      intro a H locs ls hI ih41
      obtain ⟨gt1, rfl⟩ : ∃ z, z = a := ⟨_, rfl⟩
      obtain ⟨h_gt, hP, hD, hS, hl⟩ := hI
      have h_gt : 0 ≤ gt1.toInt ∧ gt1.toInt ≤ 4 := h_gt
      have hP : va_P (dC, dI) vwCl [(ho, .inr (2, [.ref hob, .ref hoo, .ref hos])), (hoo, .inl (hoko, 5, .inl wO))] H := hP
      have hD : va_D A [(ho, .inr (2, [.ref hob, .ref hoo, .ref hos])), (hoo, .inl (hoko, 5, .inl wO))] := hD
      have hl : lv_has ls 6 [(3, .int gt1), (2, .int pc1), (0, .ref ho), (1, .int p0)] := hl
      refine lv_iload_n hx hb dX2_nextOrder_41 rfl (lv_at hl 0 rfl) ?_
      refine lv_iload_n hx hb dX2_nextOrder_42 rfl (lv_at hl 1 rfl) ?_
      refine lv_icmp_le (tgt := 67) hx hb dX2_nextOrder_43 (by decide) (fun c_5 => ?_) (fun c_5 => ?_)
      · have c_5 : gt1.toInt ≤ pc1.toInt := i_le (a := gt1) (b := pc1) rfl rfl c_5
        refine lv_aload_n hx hb dX2_nextOrder_67 rfl (lv_at hl 2 rfl) ?_
        refine lv_iload_n hx hb dX2_nextOrder_68 rfl (lv_at hl 1 rfl) ?_
        refine lv_iload_n hx hb dX2_nextOrder_69 rfl (lv_at hl 0 rfl) ?_
        have hPc := hP.sub (ws' := [(ho, .inr (2, [.ref hob, .ref hoo, .ref hos])), (hoo, .inl (hoko, 5, .inl wO))]) [0, 1] rfl
        have hDc := hD.sub (ws' := [(ho, .inr (2, [.ref hob, .ref hoo, .ref hos])), (hoo, .inl (hoko, 5, .inl wO))]) [0, 1] (by decide) rfl
        have hKc := hK.sub (tys' := [(hoko, .int)]) [0] rfl
        have hFc := va_free (wc := [(ho, .inr (2, [.ref hob, .ref hoo, .ref hos])), (hoo, .inl (hoko, 5, .inl wO))]) hD hS hA [0, 1] rfl
        refine va_callv (va_runV (As := [.int pc1, .int gt1]) (rest := []) ⟨hx, hb, hml, hown, hts⟩ (c_X2_exchange l dC dI H.size ho hob hoo hos hoko wO pc1 gt1 (by omega) (by omega) hR_hoo) (cwV 2 hts g_X2_nextOrder_X2_exchange rfl rfl rfl (by decide +kernel) ⟨Nat.le_of_ble_eq_true rfl, Nat.le_of_ble_eq_true rfl⟩) ⟨fun a U g mk q => by obtain ⟨q0, q1, qP, qK, qD⟩ := q; exact ⟨q0, q1, qP, va_K.moved (u := U) (U := U.calling g mk a) (Vm.Alike.refl U.vm) qK, qD⟩, va_recv hKc hPc (ci := 2) (q0 := 0) rfl rfl, fun U hU hW => ⟨rfl, by rw [hU], by rw [hU]; exact hPc, va_K.moved hW.alike hKc, hDc.weaken (fun _ _ _ _ => trivial)⟩⟩ rfl rfl hl.1 rfl (lv_room (Nat.le_of_ble_eq_true rfl)) dX2_nextOrder_70 ⟨Nat.le_of_ble_eq_true rfl, Nat.le_of_ble_eq_true rfl⟩) hS (fun q _ h => hFc q h) hFc (fun u t H1 locs ht hvm hw_6 hB hz1 hk1 hS => ?_)
        obtain ⟨nO_7, rfl⟩ : ∃ z, z = u := ⟨_, rfl⟩
        obtain ⟨hP1, hK1, hD1⟩ := hB
        have hP1 : va_P (dC, dI) vwCl [(ho, .inr (2, [.ref hob, .ref hoo, .ref hos])), (hoo, .inl (hoko, 5, .inl nO_7))] t.heap := hP1
        rw [ht] at hP1
        try dsimp only at hw_6
        obtain ⟨hP, hD⟩ := va_join (wr := []) (w1 := [(ho, .inr (2, [.ref hob, .ref hoo, .ref hos])), (hoo, .inl (hoko, 5, .inl nO_7))]) hP hD [0, 1] [] rfl rfl (by decide) (by decide) hk1 hFc hP1 hD1
        generalize H1 = H at hP hS ⊢
        have hP : va_P (dC, dI) vwCl [(ho, .inr (2, [.ref hob, .ref hoo, .ref hos])), (hoo, .inl (hoko, 5, .inl nO_7))] H := hP
        have hD : va_D A [(ho, .inr (2, [.ref hob, .ref hoo, .ref hos])), (hoo, .inl (hoko, 5, .inl nO_7))] := hD
        refine lv_iload_n hx hb dX2_nextOrder_73 rfl (lv_at hl 1 rfl) ?_
        refine lv_iconst (v := 1) hx hb dX2_nextOrder_74 (by decide) ?_
        refine lv_iadd hx hb dX2_nextOrder_75 ?_
        refine lv_topi (fun x_8 ex_8 => ?_)
        have zx_8 : x_8.toInt = pc1.toInt + 1 := by rw [ex_8]; exact i_add rfl (by decide) (by omega) (by omega)
        refine lv_istore (lv' := [(4, .int x_8), (3, .int gt1), (2, .int pc1), (0, .ref ho), (1, .int p0)]) hx hb dX2_nextOrder_76 hl (by decide) rfl (fun ls hl => ?_)
        refine lv_iload_n hx hb dX2_nextOrder_78 rfl (lv_at hl 4 rfl) ?_
        refine lv_iconst (v := 1) hx hb dX2_nextOrder_79 (by decide) ?_
        refine lv_isub hx hb dX2_nextOrder_80 ?_
        refine lv_topi (fun x_9 ex_9 => ?_)
        have zx_9 : x_9.toInt = p0.toInt - 1 := by rw [ex_9]; exact i_sub rfl (by decide) (by omega) (by omega)
        refine lv_istore (lv' := [(5, .int x_9), (4, .int x_8), (3, .int gt1), (2, .int pc1), (0, .ref ho), (1, .int p0)]) hx hb dX2_nextOrder_81 hl (by decide) rfl (fun ls hl => ?_)
        refine lp_W (I := fun (a : Int32 × Int32 × (Nat → Int32)) H locs ls => (0 ≤ a.1.toInt ∧ a.1.toInt ≤ 5) ∧ (-1 ≤ a.2.1.toInt ∧ a.2.1.toInt ≤ 4) ∧ (RG a.2.2 5 0 4) ∧ va_P (dC, dI) vwCl [(ho, .inr (2, [.ref hob, .ref hoo, .ref hos])), (hoo, .inl (hoko, 5, .inl a.2.2))] H ∧ va_D A [(ho, .inr (2, [.ref hob, .ref hoo, .ref hos])), (hoo, .inl (hoko, 5, .inl a.2.2))] ∧ va_S A s.heap H locs ∧ lv_has ls 6 [(5, .int a.2.1), (4, .int a.1), (3, .int gt1), (2, .int pc1), (0, .ref ho), (1, .int p0)]) (μ := fun a => (a.2.1.toInt - a.1.toInt + 10).toNat) ?_ (x_8, x_9, nO_7) ⟨(by (try dsimp only); omega), (by (try dsimp only); omega), hw_6, hP.sub [0, 1] rfl, hD.sub [0, 1] (by decide) rfl, hS, lv_sub hl [0, 1, 2, 3, 4, 5] rfl⟩
        intro a H locs ls hI ih83
        obtain ⟨lf, rg, O3⟩ := a
        obtain ⟨h_lf, h_rg, hO3, hP, hD, hS, hl⟩ := hI
        have h_lf : 0 ≤ lf.toInt ∧ lf.toInt ≤ 5 := h_lf
        have h_rg : -1 ≤ rg.toInt ∧ rg.toInt ≤ 4 := h_rg
        have hO3 : RG O3 5 0 4 := hO3
        have hP : va_P (dC, dI) vwCl [(ho, .inr (2, [.ref hob, .ref hoo, .ref hos])), (hoo, .inl (hoko, 5, .inl O3))] H := hP
        have hD : va_D A [(ho, .inr (2, [.ref hob, .ref hoo, .ref hos])), (hoo, .inl (hoko, 5, .inl O3))] := hD
        have hl : lv_has ls 6 [(5, .int rg), (4, .int lf), (3, .int gt1), (2, .int pc1), (0, .ref ho), (1, .int p0)] := hl
        refine lv_iload hx hb dX2_nextOrder_83 (lv_at hl 1 rfl) ?_
        refine lv_iload hx hb dX2_nextOrder_85 (lv_at hl 0 rfl) ?_
        refine lv_icmp_ge (tgt := 107) hx hb dX2_nextOrder_87 (by decide) (fun c_10 => ?_) (fun c_10 => ?_)
        · have c_10 : rg.toInt ≤ lf.toInt := i_le (a := rg) (b := lf) rfl rfl c_10
          refine lv_iconst (v := 1) hx hb dX2_nextOrder_107 (by decide) ?_
          have hP9 := hP.sub (ws' := [(ho, .inr (2, [.ref hob, .ref hoo, .ref hos])), (hoo, .inl (hoko, 5, .inl O3))]) [0, 1] rfl
          have hD9 := hD.sub (ws' := [(ho, .inr (2, [.ref hob, .ref hoo, .ref hos])), (hoo, .inl (hoko, 5, .inl O3))]) [0, 1] (by decide) rfl
          have hK9 := hK.sub (tys' := []) [] rfl
          refine W.widen (k := 0) (n := 0) (by omega) (by omega) ?_
          exact W.zret (v := 1) hx hb hr (by decide) (fun t ht hW => ⟨⟨1, (O3), rfl, ⟨(by have k0 : (1 : Int32).toInt = 1 := (by decide); first | rfl | trivial | (dsimp only; omega) | omega | (left; rfl) | (right; rfl) | (dsimp only; first | (left; rfl) | (right; rfl))), hO3⟩, by rw [ht]; exact hP9, va_K.moved hW.alike hK9, hD9⟩, hS.F ht⟩) hS.2.2 dX2_nextOrder_108
        · have c_10 : lf.toInt < rg.toInt := i_nle (a := rg) (b := lf) rfl rfl c_10
          refine lv_aload_n hx hb dX2_nextOrder_90 rfl (lv_at hl 4 rfl) ?_
          refine lv_iload hx hb dX2_nextOrder_91 (lv_at hl 1 rfl) ?_
          refine lv_iload hx hb dX2_nextOrder_93 (lv_at hl 0 rfl) ?_
          have hPc := hP.sub (ws' := [(ho, .inr (2, [.ref hob, .ref hoo, .ref hos])), (hoo, .inl (hoko, 5, .inl O3))]) [0, 1] rfl
          have hDc := hD.sub (ws' := [(ho, .inr (2, [.ref hob, .ref hoo, .ref hos])), (hoo, .inl (hoko, 5, .inl O3))]) [0, 1] (by decide) rfl
          have hKc := hK.sub (tys' := [(hoko, .int)]) [0] rfl
          have hFc := va_free (wc := [(ho, .inr (2, [.ref hob, .ref hoo, .ref hos])), (hoo, .inl (hoko, 5, .inl O3))]) hD hS hA [0, 1] rfl
          refine va_callv (va_runV (As := [.int lf, .int rg]) (rest := []) ⟨hx, hb, hml, hown, hts⟩ (c_X2_exchange l dC dI H.size ho hob hoo hos hoko O3 lf rg (by omega) (by omega) hO3) (cwV 2 hts g_X2_nextOrder_X2_exchange rfl rfl rfl (by decide +kernel) ⟨Nat.le_of_ble_eq_true rfl, Nat.le_of_ble_eq_true rfl⟩) ⟨fun a U g mk q => by obtain ⟨q0, q1, qP, qK, qD⟩ := q; exact ⟨q0, q1, qP, va_K.moved (u := U) (U := U.calling g mk a) (Vm.Alike.refl U.vm) qK, qD⟩, va_recv hKc hPc (ci := 2) (q0 := 0) rfl rfl, fun U hU hW => ⟨rfl, by rw [hU], by rw [hU]; exact hPc, va_K.moved hW.alike hKc, hDc.weaken (fun _ _ _ _ => trivial)⟩⟩ rfl rfl hl.1 rfl (lv_room (Nat.le_of_ble_eq_true rfl)) dX2_nextOrder_95 ⟨Nat.le_of_ble_eq_true rfl, Nat.le_of_ble_eq_true rfl⟩) hS (fun q _ h => hFc q h) hFc (fun u t H1 locs ht hvm hw_11 hB hz1 hk1 hS => ?_)
          obtain ⟨nO_12, rfl⟩ : ∃ z, z = u := ⟨_, rfl⟩
          obtain ⟨hP1, hK1, hD1⟩ := hB
          have hP1 : va_P (dC, dI) vwCl [(ho, .inr (2, [.ref hob, .ref hoo, .ref hos])), (hoo, .inl (hoko, 5, .inl nO_12))] t.heap := hP1
          rw [ht] at hP1
          try dsimp only at hw_11
          obtain ⟨hP, hD⟩ := va_join (wr := []) (w1 := [(ho, .inr (2, [.ref hob, .ref hoo, .ref hos])), (hoo, .inl (hoko, 5, .inl nO_12))]) hP hD [0, 1] [] rfl rfl (by decide) (by decide) hk1 hFc hP1 hD1
          generalize H1 = H at hP hS ⊢
          have hP : va_P (dC, dI) vwCl [(ho, .inr (2, [.ref hob, .ref hoo, .ref hos])), (hoo, .inl (hoko, 5, .inl nO_12))] H := hP
          have hD : va_D A [(ho, .inr (2, [.ref hob, .ref hoo, .ref hos])), (hoo, .inl (hoko, 5, .inl nO_12))] := hD
          obtain ⟨x_13, ex_13⟩ : ∃ y9 : Int32, y9 = lf + Int32.ofInt 1 := ⟨_, rfl⟩
          have zx_13 : x_13.toInt = lf.toInt + 1 := by rw [ex_13]; exact i_add rfl (show (Int32.ofInt 1).toInt = 1 by decide) (by omega) (by omega)
          refine lv_iinc (v := x_13) (lv' := [(4, .int x_13), (5, .int rg), (3, .int gt1), (2, .int pc1), (0, .ref ho), (1, .int p0)]) hx hb dX2_nextOrder_98 hl (k := 1) rfl (by rw [ex_13]) (by decide) rfl (fun ls hl => ?_)
          obtain ⟨x_14, ex_14⟩ : ∃ y9 : Int32, y9 = rg + Int32.ofInt (-1) := ⟨_, rfl⟩
          have zx_14 : x_14.toInt = rg.toInt + (-1) := by rw [ex_14]; exact i_add rfl (show (Int32.ofInt (-1)).toInt = (-1) by decide) (by omega) (by omega)
          refine lv_iinc (v := x_14) (lv' := [(5, .int x_14), (4, .int x_13), (3, .int gt1), (2, .int pc1), (0, .ref ho), (1, .int p0)]) hx hb dX2_nextOrder_101 hl (k := 1) rfl (by rw [ex_14]) (by decide) rfl (fun ls hl => ?_)
          refine lv_goto (tgt := 83) hx hb dX2_nextOrder_104 (by decide) ?_
          exact ih83 (x_13, x_14, nO_12) _ _ _ ⟨(by (try dsimp only); omega), (by (try dsimp only); omega), hw_11, hP.sub [0, 1] rfl, hD.sub [0, 1] (by decide) rfl, hS, lv_sub hl [0, 1, 2, 3, 4, 5] rfl⟩ (by (try dsimp only); omega)
      · have c_5 : pc1.toInt < gt1.toInt := i_nle (a := gt1) (b := pc1) rfl rfl c_5
        refine lv_aload_n hx hb dX2_nextOrder_46 rfl (lv_at hl 2 rfl) ?_
        refine va_get (D := (dC, dI)) (ci := 2) (v := .ref hoo) (C := RX2) (T := TX2) (N := 3) hx hb hts in_X2_nextOrder_X2 hown hK hP 0 rfl rfl 1 (by decide) (hts _ wd_X2_nextOrder_0) (fun _ h9 => h9) rfl dX2_nextOrder_47 ?_
        refine lv_iload_n hx hb dX2_nextOrder_50 rfl (lv_at hl 0 rfl) ?_
        have hin_15 : vp_in gt1 5 := (i_in rfl (by omega) (by omega))
        refine va_iald hx hb hK hP 1 0 rfl rfl hin_15 dX2_nextOrder_51 ?_
        refine lv_topi (fun v_16 ev_16 => ?_)
        have hv_16 := RG.at hR_hoo hin_15 ev_16
        refine lv_aload_n hx hb dX2_nextOrder_52 rfl (lv_at hl 2 rfl) ?_
        refine va_get (D := (dC, dI)) (ci := 2) (v := .ref hoo) (C := RX2) (T := TX2) (N := 3) hx hb hts in_X2_nextOrder_X2 hown hK hP 0 rfl rfl 1 (by decide) (hts _ wd_X2_nextOrder_0) (fun _ h9 => h9) rfl dX2_nextOrder_53 ?_
        refine lv_iload_n hx hb dX2_nextOrder_56 rfl (lv_at hl 1 rfl) ?_
        have hin_17 : vp_in pc1 5 := (i_in rfl (by omega) (by omega))
        refine va_iald hx hb hK hP 1 0 rfl rfl hin_17 dX2_nextOrder_57 ?_
        refine lv_topi (fun v_18 ev_18 => ?_)
        have hv_18 := RG.at hR_hoo hin_17 ev_18
        refine lv_icmp_ge (tgt := 67) hx hb dX2_nextOrder_58 (by decide) (fun c_19 => ?_) (fun c_19 => ?_)
        · have c_19 : v_18.toInt ≤ v_16.toInt := i_le (a := v_18) (b := v_16) rfl rfl c_19
          refine lv_aload_n hx hb dX2_nextOrder_67 rfl (lv_at hl 2 rfl) ?_
          refine lv_iload_n hx hb dX2_nextOrder_68 rfl (lv_at hl 1 rfl) ?_
          refine lv_iload_n hx hb dX2_nextOrder_69 rfl (lv_at hl 0 rfl) ?_
          have hPc := hP.sub (ws' := [(ho, .inr (2, [.ref hob, .ref hoo, .ref hos])), (hoo, .inl (hoko, 5, .inl wO))]) [0, 1] rfl
          have hDc := hD.sub (ws' := [(ho, .inr (2, [.ref hob, .ref hoo, .ref hos])), (hoo, .inl (hoko, 5, .inl wO))]) [0, 1] (by decide) rfl
          have hKc := hK.sub (tys' := [(hoko, .int)]) [0] rfl
          have hFc := va_free (wc := [(ho, .inr (2, [.ref hob, .ref hoo, .ref hos])), (hoo, .inl (hoko, 5, .inl wO))]) hD hS hA [0, 1] rfl
          refine va_callv (va_runV (As := [.int pc1, .int gt1]) (rest := []) ⟨hx, hb, hml, hown, hts⟩ (c_X2_exchange l dC dI H.size ho hob hoo hos hoko wO pc1 gt1 (by omega) (by omega) hR_hoo) (cwV 2 hts g_X2_nextOrder_X2_exchange rfl rfl rfl (by decide +kernel) ⟨Nat.le_of_ble_eq_true rfl, Nat.le_of_ble_eq_true rfl⟩) ⟨fun a U g mk q => by obtain ⟨q0, q1, qP, qK, qD⟩ := q; exact ⟨q0, q1, qP, va_K.moved (u := U) (U := U.calling g mk a) (Vm.Alike.refl U.vm) qK, qD⟩, va_recv hKc hPc (ci := 2) (q0 := 0) rfl rfl, fun U hU hW => ⟨rfl, by rw [hU], by rw [hU]; exact hPc, va_K.moved hW.alike hKc, hDc.weaken (fun _ _ _ _ => trivial)⟩⟩ rfl rfl hl.1 rfl (lv_room (Nat.le_of_ble_eq_true rfl)) dX2_nextOrder_70 ⟨Nat.le_of_ble_eq_true rfl, Nat.le_of_ble_eq_true rfl⟩) hS (fun q _ h => hFc q h) hFc (fun u t H1 locs ht hvm hw_20 hB hz1 hk1 hS => ?_)
          obtain ⟨nO_21, rfl⟩ : ∃ z, z = u := ⟨_, rfl⟩
          obtain ⟨hP1, hK1, hD1⟩ := hB
          have hP1 : va_P (dC, dI) vwCl [(ho, .inr (2, [.ref hob, .ref hoo, .ref hos])), (hoo, .inl (hoko, 5, .inl nO_21))] t.heap := hP1
          rw [ht] at hP1
          try dsimp only at hw_20
          obtain ⟨hP, hD⟩ := va_join (wr := []) (w1 := [(ho, .inr (2, [.ref hob, .ref hoo, .ref hos])), (hoo, .inl (hoko, 5, .inl nO_21))]) hP hD [0, 1] [] rfl rfl (by decide) (by decide) hk1 hFc hP1 hD1
          generalize H1 = H at hP hS ⊢
          have hP : va_P (dC, dI) vwCl [(ho, .inr (2, [.ref hob, .ref hoo, .ref hos])), (hoo, .inl (hoko, 5, .inl nO_21))] H := hP
          have hD : va_D A [(ho, .inr (2, [.ref hob, .ref hoo, .ref hos])), (hoo, .inl (hoko, 5, .inl nO_21))] := hD
          refine lv_iload_n hx hb dX2_nextOrder_73 rfl (lv_at hl 1 rfl) ?_
          refine lv_iconst (v := 1) hx hb dX2_nextOrder_74 (by decide) ?_
          refine lv_iadd hx hb dX2_nextOrder_75 ?_
          refine lv_topi (fun x_22 ex_22 => ?_)
          have zx_22 : x_22.toInt = pc1.toInt + 1 := by rw [ex_22]; exact i_add rfl (by decide) (by omega) (by omega)
          refine lv_istore (lv' := [(4, .int x_22), (3, .int gt1), (2, .int pc1), (0, .ref ho), (1, .int p0)]) hx hb dX2_nextOrder_76 hl (by decide) rfl (fun ls hl => ?_)
          refine lv_iload_n hx hb dX2_nextOrder_78 rfl (lv_at hl 4 rfl) ?_
          refine lv_iconst (v := 1) hx hb dX2_nextOrder_79 (by decide) ?_
          refine lv_isub hx hb dX2_nextOrder_80 ?_
          refine lv_topi (fun x_23 ex_23 => ?_)
          have zx_23 : x_23.toInt = p0.toInt - 1 := by rw [ex_23]; exact i_sub rfl (by decide) (by omega) (by omega)
          refine lv_istore (lv' := [(5, .int x_23), (4, .int x_22), (3, .int gt1), (2, .int pc1), (0, .ref ho), (1, .int p0)]) hx hb dX2_nextOrder_81 hl (by decide) rfl (fun ls hl => ?_)
          refine lp_W (I := fun (a : Int32 × Int32 × (Nat → Int32)) H locs ls => (0 ≤ a.1.toInt ∧ a.1.toInt ≤ 5) ∧ (-1 ≤ a.2.1.toInt ∧ a.2.1.toInt ≤ 4) ∧ (RG a.2.2 5 0 4) ∧ va_P (dC, dI) vwCl [(ho, .inr (2, [.ref hob, .ref hoo, .ref hos])), (hoo, .inl (hoko, 5, .inl a.2.2))] H ∧ va_D A [(ho, .inr (2, [.ref hob, .ref hoo, .ref hos])), (hoo, .inl (hoko, 5, .inl a.2.2))] ∧ va_S A s.heap H locs ∧ lv_has ls 6 [(5, .int a.2.1), (4, .int a.1), (3, .int gt1), (2, .int pc1), (0, .ref ho), (1, .int p0)]) (μ := fun a => (a.2.1.toInt - a.1.toInt + 10).toNat) ?_ (x_22, x_23, nO_21) ⟨(by (try dsimp only); omega), (by (try dsimp only); omega), hw_20, hP.sub [0, 1] rfl, hD.sub [0, 1] (by decide) rfl, hS, lv_sub hl [0, 1, 2, 3, 4, 5] rfl⟩
          intro a H locs ls hI ih83
          obtain ⟨lf, rg, O3⟩ := a
          obtain ⟨h_lf, h_rg, hO3, hP, hD, hS, hl⟩ := hI
          have h_lf : 0 ≤ lf.toInt ∧ lf.toInt ≤ 5 := h_lf
          have h_rg : -1 ≤ rg.toInt ∧ rg.toInt ≤ 4 := h_rg
          have hO3 : RG O3 5 0 4 := hO3
          have hP : va_P (dC, dI) vwCl [(ho, .inr (2, [.ref hob, .ref hoo, .ref hos])), (hoo, .inl (hoko, 5, .inl O3))] H := hP
          have hD : va_D A [(ho, .inr (2, [.ref hob, .ref hoo, .ref hos])), (hoo, .inl (hoko, 5, .inl O3))] := hD
          have hl : lv_has ls 6 [(5, .int rg), (4, .int lf), (3, .int gt1), (2, .int pc1), (0, .ref ho), (1, .int p0)] := hl
          refine lv_iload hx hb dX2_nextOrder_83 (lv_at hl 1 rfl) ?_
          refine lv_iload hx hb dX2_nextOrder_85 (lv_at hl 0 rfl) ?_
          refine lv_icmp_ge (tgt := 107) hx hb dX2_nextOrder_87 (by decide) (fun c_24 => ?_) (fun c_24 => ?_)
          · have c_24 : rg.toInt ≤ lf.toInt := i_le (a := rg) (b := lf) rfl rfl c_24
            refine lv_iconst (v := 1) hx hb dX2_nextOrder_107 (by decide) ?_
            have hP9 := hP.sub (ws' := [(ho, .inr (2, [.ref hob, .ref hoo, .ref hos])), (hoo, .inl (hoko, 5, .inl O3))]) [0, 1] rfl
            have hD9 := hD.sub (ws' := [(ho, .inr (2, [.ref hob, .ref hoo, .ref hos])), (hoo, .inl (hoko, 5, .inl O3))]) [0, 1] (by decide) rfl
            have hK9 := hK.sub (tys' := []) [] rfl
            refine W.widen (k := 0) (n := 0) (by omega) (by omega) ?_
            exact W.zret (v := 1) hx hb hr (by decide) (fun t ht hW => ⟨⟨1, (O3), rfl, ⟨(by have k0 : (1 : Int32).toInt = 1 := (by decide); first | rfl | trivial | (dsimp only; omega) | omega | (left; rfl) | (right; rfl) | (dsimp only; first | (left; rfl) | (right; rfl))), hO3⟩, by rw [ht]; exact hP9, va_K.moved hW.alike hK9, hD9⟩, hS.F ht⟩) hS.2.2 dX2_nextOrder_108
          · have c_24 : lf.toInt < rg.toInt := i_nle (a := rg) (b := lf) rfl rfl c_24
            refine lv_aload_n hx hb dX2_nextOrder_90 rfl (lv_at hl 4 rfl) ?_
            refine lv_iload hx hb dX2_nextOrder_91 (lv_at hl 1 rfl) ?_
            refine lv_iload hx hb dX2_nextOrder_93 (lv_at hl 0 rfl) ?_
            have hPc := hP.sub (ws' := [(ho, .inr (2, [.ref hob, .ref hoo, .ref hos])), (hoo, .inl (hoko, 5, .inl O3))]) [0, 1] rfl
            have hDc := hD.sub (ws' := [(ho, .inr (2, [.ref hob, .ref hoo, .ref hos])), (hoo, .inl (hoko, 5, .inl O3))]) [0, 1] (by decide) rfl
            have hKc := hK.sub (tys' := [(hoko, .int)]) [0] rfl
            have hFc := va_free (wc := [(ho, .inr (2, [.ref hob, .ref hoo, .ref hos])), (hoo, .inl (hoko, 5, .inl O3))]) hD hS hA [0, 1] rfl
            refine va_callv (va_runV (As := [.int lf, .int rg]) (rest := []) ⟨hx, hb, hml, hown, hts⟩ (c_X2_exchange l dC dI H.size ho hob hoo hos hoko O3 lf rg (by omega) (by omega) hO3) (cwV 2 hts g_X2_nextOrder_X2_exchange rfl rfl rfl (by decide +kernel) ⟨Nat.le_of_ble_eq_true rfl, Nat.le_of_ble_eq_true rfl⟩) ⟨fun a U g mk q => by obtain ⟨q0, q1, qP, qK, qD⟩ := q; exact ⟨q0, q1, qP, va_K.moved (u := U) (U := U.calling g mk a) (Vm.Alike.refl U.vm) qK, qD⟩, va_recv hKc hPc (ci := 2) (q0 := 0) rfl rfl, fun U hU hW => ⟨rfl, by rw [hU], by rw [hU]; exact hPc, va_K.moved hW.alike hKc, hDc.weaken (fun _ _ _ _ => trivial)⟩⟩ rfl rfl hl.1 rfl (lv_room (Nat.le_of_ble_eq_true rfl)) dX2_nextOrder_95 ⟨Nat.le_of_ble_eq_true rfl, Nat.le_of_ble_eq_true rfl⟩) hS (fun q _ h => hFc q h) hFc (fun u t H1 locs ht hvm hw_25 hB hz1 hk1 hS => ?_)
            obtain ⟨nO_26, rfl⟩ : ∃ z, z = u := ⟨_, rfl⟩
            obtain ⟨hP1, hK1, hD1⟩ := hB
            have hP1 : va_P (dC, dI) vwCl [(ho, .inr (2, [.ref hob, .ref hoo, .ref hos])), (hoo, .inl (hoko, 5, .inl nO_26))] t.heap := hP1
            rw [ht] at hP1
            try dsimp only at hw_25
            obtain ⟨hP, hD⟩ := va_join (wr := []) (w1 := [(ho, .inr (2, [.ref hob, .ref hoo, .ref hos])), (hoo, .inl (hoko, 5, .inl nO_26))]) hP hD [0, 1] [] rfl rfl (by decide) (by decide) hk1 hFc hP1 hD1
            generalize H1 = H at hP hS ⊢
            have hP : va_P (dC, dI) vwCl [(ho, .inr (2, [.ref hob, .ref hoo, .ref hos])), (hoo, .inl (hoko, 5, .inl nO_26))] H := hP
            have hD : va_D A [(ho, .inr (2, [.ref hob, .ref hoo, .ref hos])), (hoo, .inl (hoko, 5, .inl nO_26))] := hD
            obtain ⟨x_27, ex_27⟩ : ∃ y9 : Int32, y9 = lf + Int32.ofInt 1 := ⟨_, rfl⟩
            have zx_27 : x_27.toInt = lf.toInt + 1 := by rw [ex_27]; exact i_add rfl (show (Int32.ofInt 1).toInt = 1 by decide) (by omega) (by omega)
            refine lv_iinc (v := x_27) (lv' := [(4, .int x_27), (5, .int rg), (3, .int gt1), (2, .int pc1), (0, .ref ho), (1, .int p0)]) hx hb dX2_nextOrder_98 hl (k := 1) rfl (by rw [ex_27]) (by decide) rfl (fun ls hl => ?_)
            obtain ⟨x_28, ex_28⟩ : ∃ y9 : Int32, y9 = rg + Int32.ofInt (-1) := ⟨_, rfl⟩
            have zx_28 : x_28.toInt = rg.toInt + (-1) := by rw [ex_28]; exact i_add rfl (show (Int32.ofInt (-1)).toInt = (-1) by decide) (by omega) (by omega)
            refine lv_iinc (v := x_28) (lv' := [(5, .int x_28), (4, .int x_27), (3, .int gt1), (2, .int pc1), (0, .ref ho), (1, .int p0)]) hx hb dX2_nextOrder_101 hl (k := 1) rfl (by rw [ex_28]) (by decide) rfl (fun ls hl => ?_)
            refine lv_goto (tgt := 83) hx hb dX2_nextOrder_104 (by decide) ?_
            exact ih83 (x_27, x_28, nO_26) _ _ _ ⟨(by (try dsimp only); omega), (by (try dsimp only); omega), hw_25, hP.sub [0, 1] rfl, hD.sub [0, 1] (by decide) rfl, hS, lv_sub hl [0, 1, 2, 3, 4, 5] rfl⟩ (by (try dsimp only); omega)
        · have c_19 : v_16.toInt < v_18.toInt := i_nle (a := v_18) (b := v_16) rfl rfl c_19
          obtain ⟨x_29, ex_29⟩ : ∃ y9 : Int32, y9 = gt1 + Int32.ofInt (-1) := ⟨_, rfl⟩
          have zx_29 : x_29.toInt = gt1.toInt + (-1) := by rw [ex_29]; exact i_add rfl (show (Int32.ofInt (-1)).toInt = (-1) by decide) (by omega) (by omega)
          refine lv_iinc (v := x_29) (lv' := [(3, .int x_29), (2, .int pc1), (0, .ref ho), (1, .int p0)]) hx hb dX2_nextOrder_61 hl (k := 0) rfl (by rw [ex_29]) (by decide) rfl (fun ls hl => ?_)
          refine lv_goto (tgt := 41) hx hb dX2_nextOrder_64 (by decide) ?_
          exact ih41 (x_29) _ _ _ ⟨(by (try dsimp only); omega), hP.sub [0, 1] rfl, hD.sub [0, 1] (by decide) rfl, hS, lv_sub hl [0, 1, 2, 3] rfl⟩ (by (try dsimp only); omega)
    · have c_3 : pc1.toInt < 0 := i_nle (a := 0) (b := pc1) (by decide) rfl c_3
      refine lv_iconst (v := 0) hx hb dX2_nextOrder_35 (by decide) ?_
      have hP9 := hP.sub (ws' := [(ho, .inr (2, [.ref hob, .ref hoo, .ref hos])), (hoo, .inl (hoko, 5, .inl wO))]) [0, 1] rfl
      have hD9 := hD.sub (ws' := [(ho, .inr (2, [.ref hob, .ref hoo, .ref hos])), (hoo, .inl (hoko, 5, .inl wO))]) [0, 1] (by decide) rfl
      have hK9 := hK.sub (tys' := []) [] rfl
      refine W.widen (k := 0) (n := 0) (by omega) (by omega) ?_
      exact W.zret (v := 0) hx hb hr (by decide) (fun t ht hW => ⟨⟨0, (wO), rfl, ⟨(by have k0 : (0 : Int32).toInt = 0 := (by decide); first | rfl | trivial | (dsimp only; omega) | omega | (left; rfl) | (right; rfl) | (dsimp only; first | (left; rfl) | (right; rfl))), hR_hoo⟩, by rw [ht]; exact hP9, va_K.moved hW.alike hK9, hD9⟩, hS.F ht⟩) hS.2.2 dX2_nextOrder_36
  · have c_2 : 0 ≤ pc1.toInt := i_nlt (a := pc1) (b := 0) rfl (by decide) c_2
    refine lv_aload_n hx hb dX2_nextOrder_8 rfl (lv_at hl 1 rfl) ?_
    refine va_get (D := (dC, dI)) (ci := 2) (v := .ref hoo) (C := RX2) (T := TX2) (N := 3) hx hb hts in_X2_nextOrder_X2 hown hK hP 0 rfl rfl 1 (by decide) (hts _ wd_X2_nextOrder_0) (fun _ h9 => h9) rfl dX2_nextOrder_9 ?_
    refine lv_iload_n hx hb dX2_nextOrder_12 rfl (lv_at hl 0 rfl) ?_
    have hin_30 : vp_in pc1 5 := (i_in rfl (by omega) (by omega))
    refine va_iald hx hb hK hP 1 0 rfl rfl hin_30 dX2_nextOrder_13 ?_
    refine lv_topi (fun v_31 ev_31 => ?_)
    have hv_31 := RG.at hR_hoo hin_30 ev_31
    refine lv_aload_n hx hb dX2_nextOrder_14 rfl (lv_at hl 1 rfl) ?_
    refine va_get (D := (dC, dI)) (ci := 2) (v := .ref hoo) (C := RX2) (T := TX2) (N := 3) hx hb hts in_X2_nextOrder_X2 hown hK hP 0 rfl rfl 1 (by decide) (hts _ wd_X2_nextOrder_0) (fun _ h9 => h9) rfl dX2_nextOrder_15 ?_
    refine lv_iload_n hx hb dX2_nextOrder_18 rfl (lv_at hl 0 rfl) ?_
    refine lv_iconst (v := 1) hx hb dX2_nextOrder_19 (by decide) ?_
    refine lv_iadd hx hb dX2_nextOrder_20 ?_
    refine lv_topi (fun x_32 ex_32 => ?_)
    have zx_32 : x_32.toInt = pc1.toInt + 1 := by rw [ex_32]; exact i_add rfl (by decide) (by omega) (by omega)
    have hin_33 : vp_in x_32 5 := (i_in rfl (by omega) (by omega))
    refine va_iald hx hb hK hP 1 0 rfl rfl hin_33 dX2_nextOrder_21 ?_
    refine lv_topi (fun v_34 ev_34 => ?_)
    have hv_34 := RG.at hR_hoo hin_33 ev_34
    refine lv_icmp_le (tgt := 31) hx hb dX2_nextOrder_22 (by decide) (fun c_35 => ?_) (fun c_35 => ?_)
    · have c_35 : v_31.toInt ≤ v_34.toInt := i_le (a := v_31) (b := v_34) rfl rfl c_35
      refine lv_iload_n hx hb dX2_nextOrder_31 rfl (lv_at hl 0 rfl) ?_
      refine lv_if_ge (tgt := 37) hx hb dX2_nextOrder_32 (by decide) (fun c_36 => ?_) (fun c_36 => ?_)
      · have c_36 : 0 ≤ pc1.toInt := i_le (a := 0) (b := pc1) (by decide) rfl c_36
        refine lv_iload_n hx hb dX2_nextOrder_37 rfl (lv_at hl 2 rfl) ?_
        refine lv_iconst (v := 1) hx hb dX2_nextOrder_38 (by decide) ?_
        refine lv_isub hx hb dX2_nextOrder_39 ?_
        refine lv_topi (fun x_37 ex_37 => ?_)
        have zx_37 : x_37.toInt = p0.toInt - 1 := by rw [ex_37]; exact i_sub rfl (by decide) (by omega) (by omega)
        refine lv_istore_n (lv' := [(3, .int x_37), (2, .int pc1), (0, .ref ho), (1, .int p0)]) hx hb dX2_nextOrder_40 rfl hl (by decide) rfl (fun ls hl => ?_)
        refine lp_W (I := fun (a : Int32) H locs ls => (0 ≤ a.toInt ∧ a.toInt ≤ 4) ∧ va_P (dC, dI) vwCl [(ho, .inr (2, [.ref hob, .ref hoo, .ref hos])), (hoo, .inl (hoko, 5, .inl wO))] H ∧ va_D A [(ho, .inr (2, [.ref hob, .ref hoo, .ref hos])), (hoo, .inl (hoko, 5, .inl wO))] ∧ va_S A s.heap H locs ∧ lv_has ls 6 [(3, .int a), (2, .int pc1), (0, .ref ho), (1, .int p0)]) (μ := fun a => (a.toInt + 1).toNat) ?_ (x_37) ⟨(by (try dsimp only); omega), hP.sub [0, 1] rfl, hD.sub [0, 1] (by decide) rfl, hS, lv_sub hl [0, 1, 2, 3] rfl⟩
        intro a H locs ls hI ih41
        obtain ⟨gt1, rfl⟩ : ∃ z, z = a := ⟨_, rfl⟩
        obtain ⟨h_gt, hP, hD, hS, hl⟩ := hI
        have h_gt : 0 ≤ gt1.toInt ∧ gt1.toInt ≤ 4 := h_gt
        have hP : va_P (dC, dI) vwCl [(ho, .inr (2, [.ref hob, .ref hoo, .ref hos])), (hoo, .inl (hoko, 5, .inl wO))] H := hP
        have hD : va_D A [(ho, .inr (2, [.ref hob, .ref hoo, .ref hos])), (hoo, .inl (hoko, 5, .inl wO))] := hD
        have hl : lv_has ls 6 [(3, .int gt1), (2, .int pc1), (0, .ref ho), (1, .int p0)] := hl
        refine lv_iload_n hx hb dX2_nextOrder_41 rfl (lv_at hl 0 rfl) ?_
        refine lv_iload_n hx hb dX2_nextOrder_42 rfl (lv_at hl 1 rfl) ?_
        refine lv_icmp_le (tgt := 67) hx hb dX2_nextOrder_43 (by decide) (fun c_38 => ?_) (fun c_38 => ?_)
        · have c_38 : gt1.toInt ≤ pc1.toInt := i_le (a := gt1) (b := pc1) rfl rfl c_38
          refine lv_aload_n hx hb dX2_nextOrder_67 rfl (lv_at hl 2 rfl) ?_
          refine lv_iload_n hx hb dX2_nextOrder_68 rfl (lv_at hl 1 rfl) ?_
          refine lv_iload_n hx hb dX2_nextOrder_69 rfl (lv_at hl 0 rfl) ?_
          have hPc := hP.sub (ws' := [(ho, .inr (2, [.ref hob, .ref hoo, .ref hos])), (hoo, .inl (hoko, 5, .inl wO))]) [0, 1] rfl
          have hDc := hD.sub (ws' := [(ho, .inr (2, [.ref hob, .ref hoo, .ref hos])), (hoo, .inl (hoko, 5, .inl wO))]) [0, 1] (by decide) rfl
          have hKc := hK.sub (tys' := [(hoko, .int)]) [0] rfl
          have hFc := va_free (wc := [(ho, .inr (2, [.ref hob, .ref hoo, .ref hos])), (hoo, .inl (hoko, 5, .inl wO))]) hD hS hA [0, 1] rfl
          refine va_callv (va_runV (As := [.int pc1, .int gt1]) (rest := []) ⟨hx, hb, hml, hown, hts⟩ (c_X2_exchange l dC dI H.size ho hob hoo hos hoko wO pc1 gt1 (by omega) (by omega) hR_hoo) (cwV 2 hts g_X2_nextOrder_X2_exchange rfl rfl rfl (by decide +kernel) ⟨Nat.le_of_ble_eq_true rfl, Nat.le_of_ble_eq_true rfl⟩) ⟨fun a U g mk q => by obtain ⟨q0, q1, qP, qK, qD⟩ := q; exact ⟨q0, q1, qP, va_K.moved (u := U) (U := U.calling g mk a) (Vm.Alike.refl U.vm) qK, qD⟩, va_recv hKc hPc (ci := 2) (q0 := 0) rfl rfl, fun U hU hW => ⟨rfl, by rw [hU], by rw [hU]; exact hPc, va_K.moved hW.alike hKc, hDc.weaken (fun _ _ _ _ => trivial)⟩⟩ rfl rfl hl.1 rfl (lv_room (Nat.le_of_ble_eq_true rfl)) dX2_nextOrder_70 ⟨Nat.le_of_ble_eq_true rfl, Nat.le_of_ble_eq_true rfl⟩) hS (fun q _ h => hFc q h) hFc (fun u t H1 locs ht hvm hw_39 hB hz1 hk1 hS => ?_)
          obtain ⟨nO_40, rfl⟩ : ∃ z, z = u := ⟨_, rfl⟩
          obtain ⟨hP1, hK1, hD1⟩ := hB
          have hP1 : va_P (dC, dI) vwCl [(ho, .inr (2, [.ref hob, .ref hoo, .ref hos])), (hoo, .inl (hoko, 5, .inl nO_40))] t.heap := hP1
          rw [ht] at hP1
          try dsimp only at hw_39
          obtain ⟨hP, hD⟩ := va_join (wr := []) (w1 := [(ho, .inr (2, [.ref hob, .ref hoo, .ref hos])), (hoo, .inl (hoko, 5, .inl nO_40))]) hP hD [0, 1] [] rfl rfl (by decide) (by decide) hk1 hFc hP1 hD1
          generalize H1 = H at hP hS ⊢
          have hP : va_P (dC, dI) vwCl [(ho, .inr (2, [.ref hob, .ref hoo, .ref hos])), (hoo, .inl (hoko, 5, .inl nO_40))] H := hP
          have hD : va_D A [(ho, .inr (2, [.ref hob, .ref hoo, .ref hos])), (hoo, .inl (hoko, 5, .inl nO_40))] := hD
          refine lv_iload_n hx hb dX2_nextOrder_73 rfl (lv_at hl 1 rfl) ?_
          refine lv_iconst (v := 1) hx hb dX2_nextOrder_74 (by decide) ?_
          refine lv_iadd hx hb dX2_nextOrder_75 ?_
          refine lv_topi (fun x_41 ex_41 => ?_)
          have zx_41 : x_41.toInt = pc1.toInt + 1 := by rw [ex_41]; exact i_add rfl (by decide) (by omega) (by omega)
          refine lv_istore (lv' := [(4, .int x_41), (3, .int gt1), (2, .int pc1), (0, .ref ho), (1, .int p0)]) hx hb dX2_nextOrder_76 hl (by decide) rfl (fun ls hl => ?_)
          refine lv_iload_n hx hb dX2_nextOrder_78 rfl (lv_at hl 4 rfl) ?_
          refine lv_iconst (v := 1) hx hb dX2_nextOrder_79 (by decide) ?_
          refine lv_isub hx hb dX2_nextOrder_80 ?_
          refine lv_topi (fun x_42 ex_42 => ?_)
          have zx_42 : x_42.toInt = p0.toInt - 1 := by rw [ex_42]; exact i_sub rfl (by decide) (by omega) (by omega)
          refine lv_istore (lv' := [(5, .int x_42), (4, .int x_41), (3, .int gt1), (2, .int pc1), (0, .ref ho), (1, .int p0)]) hx hb dX2_nextOrder_81 hl (by decide) rfl (fun ls hl => ?_)
          refine lp_W (I := fun (a : Int32 × Int32 × (Nat → Int32)) H locs ls => (0 ≤ a.1.toInt ∧ a.1.toInt ≤ 5) ∧ (-1 ≤ a.2.1.toInt ∧ a.2.1.toInt ≤ 4) ∧ (RG a.2.2 5 0 4) ∧ va_P (dC, dI) vwCl [(ho, .inr (2, [.ref hob, .ref hoo, .ref hos])), (hoo, .inl (hoko, 5, .inl a.2.2))] H ∧ va_D A [(ho, .inr (2, [.ref hob, .ref hoo, .ref hos])), (hoo, .inl (hoko, 5, .inl a.2.2))] ∧ va_S A s.heap H locs ∧ lv_has ls 6 [(5, .int a.2.1), (4, .int a.1), (3, .int gt1), (2, .int pc1), (0, .ref ho), (1, .int p0)]) (μ := fun a => (a.2.1.toInt - a.1.toInt + 10).toNat) ?_ (x_41, x_42, nO_40) ⟨(by (try dsimp only); omega), (by (try dsimp only); omega), hw_39, hP.sub [0, 1] rfl, hD.sub [0, 1] (by decide) rfl, hS, lv_sub hl [0, 1, 2, 3, 4, 5] rfl⟩
          intro a H locs ls hI ih83
          obtain ⟨lf, rg, O3⟩ := a
          obtain ⟨h_lf, h_rg, hO3, hP, hD, hS, hl⟩ := hI
          have h_lf : 0 ≤ lf.toInt ∧ lf.toInt ≤ 5 := h_lf
          have h_rg : -1 ≤ rg.toInt ∧ rg.toInt ≤ 4 := h_rg
          have hO3 : RG O3 5 0 4 := hO3
          have hP : va_P (dC, dI) vwCl [(ho, .inr (2, [.ref hob, .ref hoo, .ref hos])), (hoo, .inl (hoko, 5, .inl O3))] H := hP
          have hD : va_D A [(ho, .inr (2, [.ref hob, .ref hoo, .ref hos])), (hoo, .inl (hoko, 5, .inl O3))] := hD
          have hl : lv_has ls 6 [(5, .int rg), (4, .int lf), (3, .int gt1), (2, .int pc1), (0, .ref ho), (1, .int p0)] := hl
          refine lv_iload hx hb dX2_nextOrder_83 (lv_at hl 1 rfl) ?_
          refine lv_iload hx hb dX2_nextOrder_85 (lv_at hl 0 rfl) ?_
          refine lv_icmp_ge (tgt := 107) hx hb dX2_nextOrder_87 (by decide) (fun c_43 => ?_) (fun c_43 => ?_)
          · have c_43 : rg.toInt ≤ lf.toInt := i_le (a := rg) (b := lf) rfl rfl c_43
            refine lv_iconst (v := 1) hx hb dX2_nextOrder_107 (by decide) ?_
            have hP9 := hP.sub (ws' := [(ho, .inr (2, [.ref hob, .ref hoo, .ref hos])), (hoo, .inl (hoko, 5, .inl O3))]) [0, 1] rfl
            have hD9 := hD.sub (ws' := [(ho, .inr (2, [.ref hob, .ref hoo, .ref hos])), (hoo, .inl (hoko, 5, .inl O3))]) [0, 1] (by decide) rfl
            have hK9 := hK.sub (tys' := []) [] rfl
            refine W.widen (k := 0) (n := 0) (by omega) (by omega) ?_
            exact W.zret (v := 1) hx hb hr (by decide) (fun t ht hW => ⟨⟨1, (O3), rfl, ⟨(by have k0 : (1 : Int32).toInt = 1 := (by decide); first | rfl | trivial | (dsimp only; omega) | omega | (left; rfl) | (right; rfl) | (dsimp only; first | (left; rfl) | (right; rfl))), hO3⟩, by rw [ht]; exact hP9, va_K.moved hW.alike hK9, hD9⟩, hS.F ht⟩) hS.2.2 dX2_nextOrder_108
          · have c_43 : lf.toInt < rg.toInt := i_nle (a := rg) (b := lf) rfl rfl c_43
            refine lv_aload_n hx hb dX2_nextOrder_90 rfl (lv_at hl 4 rfl) ?_
            refine lv_iload hx hb dX2_nextOrder_91 (lv_at hl 1 rfl) ?_
            refine lv_iload hx hb dX2_nextOrder_93 (lv_at hl 0 rfl) ?_
            have hPc := hP.sub (ws' := [(ho, .inr (2, [.ref hob, .ref hoo, .ref hos])), (hoo, .inl (hoko, 5, .inl O3))]) [0, 1] rfl
            have hDc := hD.sub (ws' := [(ho, .inr (2, [.ref hob, .ref hoo, .ref hos])), (hoo, .inl (hoko, 5, .inl O3))]) [0, 1] (by decide) rfl
            have hKc := hK.sub (tys' := [(hoko, .int)]) [0] rfl
            have hFc := va_free (wc := [(ho, .inr (2, [.ref hob, .ref hoo, .ref hos])), (hoo, .inl (hoko, 5, .inl O3))]) hD hS hA [0, 1] rfl
            refine va_callv (va_runV (As := [.int lf, .int rg]) (rest := []) ⟨hx, hb, hml, hown, hts⟩ (c_X2_exchange l dC dI H.size ho hob hoo hos hoko O3 lf rg (by omega) (by omega) hO3) (cwV 2 hts g_X2_nextOrder_X2_exchange rfl rfl rfl (by decide +kernel) ⟨Nat.le_of_ble_eq_true rfl, Nat.le_of_ble_eq_true rfl⟩) ⟨fun a U g mk q => by obtain ⟨q0, q1, qP, qK, qD⟩ := q; exact ⟨q0, q1, qP, va_K.moved (u := U) (U := U.calling g mk a) (Vm.Alike.refl U.vm) qK, qD⟩, va_recv hKc hPc (ci := 2) (q0 := 0) rfl rfl, fun U hU hW => ⟨rfl, by rw [hU], by rw [hU]; exact hPc, va_K.moved hW.alike hKc, hDc.weaken (fun _ _ _ _ => trivial)⟩⟩ rfl rfl hl.1 rfl (lv_room (Nat.le_of_ble_eq_true rfl)) dX2_nextOrder_95 ⟨Nat.le_of_ble_eq_true rfl, Nat.le_of_ble_eq_true rfl⟩) hS (fun q _ h => hFc q h) hFc (fun u t H1 locs ht hvm hw_44 hB hz1 hk1 hS => ?_)
            obtain ⟨nO_45, rfl⟩ : ∃ z, z = u := ⟨_, rfl⟩
            obtain ⟨hP1, hK1, hD1⟩ := hB
            have hP1 : va_P (dC, dI) vwCl [(ho, .inr (2, [.ref hob, .ref hoo, .ref hos])), (hoo, .inl (hoko, 5, .inl nO_45))] t.heap := hP1
            rw [ht] at hP1
            try dsimp only at hw_44
            obtain ⟨hP, hD⟩ := va_join (wr := []) (w1 := [(ho, .inr (2, [.ref hob, .ref hoo, .ref hos])), (hoo, .inl (hoko, 5, .inl nO_45))]) hP hD [0, 1] [] rfl rfl (by decide) (by decide) hk1 hFc hP1 hD1
            generalize H1 = H at hP hS ⊢
            have hP : va_P (dC, dI) vwCl [(ho, .inr (2, [.ref hob, .ref hoo, .ref hos])), (hoo, .inl (hoko, 5, .inl nO_45))] H := hP
            have hD : va_D A [(ho, .inr (2, [.ref hob, .ref hoo, .ref hos])), (hoo, .inl (hoko, 5, .inl nO_45))] := hD
            obtain ⟨x_46, ex_46⟩ : ∃ y9 : Int32, y9 = lf + Int32.ofInt 1 := ⟨_, rfl⟩
            have zx_46 : x_46.toInt = lf.toInt + 1 := by rw [ex_46]; exact i_add rfl (show (Int32.ofInt 1).toInt = 1 by decide) (by omega) (by omega)
            refine lv_iinc (v := x_46) (lv' := [(4, .int x_46), (5, .int rg), (3, .int gt1), (2, .int pc1), (0, .ref ho), (1, .int p0)]) hx hb dX2_nextOrder_98 hl (k := 1) rfl (by rw [ex_46]) (by decide) rfl (fun ls hl => ?_)
            obtain ⟨x_47, ex_47⟩ : ∃ y9 : Int32, y9 = rg + Int32.ofInt (-1) := ⟨_, rfl⟩
            have zx_47 : x_47.toInt = rg.toInt + (-1) := by rw [ex_47]; exact i_add rfl (show (Int32.ofInt (-1)).toInt = (-1) by decide) (by omega) (by omega)
            refine lv_iinc (v := x_47) (lv' := [(5, .int x_47), (4, .int x_46), (3, .int gt1), (2, .int pc1), (0, .ref ho), (1, .int p0)]) hx hb dX2_nextOrder_101 hl (k := 1) rfl (by rw [ex_47]) (by decide) rfl (fun ls hl => ?_)
            refine lv_goto (tgt := 83) hx hb dX2_nextOrder_104 (by decide) ?_
            exact ih83 (x_46, x_47, nO_45) _ _ _ ⟨(by (try dsimp only); omega), (by (try dsimp only); omega), hw_44, hP.sub [0, 1] rfl, hD.sub [0, 1] (by decide) rfl, hS, lv_sub hl [0, 1, 2, 3, 4, 5] rfl⟩ (by (try dsimp only); omega)
        · have c_38 : pc1.toInt < gt1.toInt := i_nle (a := gt1) (b := pc1) rfl rfl c_38
          refine lv_aload_n hx hb dX2_nextOrder_46 rfl (lv_at hl 2 rfl) ?_
          refine va_get (D := (dC, dI)) (ci := 2) (v := .ref hoo) (C := RX2) (T := TX2) (N := 3) hx hb hts in_X2_nextOrder_X2 hown hK hP 0 rfl rfl 1 (by decide) (hts _ wd_X2_nextOrder_0) (fun _ h9 => h9) rfl dX2_nextOrder_47 ?_
          refine lv_iload_n hx hb dX2_nextOrder_50 rfl (lv_at hl 0 rfl) ?_
          have hin_48 : vp_in gt1 5 := (i_in rfl (by omega) (by omega))
          refine va_iald hx hb hK hP 1 0 rfl rfl hin_48 dX2_nextOrder_51 ?_
          refine lv_topi (fun v_49 ev_49 => ?_)
          have hv_49 := RG.at hR_hoo hin_48 ev_49
          refine lv_aload_n hx hb dX2_nextOrder_52 rfl (lv_at hl 2 rfl) ?_
          refine va_get (D := (dC, dI)) (ci := 2) (v := .ref hoo) (C := RX2) (T := TX2) (N := 3) hx hb hts in_X2_nextOrder_X2 hown hK hP 0 rfl rfl 1 (by decide) (hts _ wd_X2_nextOrder_0) (fun _ h9 => h9) rfl dX2_nextOrder_53 ?_
          refine lv_iload_n hx hb dX2_nextOrder_56 rfl (lv_at hl 1 rfl) ?_
          have hin_50 : vp_in pc1 5 := (i_in rfl (by omega) (by omega))
          refine va_iald hx hb hK hP 1 0 rfl rfl hin_50 dX2_nextOrder_57 ?_
          refine lv_topi (fun v_51 ev_51 => ?_)
          have hv_51 := RG.at hR_hoo hin_50 ev_51
          refine lv_icmp_ge (tgt := 67) hx hb dX2_nextOrder_58 (by decide) (fun c_52 => ?_) (fun c_52 => ?_)
          · have c_52 : v_51.toInt ≤ v_49.toInt := i_le (a := v_51) (b := v_49) rfl rfl c_52
            refine lv_aload_n hx hb dX2_nextOrder_67 rfl (lv_at hl 2 rfl) ?_
            refine lv_iload_n hx hb dX2_nextOrder_68 rfl (lv_at hl 1 rfl) ?_
            refine lv_iload_n hx hb dX2_nextOrder_69 rfl (lv_at hl 0 rfl) ?_
            have hPc := hP.sub (ws' := [(ho, .inr (2, [.ref hob, .ref hoo, .ref hos])), (hoo, .inl (hoko, 5, .inl wO))]) [0, 1] rfl
            have hDc := hD.sub (ws' := [(ho, .inr (2, [.ref hob, .ref hoo, .ref hos])), (hoo, .inl (hoko, 5, .inl wO))]) [0, 1] (by decide) rfl
            have hKc := hK.sub (tys' := [(hoko, .int)]) [0] rfl
            have hFc := va_free (wc := [(ho, .inr (2, [.ref hob, .ref hoo, .ref hos])), (hoo, .inl (hoko, 5, .inl wO))]) hD hS hA [0, 1] rfl
            refine va_callv (va_runV (As := [.int pc1, .int gt1]) (rest := []) ⟨hx, hb, hml, hown, hts⟩ (c_X2_exchange l dC dI H.size ho hob hoo hos hoko wO pc1 gt1 (by omega) (by omega) hR_hoo) (cwV 2 hts g_X2_nextOrder_X2_exchange rfl rfl rfl (by decide +kernel) ⟨Nat.le_of_ble_eq_true rfl, Nat.le_of_ble_eq_true rfl⟩) ⟨fun a U g mk q => by obtain ⟨q0, q1, qP, qK, qD⟩ := q; exact ⟨q0, q1, qP, va_K.moved (u := U) (U := U.calling g mk a) (Vm.Alike.refl U.vm) qK, qD⟩, va_recv hKc hPc (ci := 2) (q0 := 0) rfl rfl, fun U hU hW => ⟨rfl, by rw [hU], by rw [hU]; exact hPc, va_K.moved hW.alike hKc, hDc.weaken (fun _ _ _ _ => trivial)⟩⟩ rfl rfl hl.1 rfl (lv_room (Nat.le_of_ble_eq_true rfl)) dX2_nextOrder_70 ⟨Nat.le_of_ble_eq_true rfl, Nat.le_of_ble_eq_true rfl⟩) hS (fun q _ h => hFc q h) hFc (fun u t H1 locs ht hvm hw_53 hB hz1 hk1 hS => ?_)
            obtain ⟨nO_54, rfl⟩ : ∃ z, z = u := ⟨_, rfl⟩
            obtain ⟨hP1, hK1, hD1⟩ := hB
            have hP1 : va_P (dC, dI) vwCl [(ho, .inr (2, [.ref hob, .ref hoo, .ref hos])), (hoo, .inl (hoko, 5, .inl nO_54))] t.heap := hP1
            rw [ht] at hP1
            try dsimp only at hw_53
            obtain ⟨hP, hD⟩ := va_join (wr := []) (w1 := [(ho, .inr (2, [.ref hob, .ref hoo, .ref hos])), (hoo, .inl (hoko, 5, .inl nO_54))]) hP hD [0, 1] [] rfl rfl (by decide) (by decide) hk1 hFc hP1 hD1
            generalize H1 = H at hP hS ⊢
            have hP : va_P (dC, dI) vwCl [(ho, .inr (2, [.ref hob, .ref hoo, .ref hos])), (hoo, .inl (hoko, 5, .inl nO_54))] H := hP
            have hD : va_D A [(ho, .inr (2, [.ref hob, .ref hoo, .ref hos])), (hoo, .inl (hoko, 5, .inl nO_54))] := hD
            refine lv_iload_n hx hb dX2_nextOrder_73 rfl (lv_at hl 1 rfl) ?_
            refine lv_iconst (v := 1) hx hb dX2_nextOrder_74 (by decide) ?_
            refine lv_iadd hx hb dX2_nextOrder_75 ?_
            refine lv_topi (fun x_55 ex_55 => ?_)
            have zx_55 : x_55.toInt = pc1.toInt + 1 := by rw [ex_55]; exact i_add rfl (by decide) (by omega) (by omega)
            refine lv_istore (lv' := [(4, .int x_55), (3, .int gt1), (2, .int pc1), (0, .ref ho), (1, .int p0)]) hx hb dX2_nextOrder_76 hl (by decide) rfl (fun ls hl => ?_)
            refine lv_iload_n hx hb dX2_nextOrder_78 rfl (lv_at hl 4 rfl) ?_
            refine lv_iconst (v := 1) hx hb dX2_nextOrder_79 (by decide) ?_
            refine lv_isub hx hb dX2_nextOrder_80 ?_
            refine lv_topi (fun x_56 ex_56 => ?_)
            have zx_56 : x_56.toInt = p0.toInt - 1 := by rw [ex_56]; exact i_sub rfl (by decide) (by omega) (by omega)
            refine lv_istore (lv' := [(5, .int x_56), (4, .int x_55), (3, .int gt1), (2, .int pc1), (0, .ref ho), (1, .int p0)]) hx hb dX2_nextOrder_81 hl (by decide) rfl (fun ls hl => ?_)
            refine lp_W (I := fun (a : Int32 × Int32 × (Nat → Int32)) H locs ls => (0 ≤ a.1.toInt ∧ a.1.toInt ≤ 5) ∧ (-1 ≤ a.2.1.toInt ∧ a.2.1.toInt ≤ 4) ∧ (RG a.2.2 5 0 4) ∧ va_P (dC, dI) vwCl [(ho, .inr (2, [.ref hob, .ref hoo, .ref hos])), (hoo, .inl (hoko, 5, .inl a.2.2))] H ∧ va_D A [(ho, .inr (2, [.ref hob, .ref hoo, .ref hos])), (hoo, .inl (hoko, 5, .inl a.2.2))] ∧ va_S A s.heap H locs ∧ lv_has ls 6 [(5, .int a.2.1), (4, .int a.1), (3, .int gt1), (2, .int pc1), (0, .ref ho), (1, .int p0)]) (μ := fun a => (a.2.1.toInt - a.1.toInt + 10).toNat) ?_ (x_55, x_56, nO_54) ⟨(by (try dsimp only); omega), (by (try dsimp only); omega), hw_53, hP.sub [0, 1] rfl, hD.sub [0, 1] (by decide) rfl, hS, lv_sub hl [0, 1, 2, 3, 4, 5] rfl⟩
            intro a H locs ls hI ih83
            obtain ⟨lf, rg, O3⟩ := a
            obtain ⟨h_lf, h_rg, hO3, hP, hD, hS, hl⟩ := hI
            have h_lf : 0 ≤ lf.toInt ∧ lf.toInt ≤ 5 := h_lf
            have h_rg : -1 ≤ rg.toInt ∧ rg.toInt ≤ 4 := h_rg
            have hO3 : RG O3 5 0 4 := hO3
            have hP : va_P (dC, dI) vwCl [(ho, .inr (2, [.ref hob, .ref hoo, .ref hos])), (hoo, .inl (hoko, 5, .inl O3))] H := hP
            have hD : va_D A [(ho, .inr (2, [.ref hob, .ref hoo, .ref hos])), (hoo, .inl (hoko, 5, .inl O3))] := hD
            have hl : lv_has ls 6 [(5, .int rg), (4, .int lf), (3, .int gt1), (2, .int pc1), (0, .ref ho), (1, .int p0)] := hl
            refine lv_iload hx hb dX2_nextOrder_83 (lv_at hl 1 rfl) ?_
            refine lv_iload hx hb dX2_nextOrder_85 (lv_at hl 0 rfl) ?_
            refine lv_icmp_ge (tgt := 107) hx hb dX2_nextOrder_87 (by decide) (fun c_57 => ?_) (fun c_57 => ?_)
            · have c_57 : rg.toInt ≤ lf.toInt := i_le (a := rg) (b := lf) rfl rfl c_57
              refine lv_iconst (v := 1) hx hb dX2_nextOrder_107 (by decide) ?_
              have hP9 := hP.sub (ws' := [(ho, .inr (2, [.ref hob, .ref hoo, .ref hos])), (hoo, .inl (hoko, 5, .inl O3))]) [0, 1] rfl
              have hD9 := hD.sub (ws' := [(ho, .inr (2, [.ref hob, .ref hoo, .ref hos])), (hoo, .inl (hoko, 5, .inl O3))]) [0, 1] (by decide) rfl
              have hK9 := hK.sub (tys' := []) [] rfl
              refine W.widen (k := 0) (n := 0) (by omega) (by omega) ?_
              exact W.zret (v := 1) hx hb hr (by decide) (fun t ht hW => ⟨⟨1, (O3), rfl, ⟨(by have k0 : (1 : Int32).toInt = 1 := (by decide); first | rfl | trivial | (dsimp only; omega) | omega | (left; rfl) | (right; rfl) | (dsimp only; first | (left; rfl) | (right; rfl))), hO3⟩, by rw [ht]; exact hP9, va_K.moved hW.alike hK9, hD9⟩, hS.F ht⟩) hS.2.2 dX2_nextOrder_108
            · have c_57 : lf.toInt < rg.toInt := i_nle (a := rg) (b := lf) rfl rfl c_57
              refine lv_aload_n hx hb dX2_nextOrder_90 rfl (lv_at hl 4 rfl) ?_
              refine lv_iload hx hb dX2_nextOrder_91 (lv_at hl 1 rfl) ?_
              refine lv_iload hx hb dX2_nextOrder_93 (lv_at hl 0 rfl) ?_
              have hPc := hP.sub (ws' := [(ho, .inr (2, [.ref hob, .ref hoo, .ref hos])), (hoo, .inl (hoko, 5, .inl O3))]) [0, 1] rfl
              have hDc := hD.sub (ws' := [(ho, .inr (2, [.ref hob, .ref hoo, .ref hos])), (hoo, .inl (hoko, 5, .inl O3))]) [0, 1] (by decide) rfl
              have hKc := hK.sub (tys' := [(hoko, .int)]) [0] rfl
              have hFc := va_free (wc := [(ho, .inr (2, [.ref hob, .ref hoo, .ref hos])), (hoo, .inl (hoko, 5, .inl O3))]) hD hS hA [0, 1] rfl
              refine va_callv (va_runV (As := [.int lf, .int rg]) (rest := []) ⟨hx, hb, hml, hown, hts⟩ (c_X2_exchange l dC dI H.size ho hob hoo hos hoko O3 lf rg (by omega) (by omega) hO3) (cwV 2 hts g_X2_nextOrder_X2_exchange rfl rfl rfl (by decide +kernel) ⟨Nat.le_of_ble_eq_true rfl, Nat.le_of_ble_eq_true rfl⟩) ⟨fun a U g mk q => by obtain ⟨q0, q1, qP, qK, qD⟩ := q; exact ⟨q0, q1, qP, va_K.moved (u := U) (U := U.calling g mk a) (Vm.Alike.refl U.vm) qK, qD⟩, va_recv hKc hPc (ci := 2) (q0 := 0) rfl rfl, fun U hU hW => ⟨rfl, by rw [hU], by rw [hU]; exact hPc, va_K.moved hW.alike hKc, hDc.weaken (fun _ _ _ _ => trivial)⟩⟩ rfl rfl hl.1 rfl (lv_room (Nat.le_of_ble_eq_true rfl)) dX2_nextOrder_95 ⟨Nat.le_of_ble_eq_true rfl, Nat.le_of_ble_eq_true rfl⟩) hS (fun q _ h => hFc q h) hFc (fun u t H1 locs ht hvm hw_58 hB hz1 hk1 hS => ?_)
              obtain ⟨nO_59, rfl⟩ : ∃ z, z = u := ⟨_, rfl⟩
              obtain ⟨hP1, hK1, hD1⟩ := hB
              have hP1 : va_P (dC, dI) vwCl [(ho, .inr (2, [.ref hob, .ref hoo, .ref hos])), (hoo, .inl (hoko, 5, .inl nO_59))] t.heap := hP1
              rw [ht] at hP1
              try dsimp only at hw_58
              obtain ⟨hP, hD⟩ := va_join (wr := []) (w1 := [(ho, .inr (2, [.ref hob, .ref hoo, .ref hos])), (hoo, .inl (hoko, 5, .inl nO_59))]) hP hD [0, 1] [] rfl rfl (by decide) (by decide) hk1 hFc hP1 hD1
              generalize H1 = H at hP hS ⊢
              have hP : va_P (dC, dI) vwCl [(ho, .inr (2, [.ref hob, .ref hoo, .ref hos])), (hoo, .inl (hoko, 5, .inl nO_59))] H := hP
              have hD : va_D A [(ho, .inr (2, [.ref hob, .ref hoo, .ref hos])), (hoo, .inl (hoko, 5, .inl nO_59))] := hD
              obtain ⟨x_60, ex_60⟩ : ∃ y9 : Int32, y9 = lf + Int32.ofInt 1 := ⟨_, rfl⟩
              have zx_60 : x_60.toInt = lf.toInt + 1 := by rw [ex_60]; exact i_add rfl (show (Int32.ofInt 1).toInt = 1 by decide) (by omega) (by omega)
              refine lv_iinc (v := x_60) (lv' := [(4, .int x_60), (5, .int rg), (3, .int gt1), (2, .int pc1), (0, .ref ho), (1, .int p0)]) hx hb dX2_nextOrder_98 hl (k := 1) rfl (by rw [ex_60]) (by decide) rfl (fun ls hl => ?_)
              obtain ⟨x_61, ex_61⟩ : ∃ y9 : Int32, y9 = rg + Int32.ofInt (-1) := ⟨_, rfl⟩
              have zx_61 : x_61.toInt = rg.toInt + (-1) := by rw [ex_61]; exact i_add rfl (show (Int32.ofInt (-1)).toInt = (-1) by decide) (by omega) (by omega)
              refine lv_iinc (v := x_61) (lv' := [(5, .int x_61), (4, .int x_60), (3, .int gt1), (2, .int pc1), (0, .ref ho), (1, .int p0)]) hx hb dX2_nextOrder_101 hl (k := 1) rfl (by rw [ex_61]) (by decide) rfl (fun ls hl => ?_)
              refine lv_goto (tgt := 83) hx hb dX2_nextOrder_104 (by decide) ?_
              exact ih83 (x_60, x_61, nO_59) _ _ _ ⟨(by (try dsimp only); omega), (by (try dsimp only); omega), hw_58, hP.sub [0, 1] rfl, hD.sub [0, 1] (by decide) rfl, hS, lv_sub hl [0, 1, 2, 3, 4, 5] rfl⟩ (by (try dsimp only); omega)
          · have c_52 : v_49.toInt < v_51.toInt := i_nle (a := v_51) (b := v_49) rfl rfl c_52
            obtain ⟨x_62, ex_62⟩ : ∃ y9 : Int32, y9 = gt1 + Int32.ofInt (-1) := ⟨_, rfl⟩
            have zx_62 : x_62.toInt = gt1.toInt + (-1) := by rw [ex_62]; exact i_add rfl (show (Int32.ofInt (-1)).toInt = (-1) by decide) (by omega) (by omega)
            refine lv_iinc (v := x_62) (lv' := [(3, .int x_62), (2, .int pc1), (0, .ref ho), (1, .int p0)]) hx hb dX2_nextOrder_61 hl (k := 0) rfl (by rw [ex_62]) (by decide) rfl (fun ls hl => ?_)
            refine lv_goto (tgt := 41) hx hb dX2_nextOrder_64 (by decide) ?_
            exact ih41 (x_62) _ _ _ ⟨(by (try dsimp only); omega), hP.sub [0, 1] rfl, hD.sub [0, 1] (by decide) rfl, hS, lv_sub hl [0, 1, 2, 3] rfl⟩ (by (try dsimp only); omega)
      · have c_36 : pc1.toInt < 0 := i_nle (a := 0) (b := pc1) (by decide) rfl c_36
        refine lv_iconst (v := 0) hx hb dX2_nextOrder_35 (by decide) ?_
        have hP9 := hP.sub (ws' := [(ho, .inr (2, [.ref hob, .ref hoo, .ref hos])), (hoo, .inl (hoko, 5, .inl wO))]) [0, 1] rfl
        have hD9 := hD.sub (ws' := [(ho, .inr (2, [.ref hob, .ref hoo, .ref hos])), (hoo, .inl (hoko, 5, .inl wO))]) [0, 1] (by decide) rfl
        have hK9 := hK.sub (tys' := []) [] rfl
        refine W.widen (k := 0) (n := 0) (by omega) (by omega) ?_
        exact W.zret (v := 0) hx hb hr (by decide) (fun t ht hW => ⟨⟨0, (wO), rfl, ⟨(by have k0 : (0 : Int32).toInt = 0 := (by decide); first | rfl | trivial | (dsimp only; omega) | omega | (left; rfl) | (right; rfl) | (dsimp only; first | (left; rfl) | (right; rfl))), hR_hoo⟩, by rw [ht]; exact hP9, va_K.moved hW.alike hK9, hD9⟩, hS.F ht⟩) hS.2.2 dX2_nextOrder_36
    · have c_35 : v_34.toInt < v_31.toInt := i_nle (a := v_31) (b := v_34) rfl rfl c_35
      obtain ⟨x_63, ex_63⟩ : ∃ y9 : Int32, y9 = pc1 + Int32.ofInt (-1) := ⟨_, rfl⟩
      have zx_63 : x_63.toInt = pc1.toInt + (-1) := by rw [ex_63]; exact i_add rfl (show (Int32.ofInt (-1)).toInt = (-1) by decide) (by omega) (by omega)
      refine lv_iinc (v := x_63) (lv' := [(2, .int x_63), (0, .ref ho), (1, .int p0)]) hx hb dX2_nextOrder_25 hl (k := 0) rfl (by rw [ex_63]) (by decide) rfl (fun ls hl => ?_)
      refine lv_goto (tgt := 4) hx hb dX2_nextOrder_28 (by decide) ?_
      exact ih4 (x_63) _ _ _ ⟨(by (try dsimp only); omega), hP.sub [0, 1] rfl, hD.sub [0, 1] (by decide) rfl, hS, lv_sub hl [0, 1, 2] rfl⟩ (by (try dsimp only); omega)

theorem dX2_bestRound_0 : decode cX2_bestRound 0 = .ok (.aload_n 1, 1) := by decide +kernel
theorem dX2_bestRound_1 : decode cX2_bestRound 1 = .ok (.getfield 23, 3) := by decide +kernel
theorem dX2_bestRound_4 : decode cX2_bestRound 4 = .ok (.istore_n 3, 1) := by decide +kernel
theorem dX2_bestRound_5 : decode cX2_bestRound 5 = .ok (.aload_n 0, 1) := by decide +kernel
theorem dX2_bestRound_6 : decode cX2_bestRound 6 = .ok (.aload_n 1, 1) := by decide +kernel
theorem dX2_bestRound_7 : decode cX2_bestRound 7 = .ok (.invokevirtual 59, 3) := by decide +kernel
theorem dX2_bestRound_10 : decode cX2_bestRound 10 = .ok (.iconst 0, 1) := by decide +kernel
theorem dX2_bestRound_11 : decode cX2_bestRound 11 = .ok (.istore 4, 2) := by decide +kernel
theorem dX2_bestRound_13 : decode cX2_bestRound 13 = .ok (.iload 4, 2) := by decide +kernel
theorem dX2_bestRound_15 : decode cX2_bestRound 15 = .ok (.iload_n 3, 1) := by decide +kernel
theorem dX2_bestRound_16 : decode cX2_bestRound 16 = .ok (.if_icmp .ge 18, 3) := by decide +kernel
theorem dX2_bestRound_19 : decode cX2_bestRound 19 = .ok (.aload_n 0, 1) := by decide +kernel
theorem dX2_bestRound_20 : decode cX2_bestRound 20 = .ok (.getfield 15, 3) := by decide +kernel
theorem dX2_bestRound_23 : decode cX2_bestRound 23 = .ok (.iload 4, 2) := by decide +kernel
theorem dX2_bestRound_25 : decode cX2_bestRound 25 = .ok (.iload 4, 2) := by decide +kernel
theorem dX2_bestRound_27 : decode cX2_bestRound 27 = .ok (.iastore, 1) := by decide +kernel
theorem dX2_bestRound_28 : decode cX2_bestRound 28 = .ok (.iinc 4 1, 3) := by decide +kernel
theorem dX2_bestRound_31 : decode cX2_bestRound 31 = .ok (.goto (-18), 3) := by decide +kernel
theorem dX2_bestRound_34 : decode cX2_bestRound 34 = .ok (.iconst (-1), 1) := by decide +kernel
theorem dX2_bestRound_35 : decode cX2_bestRound 35 = .ok (.istore 4, 2) := by decide +kernel
theorem dX2_bestRound_37 : decode cX2_bestRound 37 = .ok (.iconst 1, 1) := by decide +kernel
theorem dX2_bestRound_38 : decode cX2_bestRound 38 = .ok (.istore 5, 2) := by decide +kernel
theorem dX2_bestRound_40 : decode cX2_bestRound 40 = .ok (.iconst 0, 1) := by decide +kernel
theorem dX2_bestRound_41 : decode cX2_bestRound 41 = .ok (.istore 6, 2) := by decide +kernel
theorem dX2_bestRound_43 : decode cX2_bestRound 43 = .ok (.iload 6, 2) := by decide +kernel
theorem dX2_bestRound_45 : decode cX2_bestRound 45 = .ok (.bipush 120, 2) := by decide +kernel
theorem dX2_bestRound_47 : decode cX2_bestRound 47 = .ok (.if_icmp .ge 60, 3) := by decide +kernel
theorem dX2_bestRound_50 : decode cX2_bestRound 50 = .ok (.iload 5, 2) := by decide +kernel
theorem dX2_bestRound_52 : decode cX2_bestRound 52 = .ok (.ifCond .eq 55, 3) := by decide +kernel
theorem dX2_bestRound_55 : decode cX2_bestRound 55 = .ok (.aload_n 0, 1) := by decide +kernel
theorem dX2_bestRound_56 : decode cX2_bestRound 56 = .ok (.aload_n 1, 1) := by decide +kernel
theorem dX2_bestRound_57 : decode cX2_bestRound 57 = .ok (.iload_n 2, 1) := by decide +kernel
theorem dX2_bestRound_58 : decode cX2_bestRound 58 = .ok (.invokevirtual 63, 3) := by decide +kernel
theorem dX2_bestRound_61 : decode cX2_bestRound 61 = .ok (.istore 7, 2) := by decide +kernel
theorem dX2_bestRound_63 : decode cX2_bestRound 63 = .ok (.iload 4, 2) := by decide +kernel
theorem dX2_bestRound_65 : decode cX2_bestRound 65 = .ok (.iconst (-1), 1) := by decide +kernel
theorem dX2_bestRound_66 : decode cX2_bestRound 66 = .ok (.if_icmp .eq 10, 3) := by decide +kernel
theorem dX2_bestRound_69 : decode cX2_bestRound 69 = .ok (.iload 7, 2) := by decide +kernel
theorem dX2_bestRound_71 : decode cX2_bestRound 71 = .ok (.iload 4, 2) := by decide +kernel
theorem dX2_bestRound_73 : decode cX2_bestRound 73 = .ok (.if_icmp .ge 21, 3) := by decide +kernel
theorem dX2_bestRound_76 : decode cX2_bestRound 76 = .ok (.iload 7, 2) := by decide +kernel
theorem dX2_bestRound_78 : decode cX2_bestRound 78 = .ok (.istore 4, 2) := by decide +kernel
theorem dX2_bestRound_80 : decode cX2_bestRound 80 = .ok (.aload_n 0, 1) := by decide +kernel
theorem dX2_bestRound_81 : decode cX2_bestRound 81 = .ok (.getfield 15, 3) := by decide +kernel
theorem dX2_bestRound_84 : decode cX2_bestRound 84 = .ok (.iconst 0, 1) := by decide +kernel
theorem dX2_bestRound_85 : decode cX2_bestRound 85 = .ok (.aload_n 0, 1) := by decide +kernel
theorem dX2_bestRound_86 : decode cX2_bestRound 86 = .ok (.getfield 9, 3) := by decide +kernel
theorem dX2_bestRound_89 : decode cX2_bestRound 89 = .ok (.iconst 0, 1) := by decide +kernel
theorem dX2_bestRound_90 : decode cX2_bestRound 90 = .ok (.iload_n 3, 1) := by decide +kernel
theorem dX2_bestRound_91 : decode cX2_bestRound 91 = .ok (.invokestatic 66, 3) := by decide +kernel
theorem dX2_bestRound_94 : decode cX2_bestRound 94 = .ok (.aload_n 0, 1) := by decide +kernel
theorem dX2_bestRound_95 : decode cX2_bestRound 95 = .ok (.iload_n 3, 1) := by decide +kernel
theorem dX2_bestRound_96 : decode cX2_bestRound 96 = .ok (.invokevirtual 72, 3) := by decide +kernel
theorem dX2_bestRound_99 : decode cX2_bestRound 99 = .ok (.istore 5, 2) := by decide +kernel
theorem dX2_bestRound_101 : decode cX2_bestRound 101 = .ok (.iinc 6 1, 3) := by decide +kernel
theorem dX2_bestRound_104 : decode cX2_bestRound 104 = .ok (.goto (-61), 3) := by decide +kernel
theorem dX2_bestRound_107 : decode cX2_bestRound 107 = .ok (.iload 4, 2) := by decide +kernel
theorem dX2_bestRound_109 : decode cX2_bestRound 109 = .ok (.ireturn, 1) := by decide +kernel
def wz_X2_bestRound : List Cond := .code yX2_bestRound cX2_bestRound 8 (some .int) :: ([Cond.fieldLink RX2 23 "HedgeMaze$Garden" "guestCount" "I", Cond.fieldLink RX2 15 "HedgeMaze$Host" "order" "[I", Cond.fieldLink RX2 9 "HedgeMaze$Host" "best" "[I", Cond.methodLink RX2 66 arraycopyName, Cond.native arraycopyName, Cond.static arraycopyName, Cond.initialized "java/lang/System", Cond.methodLink RX2 59 yX2_measureAll, Cond.instanceMethod yX2_measureAll, Cond.selects RX2 yX2_measureAll yX2_measureAll, Cond.initialized RX2, Cond.code yX2_measureAll cX2_measureAll 3 none, Cond.fieldLink RX2 29 "HedgeMaze$Garden" "plan" "LHedgeMaze$Plan;", Cond.fieldLink RX2 33 "HedgeMaze$Garden" "guests" "[I", Cond.fieldLink RX2 20 "HedgeMaze$Host" "stepsFrom" "[[I", Cond.methodLink RX2 36 yX0_openSides, Cond.instanceMethod yX0_openSides, Cond.selects RX0 yX0_openSides yX0_openSides, Cond.initialized RX0, Cond.code yX0_openSides cX0_openSides 1 (some .long), Cond.fieldLink RX0 22 "HedgeMaze$Garden" "hedges" "J", Cond.methodLink RX0 71 yX0_openWith, Cond.instanceMethod yX0_openWith, Cond.selects RX0 yX0_openWith yX0_openWith, Cond.code yX0_openWith cX0_openWith 3 (some .long), Cond.fieldLink RX0 12 "HedgeMaze$Garden" "plan" "LHedgeMaze$Plan;", Cond.fieldLink RX0 75 "HedgeMaze$Plan" "allSides" "J", Cond.fieldLink RX0 26 "HedgeMaze$Garden" "walls" "J", Cond.constantLong RX0 78 (-1), Cond.methodLink RX2 40 yX3_measure, Cond.instanceMethod yX3_measure, Cond.selects RX3 yX3_measure yX3_measure, Cond.initialized RX3, Cond.code yX3_measure cX3_measure 8 none, Cond.fieldLink RX3 18 "HedgeMaze$Plan" "cellCount" "I", Cond.methodLink RX3 48 yJ7_fill_53178, Cond.static yJ7_fill_53178, Cond.initialized RJ7, Cond.code yJ7_fill_53178 cJ7_fill_53178 4 none, Cond.methodLink RX3 71 yX3_grow, Cond.instanceMethod yX3_grow, Cond.selects RX3 yX3_grow yX3_grow, Cond.code yX3_grow cX3_grow 6 (some .int), Cond.fieldLink RX3 9 "HedgeMaze$Plan" "wide" "I", Cond.methodLink RX2 63 yX2_stepsOfRound, Cond.instanceMethod yX2_stepsOfRound, Cond.selects RX2 yX2_stepsOfRound yX2_stepsOfRound, Cond.code yX2_stepsOfRound cX2_stepsOfRound 7 (some .int), Cond.methodLink RX2 72 yX2_nextOrder, Cond.instanceMethod yX2_nextOrder, Cond.selects RX2 yX2_nextOrder yX2_nextOrder, Cond.code yX2_nextOrder cX2_nextOrder 6 (some .boolean), Cond.methodLink RX2 76 yX2_exchange, Cond.instanceMethod yX2_exchange, Cond.selects RX2 yX2_exchange yX2_exchange, Cond.code yX2_exchange cX2_exchange 4 none] ++ wsX00 ++ wsX20 ++ wsX30)
theorem wd_X2_bestRound_0 : Cond.fieldLink RX2 23 "HedgeMaze$Garden" "guestCount" "I" ∈ wz_X2_bestRound := List.mem_of_getElem? (i := 1) rfl
theorem wd_X2_bestRound_1 : Cond.fieldLink RX2 15 "HedgeMaze$Host" "order" "[I" ∈ wz_X2_bestRound := List.mem_of_getElem? (i := 2) rfl
theorem wd_X2_bestRound_2 : Cond.fieldLink RX2 9 "HedgeMaze$Host" "best" "[I" ∈ wz_X2_bestRound := List.mem_of_getElem? (i := 3) rfl
theorem wd_X2_bestRound_3 : Cond.methodLink RX2 66 arraycopyName ∈ wz_X2_bestRound := List.mem_of_getElem? (i := 4) rfl
theorem wd_X2_bestRound_4 : Cond.native arraycopyName ∈ wz_X2_bestRound := List.mem_of_getElem? (i := 5) rfl
theorem wd_X2_bestRound_5 : Cond.static arraycopyName ∈ wz_X2_bestRound := List.mem_of_getElem? (i := 6) rfl
theorem wd_X2_bestRound_6 : Cond.initialized "java/lang/System" ∈ wz_X2_bestRound := List.mem_of_getElem? (i := 7) rfl
theorem in_X2_bestRound_X0 : ∀ w ∈ wsX00, w ∈ wz_X2_bestRound := fun _ h => List.mem_cons_of_mem _ (List.mem_append_left _ (List.mem_append_left _ (List.mem_append_right _ h)))
theorem in_X2_bestRound_X2 : ∀ w ∈ wsX20, w ∈ wz_X2_bestRound := fun _ h => List.mem_cons_of_mem _ (List.mem_append_left _ (List.mem_append_right _ h))
set_option maxRecDepth 20000 in
theorem g_X2_bestRound_X2_measureAll : GoodIn wz_X2_bestRound (wsV RX2 59 RX2 yX2_measureAll wz_X2_measureAll) := goodIn_r _ [8, 9, 10, 11, 12, 1, 13, 14, 15, 16, 17, 18, 19, 20, 21, 22, 23, 24, 25, 26, 27, 28, 29, 30, 31, 32, 33, 34, 35, 36, 37, 38, 39, 40, 41, 42, 43, 44, 57, 58, 59, 60, 61, 62, 63, 64, 65, 66, 67, 68, 69, 70, 71, 72, 73, 74, 75, 76, 77, 78, 79, 80] rfl (by decide +kernel)
set_option maxRecDepth 20000 in
theorem g_X2_bestRound_X2_stepsOfRound : GoodIn wz_X2_bestRound (wsV RX2 63 RX2 yX2_stepsOfRound wz_X2_stepsOfRound) := goodIn_r _ [45, 46, 47, 11, 48, 1, 15, 2, 14, 57, 58, 59, 60, 61, 62, 63, 64, 65, 66, 67, 68, 69, 70, 71] rfl (by decide +kernel)
set_option maxRecDepth 20000 in
theorem g_X2_bestRound_X2_nextOrder : GoodIn wz_X2_bestRound (wsV RX2 72 RX2 yX2_nextOrder wz_X2_nextOrder) := goodIn_r _ [49, 50, 51, 11, 52, 2, 53, 54, 55, 11, 56, 69, 70, 71] rfl (by decide +kernel)
set_option maxHeartbeats 4000000 in
set_option maxRecDepth 100000 in
theorem c_X2_bestRound (l : Launch) (dC : Nat → ClassId) (dI : Nat → Nat → Nat) (sz : Nat) (ho : Nat) (hob : Nat) (hoo : Nat) (hos : Nat) (hoko : ClassId) (hokb : ClassId) (wO : Nat → Int32) (wB : Nat → Int32) (hoks : ClassId) (wS : Nat → Option Nat) (hr0 : Nat) (hkr0 : ClassId) (wR0 : Nat → Int32) (hr1 : Nat) (hkr1 : ClassId) (wR1 : Nat → Int32) (hr2 : Nat) (hkr2 : ClassId) (wR2 : Nat → Int32) (hr3 : Nat) (hkr3 : ClassId) (wR3 : Nat → Int32) (hr4 : Nat) (hkr4 : ClassId) (wR4 : Nat → Int32) (gd : Nat) (gdl : Int32) (gdh : Int64) (gdw : Int64) (gdi : Int32) (gde : Int32) (gdc : Int32) (gdt : Nat) (gdg : Int32) (gdu : Nat) (gdn : Int32) (gdx : Nat) (gdku : ClassId) (gdU : Nat → Int32) (pl : Nat) (plw : Int32) (pld : Int32) (plc : Int32) (pls : Int32) (plm : Int64) (plf : Nat) (plo : Nat) (plb : Nat) (pla : Nat) (p0 : Int32) (hq0 : wS 0 = some hr0) (hq1 : wS 1 = some hr1) (hq2 : wS 2 = some hr2) (hq3 : wS 3 = some hr3) (hq4 : wS 4 = some hr4) (h_gdg : 0 ≤ gdg.toInt ∧ gdg.toInt ≤ 5) (h_plc : 0 ≤ plc.toInt ∧ plc.toInt ≤ 25) (h_p0 : 0 ≤ p0.toInt ∧ p0.toInt ≤ 24) (hR_hoo : RG wO 5 0 4) (hR_gdu : RG gdU 5 0 24) : Met l yX2_bestRound wz_X2_bestRound ({ frames := 3, cells := 0, slots := 0, locals := 74 }) (va_Pc [.ref ho, .ref gd, .int p0] (fun U => U.heap.size = sz ∧ va_P (dC, dI) vwCl [(ho, .inr (2, [.ref hob, .ref hoo, .ref hos])), (hob, .inl (hokb, 5, .inl wB)), (hoo, .inl (hoko, 5, .inl wO)), (hos, .inl (hoks, 5, .inr (.inr (.inr (.inr wS))))), (hr0, .inl (hkr0, 25, .inl wR0)), (hr1, .inl (hkr1, 25, .inl wR1)), (hr2, .inl (hkr2, 25, .inl wR2)), (hr3, .inl (hkr3, 25, .inl wR3)), (hr4, .inl (hkr4, 25, .inl wR4)), (gd, .inr (0, [.ref pl, .int gdl, .long gdh, .long gdw, .int gdi, .int gde, .int gdc, .ref gdt, .int gdg, .ref gdu, .int gdn, .ref gdx])), (gdu, .inl (gdku, 5, .inl gdU)), (pl, .inr (3, [.int plw, .int pld, .int plc, .int pls, .long plm, .ref plf, .ref plo, .ref plb, .ref pla]))] U.heap ∧ va_K (dC, dI) vwCl [(hokb, .int), (hoko, .int), (hoks, .array .int), (hkr0, .int), (hkr1, .int), (hkr2, .int), (hkr3, .int), (hkr4, .int), (gdku, .int)] U ∧ va_D (fun _ => True) [(ho, .inr (2, [.ref hob, .ref hoo, .ref hos])), (hob, .inl (hokb, 5, .inl wB)), (hoo, .inl (hoko, 5, .inl wO)), (hos, .inl (hoks, 5, .inr (.inr (.inr (.inr wS))))), (hr0, .inl (hkr0, 25, .inl wR0)), (hr1, .inl (hkr1, 25, .inl wR1)), (hr2, .inl (hkr2, 25, .inl wR2)), (hr3, .inl (hkr3, 25, .inl wR3)), (hr4, .inl (hkr4, 25, .inl wR4)), (gd, .inr (0, [.ref pl, .int gdl, .long gdh, .long gdw, .int gdi, .int gde, .int gdc, .ref gdt, .int gdg, .ref gdu, .int gdn, .ref gdx])), (gdu, .inl (gdku, 5, .inl gdU)), (pl, .inr (3, [.int plw, .int pld, .int plc, .int pls, .long plm, .ref plf, .ref plo, .ref plb, .ref pla]))])) (va_Qi (fun (r : Int32) (u : (Nat → Int32) × (Nat → Int32) × (Nat → Int32) × (Nat → Int32) × (Nat → Int32) × (Nat → Int32) × (Nat → Int32)) => (RG u.2.1 5 0 4)) (fun (u : (Nat → Int32) × (Nat → Int32) × (Nat → Int32) × (Nat → Int32) × (Nat → Int32) × (Nat → Int32) × (Nat → Int32)) (t : State) => va_P (dC, dI) vwCl [(ho, .inr (2, [.ref hob, .ref hoo, .ref hos])), (hob, .inl (hokb, 5, .inl u.1)), (hoo, .inl (hoko, 5, .inl u.2.1)), (hos, .inl (hoks, 5, .inr (.inr (.inr (.inr wS))))), (hr0, .inl (hkr0, 25, .inl u.2.2.1)), (hr1, .inl (hkr1, 25, .inl u.2.2.2.1)), (hr2, .inl (hkr2, 25, .inl u.2.2.2.2.1)), (hr3, .inl (hkr3, 25, .inl u.2.2.2.2.2.1)), (hr4, .inl (hkr4, 25, .inl u.2.2.2.2.2.2)), (gd, .inr (0, [.ref pl, .int gdl, .long gdh, .long gdw, .int gdi, .int gde, .int gdc, .ref gdt, .int gdg, .ref gdu, .int gdn, .ref gdx])), (gdu, .inl (gdku, 5, .inl gdU)), (pl, .inr (3, [.int plw, .int pld, .int plc, .int pls, .long plm, .ref plf, .ref plo, .ref plb, .ref pla]))] t.heap ∧ va_K (dC, dI) vwCl [] t ∧ va_D (va_A [(ho, .inr (2, [.ref hob, .ref hoo, .ref hos])), (hob, .inl (hokb, 5, .inl wB)), (hoo, .inl (hoko, 5, .inl wO)), (hos, .inl (hoks, 5, .inr (.inr (.inr (.inr wS))))), (hr0, .inl (hkr0, 25, .inl wR0)), (hr1, .inl (hkr1, 25, .inl wR1)), (hr2, .inl (hkr2, 25, .inl wR2)), (hr3, .inl (hkr3, 25, .inl wR3)), (hr4, .inl (hkr4, 25, .inl wR4)), (gd, .inr (0, [.ref pl, .int gdl, .long gdh, .long gdw, .int gdi, .int gde, .int gdc, .ref gdt, .int gdg, .ref gdu, .int gdn, .ref gdx])), (gdu, .inl (gdku, 5, .inl gdU)), (pl, .inr (3, [.int plw, .int pld, .int plc, .int pls, .long plm, .ref plf, .ref plo, .ref plb, .ref pla]))] sz) [(ho, .inr (2, [.ref hob, .ref hoo, .ref hos])), (hob, .inl (hokb, 5, .inl u.1)), (hoo, .inl (hoko, 5, .inl u.2.1)), (hos, .inl (hoks, 5, .inr (.inr (.inr (.inr wS))))), (hr0, .inl (hkr0, 25, .inl u.2.2.1)), (hr1, .inl (hkr1, 25, .inl u.2.2.2.1)), (hr2, .inl (hkr2, 25, .inl u.2.2.2.2.1)), (hr3, .inl (hkr3, 25, .inl u.2.2.2.2.2.1)), (hr4, .inl (hkr4, 25, .inl u.2.2.2.2.2.2)), (gd, .inr (0, [.ref pl, .int gdl, .long gdh, .long gdw, .int gdi, .int gde, .int gdc, .ref gdt, .int gdg, .ref gdu, .int gdn, .ref gdx])), (gdu, .inl (gdku, 5, .inl gdU)), (pl, .inr (3, [.int plw, .int pld, .int plc, .int pls, .long plm, .ref plf, .ref plo, .ref plb, .ref pla]))]) (va_A [(ho, .inr (2, [.ref hob, .ref hoo, .ref hos])), (hob, .inl (hokb, 5, .inl wB)), (hoo, .inl (hoko, 5, .inl wO)), (hos, .inl (hoks, 5, .inr (.inr (.inr (.inr wS))))), (hr0, .inl (hkr0, 25, .inl wR0)), (hr1, .inl (hkr1, 25, .inl wR1)), (hr2, .inl (hkr2, 25, .inl wR2)), (hr3, .inl (hkr3, 25, .inl wR3)), (hr4, .inl (hkr4, 25, .inl wR4)), (gd, .inr (0, [.ref pl, .int gdl, .long gdh, .long gdw, .int gdi, .int gde, .int gdc, .ref gdt, .int gdg, .ref gdu, .int gdn, .ref gdx])), (gdu, .inl (gdku, 5, .inl gdU)), (pl, .inr (3, [.int plw, .int pld, .int plc, .int pls, .long plm, .ref plf, .ref plo, .ref plb, .ref pla]))] sz)) 0 0 (va_A [(ho, .inr (2, [.ref hob, .ref hoo, .ref hos])), (hob, .inl (hokb, 5, .inl wB)), (hoo, .inl (hoko, 5, .inl wO)), (hos, .inl (hoks, 5, .inr (.inr (.inr (.inr wS))))), (hr0, .inl (hkr0, 25, .inl wR0)), (hr1, .inl (hkr1, 25, .inl wR1)), (hr2, .inl (hkr2, 25, .inl wR2)), (hr3, .inl (hkr3, 25, .inl wR3)), (hr4, .inl (hkr4, 25, .inl wR4)), (gd, .inr (0, [.ref pl, .int gdl, .long gdh, .long gdw, .int gdi, .int gde, .int gdc, .ref gdt, .int gdg, .ref gdu, .int gdn, .ref gdx])), (gdu, .inl (gdku, 5, .inl gdU)), (pl, .inr (3, [.int plw, .int pld, .int plc, .int pls, .long plm, .ref plf, .ref plo, .ref plb, .ref pla]))] sz) := by
  refine Met.ofW (cc := cX2_bestRound) (maxL := 8) (ret := (some .int)) (by decide) rfl ?_
  intro p e s m args below meth c s₁ B hml hv
  obtain ⟨rfl, hsz, hP, hK, hD0⟩ := hv
  have hx := B.exec
  have hb := B.bytes
  have hr := B.returns
  have hts := atoms_spec (ws := wz_X2_bestRound) B.pre
  have hown : s.vm.findClass RX2 = some m.cls := findClass_of_methodNamed B.named
  have hlocks := B.notSynchronized
  subst hsz
  have hD := hD0.self (sz := s.heap.size)
  generalize hAe : va_A [(ho, .inr (2, [.ref hob, .ref hoo, .ref hos])), (hob, .inl (hokb, 5, .inl wB)), (hoo, .inl (hoko, 5, .inl wO)), (hos, .inl (hoks, 5, .inr (.inr (.inr (.inr wS))))), (hr0, .inl (hkr0, 25, .inl wR0)), (hr1, .inl (hkr1, 25, .inl wR1)), (hr2, .inl (hkr2, 25, .inl wR2)), (hr3, .inl (hkr3, 25, .inl wR3)), (hr4, .inl (hkr4, 25, .inl wR4)), (gd, .inr (0, [.ref pl, .int gdl, .long gdh, .long gdw, .int gdi, .int gde, .int gdc, .ref gdt, .int gdg, .ref gdu, .int gdn, .ref gdx])), (gdu, .inl (gdku, 5, .inl gdU)), (pl, .inr (3, [.int plw, .int pld, .int plc, .int pls, .long plm, .ref plf, .ref plo, .ref plb, .ref pla]))] s.heap.size = A at hD ⊢
  have hA : ∀ q : Nat, s.heap.size ≤ q → A q := fun q h => by rw [← hAe]; exact Or.inr h
  have hS : va_S A s.heap s.heap [] := va_S.rf
  have hP : va_P (dC, dI) vwCl [(ho, .inr (2, [.ref hob, .ref hoo, .ref hos])), (hob, .inl (hokb, 5, .inl wB)), (hoo, .inl (hoko, 5, .inl wO)), (hos, .inl (hoks, 5, .inr (.inr (.inr (.inr wS))))), (hr0, .inl (hkr0, 25, .inl wR0)), (hr1, .inl (hkr1, 25, .inl wR1)), (hr2, .inl (hkr2, 25, .inl wR2)), (hr3, .inl (hkr3, 25, .inl wR3)), (hr4, .inl (hkr4, 25, .inl wR4)), (gd, .inr (0, [.ref pl, .int gdl, .long gdh, .long gdw, .int gdi, .int gde, .int gdc, .ref gdt, .int gdg, .ref gdu, .int gdn, .ref gdx])), (gdu, .inl (gdku, 5, .inl gdU)), (pl, .inr (3, [.int plw, .int pld, .int plc, .int pls, .long plm, .ref plf, .ref plo, .ref plb, .ref pla]))] s.heap := hP
  have hl := lv_entry ([.ref ho, .ref gd, .int p0]) (n := 8) (Nat.le_of_ble_eq_true rfl)
  rw [lg_entry_eq]
  generalize (lg_sl ([.ref ho, .ref gd, .int p0]) ++ List.replicate (8 - (lg_sl ([.ref ho, .ref gd, .int p0])).length) Slot.unset).toArray = ls at hl ⊢
  have hl : lv_has ls 8 [(0, .ref ho), (1, .ref gd), (2, .int p0)] := hl
  refine lv_aload_n hx hb dX2_bestRound_0 rfl (lv_at hl 1 rfl) ?_
  refine va_get (D := (dC, dI)) (ci := 0) (v := .int gdg) (C := RX0) (T := TX0) (N := 12) hx hb hts in_X2_bestRound_X0 hown hK hP 9 rfl rfl 8 (by decide) (hts _ wd_X2_bestRound_0) (fun _ h9 => h9) rfl dX2_bestRound_1 ?_
  refine lv_istore_n (lv' := [(3, .int gdg), (0, .ref ho), (1, .ref gd), (2, .int p0)]) hx hb dX2_bestRound_4 rfl hl (by decide) rfl (fun ls hl => ?_)
  refine lv_aload_n hx hb dX2_bestRound_5 rfl (lv_at hl 1 rfl) ?_
  refine lv_aload_n hx hb dX2_bestRound_6 rfl (lv_at hl 2 rfl) ?_
  have hPc := hP.sub (ws' := [(ho, .inr (2, [.ref hob, .ref hoo, .ref hos])), (hos, .inl (hoks, 5, .inr (.inr (.inr (.inr wS))))), (hr0, .inl (hkr0, 25, .inl wR0)), (hr1, .inl (hkr1, 25, .inl wR1)), (hr2, .inl (hkr2, 25, .inl wR2)), (hr3, .inl (hkr3, 25, .inl wR3)), (hr4, .inl (hkr4, 25, .inl wR4)), (gd, .inr (0, [.ref pl, .int gdl, .long gdh, .long gdw, .int gdi, .int gde, .int gdc, .ref gdt, .int gdg, .ref gdu, .int gdn, .ref gdx])), (gdu, .inl (gdku, 5, .inl gdU)), (pl, .inr (3, [.int plw, .int pld, .int plc, .int pls, .long plm, .ref plf, .ref plo, .ref plb, .ref pla]))]) [0, 3, 4, 5, 6, 7, 8, 9, 10, 11] rfl
  have hDc := hD.sub (ws' := [(ho, .inr (2, [.ref hob, .ref hoo, .ref hos])), (hos, .inl (hoks, 5, .inr (.inr (.inr (.inr wS))))), (hr0, .inl (hkr0, 25, .inl wR0)), (hr1, .inl (hkr1, 25, .inl wR1)), (hr2, .inl (hkr2, 25, .inl wR2)), (hr3, .inl (hkr3, 25, .inl wR3)), (hr4, .inl (hkr4, 25, .inl wR4)), (gd, .inr (0, [.ref pl, .int gdl, .long gdh, .long gdw, .int gdi, .int gde, .int gdc, .ref gdt, .int gdg, .ref gdu, .int gdn, .ref gdx])), (gdu, .inl (gdku, 5, .inl gdU)), (pl, .inr (3, [.int plw, .int pld, .int plc, .int pls, .long plm, .ref plf, .ref plo, .ref plb, .ref pla]))]) [0, 3, 4, 5, 6, 7, 8, 9, 10, 11] (by decide) rfl
  have hKc := hK.sub (tys' := [(hoks, .array .int), (hkr0, .int), (hkr1, .int), (hkr2, .int), (hkr3, .int), (hkr4, .int), (gdku, .int)]) [2, 3, 4, 5, 6, 7, 8] rfl
  have hFc := va_free (wc := [(ho, .inr (2, [.ref hob, .ref hoo, .ref hos])), (hos, .inl (hoks, 5, .inr (.inr (.inr (.inr wS))))), (hr0, .inl (hkr0, 25, .inl wR0)), (hr1, .inl (hkr1, 25, .inl wR1)), (hr2, .inl (hkr2, 25, .inl wR2)), (hr3, .inl (hkr3, 25, .inl wR3)), (hr4, .inl (hkr4, 25, .inl wR4)), (gd, .inr (0, [.ref pl, .int gdl, .long gdh, .long gdw, .int gdi, .int gde, .int gdc, .ref gdt, .int gdg, .ref gdu, .int gdn, .ref gdx])), (gdu, .inl (gdku, 5, .inl gdU)), (pl, .inr (3, [.int plw, .int pld, .int plc, .int pls, .long plm, .ref plf, .ref plo, .ref plb, .ref pla]))]) hD hS hA [0, 3, 4, 5, 6, 7, 8, 9, 10, 11] rfl
  refine va_callv (va_runV (As := [.ref gd]) (rest := []) ⟨hx, hb, hml, hown, hts⟩ (c_X2_measureAll l dC dI s.heap.size ho hob hoo hos hoks wS hr0 hkr0 wR0 hr1 hkr1 wR1 hr2 hkr2 wR2 hr3 hkr3 wR3 hr4 hkr4 wR4 gd gdl gdh gdw gdi gde gdc gdt gdg gdu gdn gdx gdku gdU pl plw pld plc pls plm plf plo plb pla hq0 hq1 hq2 hq3 hq4 (by omega) (by omega) hR_gdu) (cwV 1 hts g_X2_bestRound_X2_measureAll rfl rfl rfl (by decide +kernel) ⟨Nat.le_of_ble_eq_true rfl, Nat.le_of_ble_eq_true rfl⟩) ⟨fun a U g mk q => by obtain ⟨q0, q1, qP, qK, qD⟩ := q; exact ⟨q0, q1, qP, va_K.moved (u := U) (U := U.calling g mk a) (Vm.Alike.refl U.vm) qK, qD⟩, va_recv hKc hPc (ci := 2) (q0 := 0) rfl rfl, fun U hU hW => ⟨rfl, by rw [hU], by rw [hU]; exact hPc, va_K.moved hW.alike hKc, hDc.weaken (fun _ _ _ _ => trivial)⟩⟩ rfl rfl hl.1 rfl (lv_room (Nat.le_of_ble_eq_true rfl)) dX2_bestRound_7 ⟨Nat.le_of_ble_eq_true rfl, Nat.le_of_ble_eq_true rfl⟩) hS (fun q _ h => hFc q h) hFc (fun u t H1 locs ht hvm hw_1 hB hz1 hk1 hS => ?_)
  obtain ⟨m0_2, m1_3, m2_4, m3_5, m4_6⟩ := u
  obtain ⟨hP1, hK1, hD1⟩ := hB
  have hP1 : va_P (dC, dI) vwCl [(ho, .inr (2, [.ref hob, .ref hoo, .ref hos])), (hos, .inl (hoks, 5, .inr (.inr (.inr (.inr wS))))), (hr0, .inl (hkr0, 25, .inl m0_2)), (hr1, .inl (hkr1, 25, .inl m1_3)), (hr2, .inl (hkr2, 25, .inl m2_4)), (hr3, .inl (hkr3, 25, .inl m3_5)), (hr4, .inl (hkr4, 25, .inl m4_6)), (gd, .inr (0, [.ref pl, .int gdl, .long gdh, .long gdw, .int gdi, .int gde, .int gdc, .ref gdt, .int gdg, .ref gdu, .int gdn, .ref gdx])), (gdu, .inl (gdku, 5, .inl gdU)), (pl, .inr (3, [.int plw, .int pld, .int plc, .int pls, .long plm, .ref plf, .ref plo, .ref plb, .ref pla]))] t.heap := hP1
  rw [ht] at hP1
  try dsimp only at hw_1
  obtain ⟨hP, hD⟩ := va_join (wr := [(hob, .inl (hokb, 5, .inl wB)), (hoo, .inl (hoko, 5, .inl wO))]) (w1 := [(ho, .inr (2, [.ref hob, .ref hoo, .ref hos])), (hos, .inl (hoks, 5, .inr (.inr (.inr (.inr wS))))), (hr0, .inl (hkr0, 25, .inl m0_2)), (hr1, .inl (hkr1, 25, .inl m1_3)), (hr2, .inl (hkr2, 25, .inl m2_4)), (hr3, .inl (hkr3, 25, .inl m3_5)), (hr4, .inl (hkr4, 25, .inl m4_6)), (gd, .inr (0, [.ref pl, .int gdl, .long gdh, .long gdw, .int gdi, .int gde, .int gdc, .ref gdt, .int gdg, .ref gdu, .int gdn, .ref gdx])), (gdu, .inl (gdku, 5, .inl gdU)), (pl, .inr (3, [.int plw, .int pld, .int plc, .int pls, .long plm, .ref plf, .ref plo, .ref plb, .ref pla]))]) hP hD [0, 3, 4, 5, 6, 7, 8, 9, 10, 11] [1, 2] rfl rfl (by decide) (by decide) hk1 hFc hP1 hD1
  generalize H1 = H at hP hS ⊢
  have hP : va_P (dC, dI) vwCl [(hob, .inl (hokb, 5, .inl wB)), (hoo, .inl (hoko, 5, .inl wO)), (ho, .inr (2, [.ref hob, .ref hoo, .ref hos])), (hos, .inl (hoks, 5, .inr (.inr (.inr (.inr wS))))), (hr0, .inl (hkr0, 25, .inl m0_2)), (hr1, .inl (hkr1, 25, .inl m1_3)), (hr2, .inl (hkr2, 25, .inl m2_4)), (hr3, .inl (hkr3, 25, .inl m3_5)), (hr4, .inl (hkr4, 25, .inl m4_6)), (gd, .inr (0, [.ref pl, .int gdl, .long gdh, .long gdw, .int gdi, .int gde, .int gdc, .ref gdt, .int gdg, .ref gdu, .int gdn, .ref gdx])), (gdu, .inl (gdku, 5, .inl gdU)), (pl, .inr (3, [.int plw, .int pld, .int plc, .int pls, .long plm, .ref plf, .ref plo, .ref plb, .ref pla]))] H := hP
  have hD : va_D A [(hob, .inl (hokb, 5, .inl wB)), (hoo, .inl (hoko, 5, .inl wO)), (ho, .inr (2, [.ref hob, .ref hoo, .ref hos])), (hos, .inl (hoks, 5, .inr (.inr (.inr (.inr wS))))), (hr0, .inl (hkr0, 25, .inl m0_2)), (hr1, .inl (hkr1, 25, .inl m1_3)), (hr2, .inl (hkr2, 25, .inl m2_4)), (hr3, .inl (hkr3, 25, .inl m3_5)), (hr4, .inl (hkr4, 25, .inl m4_6)), (gd, .inr (0, [.ref pl, .int gdl, .long gdh, .long gdw, .int gdi, .int gde, .int gdc, .ref gdt, .int gdg, .ref gdu, .int gdn, .ref gdx])), (gdu, .inl (gdku, 5, .inl gdU)), (pl, .inr (3, [.int plw, .int pld, .int plc, .int pls, .long plm, .ref plf, .ref plo, .ref plb, .ref pla]))] := hD
  refine lv_iconst (v := 0) hx hb dX2_bestRound_10 (by decide) ?_
  refine lv_istore (lv' := [(4, .int 0), (3, .int gdg), (0, .ref ho), (1, .ref gd), (2, .int p0)]) hx hb dX2_bestRound_11 hl (by decide) rfl (fun ls hl => ?_)
  refine lp_W (I := fun (a : Int32 × (Nat → Int32)) H locs ls => (0 ≤ a.1.toInt ∧ a.1.toInt ≤ 5) ∧ (RG a.2 5 0 4) ∧ va_P (dC, dI) vwCl [(hob, .inl (hokb, 5, .inl wB)), (hoo, .inl (hoko, 5, .inl a.2)), (ho, .inr (2, [.ref hob, .ref hoo, .ref hos])), (hos, .inl (hoks, 5, .inr (.inr (.inr (.inr wS))))), (hr0, .inl (hkr0, 25, .inl m0_2)), (hr1, .inl (hkr1, 25, .inl m1_3)), (hr2, .inl (hkr2, 25, .inl m2_4)), (hr3, .inl (hkr3, 25, .inl m3_5)), (hr4, .inl (hkr4, 25, .inl m4_6)), (gd, .inr (0, [.ref pl, .int gdl, .long gdh, .long gdw, .int gdi, .int gde, .int gdc, .ref gdt, .int gdg, .ref gdu, .int gdn, .ref gdx])), (gdu, .inl (gdku, 5, .inl gdU)), (pl, .inr (3, [.int plw, .int pld, .int plc, .int pls, .long plm, .ref plf, .ref plo, .ref plb, .ref pla]))] H ∧ va_D A [(hob, .inl (hokb, 5, .inl wB)), (hoo, .inl (hoko, 5, .inl a.2)), (ho, .inr (2, [.ref hob, .ref hoo, .ref hos])), (hos, .inl (hoks, 5, .inr (.inr (.inr (.inr wS))))), (hr0, .inl (hkr0, 25, .inl m0_2)), (hr1, .inl (hkr1, 25, .inl m1_3)), (hr2, .inl (hkr2, 25, .inl m2_4)), (hr3, .inl (hkr3, 25, .inl m3_5)), (hr4, .inl (hkr4, 25, .inl m4_6)), (gd, .inr (0, [.ref pl, .int gdl, .long gdh, .long gdw, .int gdi, .int gde, .int gdc, .ref gdt, .int gdg, .ref gdu, .int gdn, .ref gdx])), (gdu, .inl (gdku, 5, .inl gdU)), (pl, .inr (3, [.int plw, .int pld, .int plc, .int pls, .long plm, .ref plf, .ref plo, .ref plb, .ref pla]))] ∧ va_S A s.heap H locs ∧ lv_has ls 8 [(4, .int a.1), (3, .int gdg), (0, .ref ho), (1, .ref gd), (2, .int p0)]) (μ := fun a => (5 - a.1.toInt).toNat) ?_ ((0 : Int32), wO) ⟨(by have k0 : (0 : Int32).toInt = 0 := (by decide); (try dsimp only); omega), hR_hoo, hP.sub [0, 1, 2, 3, 4, 5, 6, 7, 8, 9, 10, 11] rfl, hD.sub [0, 1, 2, 3, 4, 5, 6, 7, 8, 9, 10, 11] (by decide) rfl, hS, lv_sub hl [0, 1, 2, 3, 4] rfl⟩
  intro a H locs ls hI ih13
  obtain ⟨i1, O1⟩ := a
  obtain ⟨h_i1, hO1, hP, hD, hS, hl⟩ := hI
  have h_i1 : 0 ≤ i1.toInt ∧ i1.toInt ≤ 5 := h_i1
  have hO1 : RG O1 5 0 4 := hO1
  have hP : va_P (dC, dI) vwCl [(hob, .inl (hokb, 5, .inl wB)), (hoo, .inl (hoko, 5, .inl O1)), (ho, .inr (2, [.ref hob, .ref hoo, .ref hos])), (hos, .inl (hoks, 5, .inr (.inr (.inr (.inr wS))))), (hr0, .inl (hkr0, 25, .inl m0_2)), (hr1, .inl (hkr1, 25, .inl m1_3)), (hr2, .inl (hkr2, 25, .inl m2_4)), (hr3, .inl (hkr3, 25, .inl m3_5)), (hr4, .inl (hkr4, 25, .inl m4_6)), (gd, .inr (0, [.ref pl, .int gdl, .long gdh, .long gdw, .int gdi, .int gde, .int gdc, .ref gdt, .int gdg, .ref gdu, .int gdn, .ref gdx])), (gdu, .inl (gdku, 5, .inl gdU)), (pl, .inr (3, [.int plw, .int pld, .int plc, .int pls, .long plm, .ref plf, .ref plo, .ref plb, .ref pla]))] H := hP
  have hD : va_D A [(hob, .inl (hokb, 5, .inl wB)), (hoo, .inl (hoko, 5, .inl O1)), (ho, .inr (2, [.ref hob, .ref hoo, .ref hos])), (hos, .inl (hoks, 5, .inr (.inr (.inr (.inr wS))))), (hr0, .inl (hkr0, 25, .inl m0_2)), (hr1, .inl (hkr1, 25, .inl m1_3)), (hr2, .inl (hkr2, 25, .inl m2_4)), (hr3, .inl (hkr3, 25, .inl m3_5)), (hr4, .inl (hkr4, 25, .inl m4_6)), (gd, .inr (0, [.ref pl, .int gdl, .long gdh, .long gdw, .int gdi, .int gde, .int gdc, .ref gdt, .int gdg, .ref gdu, .int gdn, .ref gdx])), (gdu, .inl (gdku, 5, .inl gdU)), (pl, .inr (3, [.int plw, .int pld, .int plc, .int pls, .long plm, .ref plf, .ref plo, .ref plb, .ref pla]))] := hD
  have hl : lv_has ls 8 [(4, .int i1), (3, .int gdg), (0, .ref ho), (1, .ref gd), (2, .int p0)] := hl
  refine lv_iload hx hb dX2_bestRound_13 (lv_at hl 0 rfl) ?_
  refine lv_iload_n hx hb dX2_bestRound_15 rfl (lv_at hl 1 rfl) ?_
  refine lv_icmp_ge (tgt := 34) hx hb dX2_bestRound_16 (by decide) (fun c_7 => ?_) (fun c_7 => ?_)
  · have c_7 : gdg.toInt ≤ i1.toInt := i_le (a := gdg) (b := i1) rfl rfl c_7
    refine lv_iconst (v := -1) hx hb dX2_bestRound_34 (by decide) ?_
    refine lv_istore (lv' := [(4, .int (-1)), (3, .int gdg), (0, .ref ho), (1, .ref gd), (2, .int p0)]) hx hb dX2_bestRound_35 hl (by decide) rfl (fun ls hl => ?_)
    refine lv_iconst (v := 1) hx hb dX2_bestRound_37 (by decide) ?_
    refine lv_istore (lv' := [(5, .int 1), (4, .int (-1)), (3, .int gdg), (0, .ref ho), (1, .ref gd), (2, .int p0)]) hx hb dX2_bestRound_38 hl (by decide) rfl (fun ls hl => ?_)
    refine lv_iconst (v := 0) hx hb dX2_bestRound_40 (by decide) ?_
    refine lv_istore (lv' := [(6, .int 0), (5, .int 1), (4, .int (-1)), (3, .int gdg), (0, .ref ho), (1, .ref gd), (2, .int p0)]) hx hb dX2_bestRound_41 hl (by decide) rfl (fun ls hl => ?_)
    refine lp_W (I := fun (a : Int32 × Int32 × Int32 × (Nat → Int32) × (Nat → Int32)) H locs ls => (0 ≤ a.1.toInt ∧ a.1.toInt ≤ 120) ∧ (RG a.2.2.2.1 5 0 4) ∧ va_P (dC, dI) vwCl [(hob, .inl (hokb, 5, .inl a.2.2.2.2)), (hoo, .inl (hoko, 5, .inl a.2.2.2.1)), (ho, .inr (2, [.ref hob, .ref hoo, .ref hos])), (hos, .inl (hoks, 5, .inr (.inr (.inr (.inr wS))))), (hr0, .inl (hkr0, 25, .inl m0_2)), (hr1, .inl (hkr1, 25, .inl m1_3)), (hr2, .inl (hkr2, 25, .inl m2_4)), (hr3, .inl (hkr3, 25, .inl m3_5)), (hr4, .inl (hkr4, 25, .inl m4_6)), (gd, .inr (0, [.ref pl, .int gdl, .long gdh, .long gdw, .int gdi, .int gde, .int gdc, .ref gdt, .int gdg, .ref gdu, .int gdn, .ref gdx])), (gdu, .inl (gdku, 5, .inl gdU)), (pl, .inr (3, [.int plw, .int pld, .int plc, .int pls, .long plm, .ref plf, .ref plo, .ref plb, .ref pla]))] H ∧ va_D A [(hob, .inl (hokb, 5, .inl a.2.2.2.2)), (hoo, .inl (hoko, 5, .inl a.2.2.2.1)), (ho, .inr (2, [.ref hob, .ref hoo, .ref hos])), (hos, .inl (hoks, 5, .inr (.inr (.inr (.inr wS))))), (hr0, .inl (hkr0, 25, .inl m0_2)), (hr1, .inl (hkr1, 25, .inl m1_3)), (hr2, .inl (hkr2, 25, .inl m2_4)), (hr3, .inl (hkr3, 25, .inl m3_5)), (hr4, .inl (hkr4, 25, .inl m4_6)), (gd, .inr (0, [.ref pl, .int gdl, .long gdh, .long gdw, .int gdi, .int gde, .int gdc, .ref gdt, .int gdg, .ref gdu, .int gdn, .ref gdx])), (gdu, .inl (gdku, 5, .inl gdU)), (pl, .inr (3, [.int plw, .int pld, .int plc, .int pls, .long plm, .ref plf, .ref plo, .ref plb, .ref pla]))] ∧ va_S A s.heap H locs ∧ lv_has ls 8 [(6, .int a.1), (5, .int a.2.2.1), (4, .int a.2.1), (3, .int gdg), (0, .ref ho), (1, .ref gd), (2, .int p0)]) (μ := fun a => (120 - a.1.toInt).toNat) ?_ ((0 : Int32), (-1 : Int32), (1 : Int32), O1, wB) ⟨(by have k0 : (-1 : Int32).toInt = -1 := (by decide); have k1 : (0 : Int32).toInt = 0 := (by decide); have k2 : (1 : Int32).toInt = 1 := (by decide); (try dsimp only); omega), hO1, hP.sub [0, 1, 2, 3, 4, 5, 6, 7, 8, 9, 10, 11] rfl, hD.sub [0, 1, 2, 3, 4, 5, 6, 7, 8, 9, 10, 11] (by decide) rfl, hS, lv_sub hl [0, 1, 2, 3, 4, 5, 6] rfl⟩
    intro a H locs ls hI ih43
    obtain ⟨r1, fw, go, O2, B2⟩ := a
    obtain ⟨h_r1, hO2, hP, hD, hS, hl⟩ := hI
    have h_r1 : 0 ≤ r1.toInt ∧ r1.toInt ≤ 120 := h_r1
    have hO2 : RG O2 5 0 4 := hO2
    have hP : va_P (dC, dI) vwCl [(hob, .inl (hokb, 5, .inl B2)), (hoo, .inl (hoko, 5, .inl O2)), (ho, .inr (2, [.ref hob, .ref hoo, .ref hos])), (hos, .inl (hoks, 5, .inr (.inr (.inr (.inr wS))))), (hr0, .inl (hkr0, 25, .inl m0_2)), (hr1, .inl (hkr1, 25, .inl m1_3)), (hr2, .inl (hkr2, 25, .inl m2_4)), (hr3, .inl (hkr3, 25, .inl m3_5)), (hr4, .inl (hkr4, 25, .inl m4_6)), (gd, .inr (0, [.ref pl, .int gdl, .long gdh, .long gdw, .int gdi, .int gde, .int gdc, .ref gdt, .int gdg, .ref gdu, .int gdn, .ref gdx])), (gdu, .inl (gdku, 5, .inl gdU)), (pl, .inr (3, [.int plw, .int pld, .int plc, .int pls, .long plm, .ref plf, .ref plo, .ref plb, .ref pla]))] H := hP
    have hD : va_D A [(hob, .inl (hokb, 5, .inl B2)), (hoo, .inl (hoko, 5, .inl O2)), (ho, .inr (2, [.ref hob, .ref hoo, .ref hos])), (hos, .inl (hoks, 5, .inr (.inr (.inr (.inr wS))))), (hr0, .inl (hkr0, 25, .inl m0_2)), (hr1, .inl (hkr1, 25, .inl m1_3)), (hr2, .inl (hkr2, 25, .inl m2_4)), (hr3, .inl (hkr3, 25, .inl m3_5)), (hr4, .inl (hkr4, 25, .inl m4_6)), (gd, .inr (0, [.ref pl, .int gdl, .long gdh, .long gdw, .int gdi, .int gde, .int gdc, .ref gdt, .int gdg, .ref gdu, .int gdn, .ref gdx])), (gdu, .inl (gdku, 5, .inl gdU)), (pl, .inr (3, [.int plw, .int pld, .int plc, .int pls, .long plm, .ref plf, .ref plo, .ref plb, .ref pla]))] := hD
    have hl : lv_has ls 8 [(6, .int r1), (5, .int go), (4, .int fw), (3, .int gdg), (0, .ref ho), (1, .ref gd), (2, .int p0)] := hl
    refine lv_iload hx hb dX2_bestRound_43 (lv_at hl 0 rfl) ?_
    refine lv_bipush (v := 120) hx hb dX2_bestRound_45 (by decide) ?_
    refine lv_icmp_ge (tgt := 107) hx hb dX2_bestRound_47 (by decide) (fun c_8 => ?_) (fun c_8 => ?_)
    · have c_8 : 120 ≤ r1.toInt := i_le (a := 120) (b := r1) (by decide) rfl c_8
      refine lv_iload hx hb dX2_bestRound_107 (lv_at hl 2 rfl) ?_
      have hP9 := hP.sub (ws' := [(ho, .inr (2, [.ref hob, .ref hoo, .ref hos])), (hob, .inl (hokb, 5, .inl B2)), (hoo, .inl (hoko, 5, .inl O2)), (hos, .inl (hoks, 5, .inr (.inr (.inr (.inr wS))))), (hr0, .inl (hkr0, 25, .inl m0_2)), (hr1, .inl (hkr1, 25, .inl m1_3)), (hr2, .inl (hkr2, 25, .inl m2_4)), (hr3, .inl (hkr3, 25, .inl m3_5)), (hr4, .inl (hkr4, 25, .inl m4_6)), (gd, .inr (0, [.ref pl, .int gdl, .long gdh, .long gdw, .int gdi, .int gde, .int gdc, .ref gdt, .int gdg, .ref gdu, .int gdn, .ref gdx])), (gdu, .inl (gdku, 5, .inl gdU)), (pl, .inr (3, [.int plw, .int pld, .int plc, .int pls, .long plm, .ref plf, .ref plo, .ref plb, .ref pla]))]) [2, 0, 1, 3, 4, 5, 6, 7, 8, 9, 10, 11] rfl
      have hD9 := hD.sub (ws' := [(ho, .inr (2, [.ref hob, .ref hoo, .ref hos])), (hob, .inl (hokb, 5, .inl B2)), (hoo, .inl (hoko, 5, .inl O2)), (hos, .inl (hoks, 5, .inr (.inr (.inr (.inr wS))))), (hr0, .inl (hkr0, 25, .inl m0_2)), (hr1, .inl (hkr1, 25, .inl m1_3)), (hr2, .inl (hkr2, 25, .inl m2_4)), (hr3, .inl (hkr3, 25, .inl m3_5)), (hr4, .inl (hkr4, 25, .inl m4_6)), (gd, .inr (0, [.ref pl, .int gdl, .long gdh, .long gdw, .int gdi, .int gde, .int gdc, .ref gdt, .int gdg, .ref gdu, .int gdn, .ref gdx])), (gdu, .inl (gdku, 5, .inl gdU)), (pl, .inr (3, [.int plw, .int pld, .int plc, .int pls, .long plm, .ref plf, .ref plo, .ref plb, .ref pla]))]) [2, 0, 1, 3, 4, 5, 6, 7, 8, 9, 10, 11] (by decide) rfl
      have hK9 := hK.sub (tys' := []) [] rfl
      refine W.widen (k := 0) (n := 0) (by omega) (by omega) ?_
      exact W.iret (v := fw) hx hb hr (fun t ht hW => ⟨⟨fw, (B2, O2, m0_2, m1_3, m2_4, m3_5, m4_6), rfl, hO2, by rw [ht]; exact hP9, va_K.moved hW.alike hK9, hD9⟩, hS.F ht⟩) hS.2.2 dX2_bestRound_109
    · have c_8 : r1.toInt < 120 := i_nle (a := 120) (b := r1) (by decide) rfl c_8
      refine lv_iload hx hb dX2_bestRound_50 (lv_at hl 1 rfl) ?_
      refine lv_if_eq (tgt := 107) hx hb dX2_bestRound_52 (by decide) (fun c_9 => ?_) (fun c_9 => ?_)
      · have c_9 : go.toInt = 0 := i_eq (a := go) (b := 0) rfl (by decide) c_9
        refine lv_iload hx hb dX2_bestRound_107 (lv_at hl 2 rfl) ?_
        have hP9 := hP.sub (ws' := [(ho, .inr (2, [.ref hob, .ref hoo, .ref hos])), (hob, .inl (hokb, 5, .inl B2)), (hoo, .inl (hoko, 5, .inl O2)), (hos, .inl (hoks, 5, .inr (.inr (.inr (.inr wS))))), (hr0, .inl (hkr0, 25, .inl m0_2)), (hr1, .inl (hkr1, 25, .inl m1_3)), (hr2, .inl (hkr2, 25, .inl m2_4)), (hr3, .inl (hkr3, 25, .inl m3_5)), (hr4, .inl (hkr4, 25, .inl m4_6)), (gd, .inr (0, [.ref pl, .int gdl, .long gdh, .long gdw, .int gdi, .int gde, .int gdc, .ref gdt, .int gdg, .ref gdu, .int gdn, .ref gdx])), (gdu, .inl (gdku, 5, .inl gdU)), (pl, .inr (3, [.int plw, .int pld, .int plc, .int pls, .long plm, .ref plf, .ref plo, .ref plb, .ref pla]))]) [2, 0, 1, 3, 4, 5, 6, 7, 8, 9, 10, 11] rfl
        have hD9 := hD.sub (ws' := [(ho, .inr (2, [.ref hob, .ref hoo, .ref hos])), (hob, .inl (hokb, 5, .inl B2)), (hoo, .inl (hoko, 5, .inl O2)), (hos, .inl (hoks, 5, .inr (.inr (.inr (.inr wS))))), (hr0, .inl (hkr0, 25, .inl m0_2)), (hr1, .inl (hkr1, 25, .inl m1_3)), (hr2, .inl (hkr2, 25, .inl m2_4)), (hr3, .inl (hkr3, 25, .inl m3_5)), (hr4, .inl (hkr4, 25, .inl m4_6)), (gd, .inr (0, [.ref pl, .int gdl, .long gdh, .long gdw, .int gdi, .int gde, .int gdc, .ref gdt, .int gdg, .ref gdu, .int gdn, .ref gdx])), (gdu, .inl (gdku, 5, .inl gdU)), (pl, .inr (3, [.int plw, .int pld, .int plc, .int pls, .long plm, .ref plf, .ref plo, .ref plb, .ref pla]))]) [2, 0, 1, 3, 4, 5, 6, 7, 8, 9, 10, 11] (by decide) rfl
        have hK9 := hK.sub (tys' := []) [] rfl
        refine W.widen (k := 0) (n := 0) (by omega) (by omega) ?_
        exact W.iret (v := fw) hx hb hr (fun t ht hW => ⟨⟨fw, (B2, O2, m0_2, m1_3, m2_4, m3_5, m4_6), rfl, hO2, by rw [ht]; exact hP9, va_K.moved hW.alike hK9, hD9⟩, hS.F ht⟩) hS.2.2 dX2_bestRound_109
      · have c_9 : go.toInt ≠ 0 := i_ne (a := go) (b := 0) rfl (by decide) c_9
        refine lv_aload_n hx hb dX2_bestRound_55 rfl (lv_at hl 4 rfl) ?_
        refine lv_aload_n hx hb dX2_bestRound_56 rfl (lv_at hl 5 rfl) ?_
        refine lv_iload_n hx hb dX2_bestRound_57 rfl (lv_at hl 6 rfl) ?_
        have hPc := hP.sub (ws' := [(ho, .inr (2, [.ref hob, .ref hoo, .ref hos])), (hoo, .inl (hoko, 5, .inl O2)), (hos, .inl (hoks, 5, .inr (.inr (.inr (.inr wS))))), (hr0, .inl (hkr0, 25, .inl m0_2)), (hr1, .inl (hkr1, 25, .inl m1_3)), (hr2, .inl (hkr2, 25, .inl m2_4)), (hr3, .inl (hkr3, 25, .inl m3_5)), (hr4, .inl (hkr4, 25, .inl m4_6)), (gd, .inr (0, [.ref pl, .int gdl, .long gdh, .long gdw, .int gdi, .int gde, .int gdc, .ref gdt, .int gdg, .ref gdu, .int gdn, .ref gdx])), (gdu, .inl (gdku, 5, .inl gdU))]) [2, 1, 3, 4, 5, 6, 7, 8, 9, 10] rfl
        have hDc := hD.sub (ws' := [(ho, .inr (2, [.ref hob, .ref hoo, .ref hos])), (hoo, .inl (hoko, 5, .inl O2)), (hos, .inl (hoks, 5, .inr (.inr (.inr (.inr wS))))), (hr0, .inl (hkr0, 25, .inl m0_2)), (hr1, .inl (hkr1, 25, .inl m1_3)), (hr2, .inl (hkr2, 25, .inl m2_4)), (hr3, .inl (hkr3, 25, .inl m3_5)), (hr4, .inl (hkr4, 25, .inl m4_6)), (gd, .inr (0, [.ref pl, .int gdl, .long gdh, .long gdw, .int gdi, .int gde, .int gdc, .ref gdt, .int gdg, .ref gdu, .int gdn, .ref gdx])), (gdu, .inl (gdku, 5, .inl gdU))]) [2, 1, 3, 4, 5, 6, 7, 8, 9, 10] (by decide) rfl
        have hKc := hK.sub (tys' := [(hoko, .int), (hoks, .array .int), (hkr0, .int), (hkr1, .int), (hkr2, .int), (hkr3, .int), (hkr4, .int), (gdku, .int)]) [1, 2, 3, 4, 5, 6, 7, 8] rfl
        have hFc := va_free (wc := [(ho, .inr (2, [.ref hob, .ref hoo, .ref hos])), (hoo, .inl (hoko, 5, .inl O2)), (hos, .inl (hoks, 5, .inr (.inr (.inr (.inr wS))))), (hr0, .inl (hkr0, 25, .inl m0_2)), (hr1, .inl (hkr1, 25, .inl m1_3)), (hr2, .inl (hkr2, 25, .inl m2_4)), (hr3, .inl (hkr3, 25, .inl m3_5)), (hr4, .inl (hkr4, 25, .inl m4_6)), (gd, .inr (0, [.ref pl, .int gdl, .long gdh, .long gdw, .int gdi, .int gde, .int gdc, .ref gdt, .int gdg, .ref gdu, .int gdn, .ref gdx])), (gdu, .inl (gdku, 5, .inl gdU))]) hD hS hA [2, 1, 3, 4, 5, 6, 7, 8, 9, 10] rfl
        refine va_calli (va_runV (As := [.ref gd, .int p0]) (rest := []) ⟨hx, hb, hml, hown, hts⟩ (c_X2_stepsOfRound l dC dI H.size ho hob hoo hos hoko O2 hoks wS hr0 hkr0 m0_2 hr1 hkr1 m1_3 hr2 hkr2 m2_4 hr3 hkr3 m3_5 hr4 hkr4 m4_6 gd gdl gdh gdw gdi gde gdc gdt gdg gdu gdn gdx gdku gdU pl p0 hq0 hq1 hq2 hq3 hq4 (by omega) (by omega) hO2 hR_gdu) (cwV 2 hts g_X2_bestRound_X2_stepsOfRound rfl rfl rfl (by decide +kernel) ⟨Nat.le_of_ble_eq_true rfl, Nat.le_of_ble_eq_true rfl⟩) ⟨fun a U g mk q => by obtain ⟨q0, q1, qP, qK, qD⟩ := q; exact ⟨q0, q1, qP, va_K.moved (u := U) (U := U.calling g mk a) (Vm.Alike.refl U.vm) qK, qD⟩, va_recv hKc hPc (ci := 2) (q0 := 0) rfl rfl, fun U hU hW => ⟨rfl, by rw [hU], by rw [hU]; exact hPc, va_K.moved hW.alike hKc, hDc.weaken (fun _ _ _ _ => trivial)⟩⟩ rfl rfl hl.1 rfl (lv_room (Nat.le_of_ble_eq_true rfl)) dX2_bestRound_58 ⟨Nat.le_of_ble_eq_true rfl, Nat.le_of_ble_eq_true rfl⟩) hS (fun q _ h => hFc q h) hFc (fun r_10 u t H1 locs ht hvm hw_11 hB hz1 hk1 hS => ?_)
        obtain ⟨hP1, hK1, hD1⟩ := hB
        have hP1 : va_P (dC, dI) vwCl [(ho, .inr (2, [.ref hob, .ref hoo, .ref hos])), (hoo, .inl (hoko, 5, .inl O2)), (hos, .inl (hoks, 5, .inr (.inr (.inr (.inr wS))))), (hr0, .inl (hkr0, 25, .inl m0_2)), (hr1, .inl (hkr1, 25, .inl m1_3)), (hr2, .inl (hkr2, 25, .inl m2_4)), (hr3, .inl (hkr3, 25, .inl m3_5)), (hr4, .inl (hkr4, 25, .inl m4_6)), (gd, .inr (0, [.ref pl, .int gdl, .long gdh, .long gdw, .int gdi, .int gde, .int gdc, .ref gdt, .int gdg, .ref gdu, .int gdn, .ref gdx])), (gdu, .inl (gdku, 5, .inl gdU))] t.heap := hP1
        rw [ht] at hP1
        try dsimp only at hw_11
        obtain ⟨hP, hD⟩ := va_join (wr := [(hob, .inl (hokb, 5, .inl B2)), (pl, .inr (3, [.int plw, .int pld, .int plc, .int pls, .long plm, .ref plf, .ref plo, .ref plb, .ref pla]))]) (w1 := [(ho, .inr (2, [.ref hob, .ref hoo, .ref hos])), (hoo, .inl (hoko, 5, .inl O2)), (hos, .inl (hoks, 5, .inr (.inr (.inr (.inr wS))))), (hr0, .inl (hkr0, 25, .inl m0_2)), (hr1, .inl (hkr1, 25, .inl m1_3)), (hr2, .inl (hkr2, 25, .inl m2_4)), (hr3, .inl (hkr3, 25, .inl m3_5)), (hr4, .inl (hkr4, 25, .inl m4_6)), (gd, .inr (0, [.ref pl, .int gdl, .long gdh, .long gdw, .int gdi, .int gde, .int gdc, .ref gdt, .int gdg, .ref gdu, .int gdn, .ref gdx])), (gdu, .inl (gdku, 5, .inl gdU))]) hP hD [2, 1, 3, 4, 5, 6, 7, 8, 9, 10] [0, 11] rfl rfl (by decide) (by decide) hk1 hFc hP1 hD1
        generalize H1 = H at hP hS ⊢
        have hP : va_P (dC, dI) vwCl [(hob, .inl (hokb, 5, .inl B2)), (pl, .inr (3, [.int plw, .int pld, .int plc, .int pls, .long plm, .ref plf, .ref plo, .ref plb, .ref pla])), (ho, .inr (2, [.ref hob, .ref hoo, .ref hos])), (hoo, .inl (hoko, 5, .inl O2)), (hos, .inl (hoks, 5, .inr (.inr (.inr (.inr wS))))), (hr0, .inl (hkr0, 25, .inl m0_2)), (hr1, .inl (hkr1, 25, .inl m1_3)), (hr2, .inl (hkr2, 25, .inl m2_4)), (hr3, .inl (hkr3, 25, .inl m3_5)), (hr4, .inl (hkr4, 25, .inl m4_6)), (gd, .inr (0, [.ref pl, .int gdl, .long gdh, .long gdw, .int gdi, .int gde, .int gdc, .ref gdt, .int gdg, .ref gdu, .int gdn, .ref gdx])), (gdu, .inl (gdku, 5, .inl gdU))] H := hP
        have hD : va_D A [(hob, .inl (hokb, 5, .inl B2)), (pl, .inr (3, [.int plw, .int pld, .int plc, .int pls, .long plm, .ref plf, .ref plo, .ref plb, .ref pla])), (ho, .inr (2, [.ref hob, .ref hoo, .ref hos])), (hoo, .inl (hoko, 5, .inl O2)), (hos, .inl (hoks, 5, .inr (.inr (.inr (.inr wS))))), (hr0, .inl (hkr0, 25, .inl m0_2)), (hr1, .inl (hkr1, 25, .inl m1_3)), (hr2, .inl (hkr2, 25, .inl m2_4)), (hr3, .inl (hkr3, 25, .inl m3_5)), (hr4, .inl (hkr4, 25, .inl m4_6)), (gd, .inr (0, [.ref pl, .int gdl, .long gdh, .long gdw, .int gdi, .int gde, .int gdc, .ref gdt, .int gdg, .ref gdu, .int gdn, .ref gdx])), (gdu, .inl (gdku, 5, .inl gdU))] := hD
        refine lv_istore (lv' := [(7, .int r_10), (6, .int r1), (5, .int go), (4, .int fw), (3, .int gdg), (0, .ref ho), (1, .ref gd), (2, .int p0)]) hx hb dX2_bestRound_61 hl (by decide) rfl (fun ls hl => ?_)
        refine lv_iload hx hb dX2_bestRound_63 (lv_at hl 3 rfl) ?_
        refine lv_iconst (v := -1) hx hb dX2_bestRound_65 (by decide) ?_
        refine lv_icmp_eq (tgt := 76) hx hb dX2_bestRound_66 (by decide) (fun c_12 => ?_) (fun c_12 => ?_)
        · have c_12 : fw.toInt = (-1) := i_eq (a := fw) (b := -1) rfl (by decide) c_12
          refine lv_iload hx hb dX2_bestRound_76 (lv_at hl 0 rfl) ?_
          refine lv_istore (lv' := [(4, .int r_10), (7, .int r_10), (6, .int r1), (5, .int go), (3, .int gdg), (0, .ref ho), (1, .ref gd), (2, .int p0)]) hx hb dX2_bestRound_78 hl (by decide) rfl (fun ls hl => ?_)
          refine lv_aload_n hx hb dX2_bestRound_80 rfl (lv_at hl 5 rfl) ?_
          refine va_get (D := (dC, dI)) (ci := 2) (v := .ref hoo) (C := RX2) (T := TX2) (N := 3) hx hb hts in_X2_bestRound_X2 hown hK hP 2 rfl rfl 1 (by decide) (hts _ wd_X2_bestRound_1) (fun _ h9 => h9) rfl dX2_bestRound_81 ?_
          refine lv_iconst (v := 0) hx hb dX2_bestRound_84 (by decide) ?_
          refine lv_aload_n hx hb dX2_bestRound_85 rfl (lv_at hl 5 rfl) ?_
          refine va_get (D := (dC, dI)) (ci := 2) (v := .ref hob) (C := RX2) (T := TX2) (N := 3) hx hb hts in_X2_bestRound_X2 hown hK hP 2 rfl rfl 0 (by decide) (hts _ wd_X2_bestRound_2) (fun _ h9 => h9) rfl dX2_bestRound_86 ?_
          refine lv_iconst (v := 0) hx hb dX2_bestRound_89 (by decide) ?_
          refine lv_iload_n hx hb dX2_bestRound_90 rfl (lv_at hl 4 rfl) ?_
          refine va_copyi hx hb (hml.trans hl.1.symm) hown (hts _ wd_X2_bestRound_3) (hts _ wd_X2_bestRound_4) (hts _ wd_X2_bestRound_5) (hts _ wd_X2_bestRound_6) hK hP hD hS 3 0 1 0 rfl rfl rfl rfl rfl (by decide) (by decide) (i_nn rfl (by omega)) (i_cp rfl (by omega) (by omega)) (i_cp rfl (by omega) (by omega)) (fun _ _ => rfl) (Nat.le_of_ble_eq_true rfl) (Nat.le_of_ble_eq_true rfl) dX2_bestRound_91 (fun H locs hP hD hS => ?_)
          have hP : va_P (dC, dI) vwCl [(hob, .inl (hokb, 5, .inl (va_cpy O2 B2 ((0 : Int32)).toNatClampNeg ((0 : Int32)).toNatClampNeg gdg.toNatClampNeg))), (pl, .inr (3, [.int plw, .int pld, .int plc, .int pls, .long plm, .ref plf, .ref plo, .ref plb, .ref pla])), (ho, .inr (2, [.ref hob, .ref hoo, .ref hos])), (hoo, .inl (hoko, 5, .inl O2)), (hos, .inl (hoks, 5, .inr (.inr (.inr (.inr wS))))), (hr0, .inl (hkr0, 25, .inl m0_2)), (hr1, .inl (hkr1, 25, .inl m1_3)), (hr2, .inl (hkr2, 25, .inl m2_4)), (hr3, .inl (hkr3, 25, .inl m3_5)), (hr4, .inl (hkr4, 25, .inl m4_6)), (gd, .inr (0, [.ref pl, .int gdl, .long gdh, .long gdw, .int gdi, .int gde, .int gdc, .ref gdt, .int gdg, .ref gdu, .int gdn, .ref gdx])), (gdu, .inl (gdku, 5, .inl gdU))] H := hP
          have hD : va_D A [(hob, .inl (hokb, 5, .inl (va_cpy O2 B2 ((0 : Int32)).toNatClampNeg ((0 : Int32)).toNatClampNeg gdg.toNatClampNeg))), (pl, .inr (3, [.int plw, .int pld, .int plc, .int pls, .long plm, .ref plf, .ref plo, .ref plb, .ref pla])), (ho, .inr (2, [.ref hob, .ref hoo, .ref hos])), (hoo, .inl (hoko, 5, .inl O2)), (hos, .inl (hoks, 5, .inr (.inr (.inr (.inr wS))))), (hr0, .inl (hkr0, 25, .inl m0_2)), (hr1, .inl (hkr1, 25, .inl m1_3)), (hr2, .inl (hkr2, 25, .inl m2_4)), (hr3, .inl (hkr3, 25, .inl m3_5)), (hr4, .inl (hkr4, 25, .inl m4_6)), (gd, .inr (0, [.ref pl, .int gdl, .long gdh, .long gdw, .int gdi, .int gde, .int gdc, .ref gdt, .int gdg, .ref gdu, .int gdn, .ref gdx])), (gdu, .inl (gdku, 5, .inl gdU))] := hD
          obtain ⟨f_13, ef_13⟩ : ∃ g, g = va_cpy O2 B2 ((0 : Int32)).toNatClampNeg ((0 : Int32)).toNatClampNeg gdg.toNatClampNeg := ⟨_, rfl⟩
          rw [← ef_13] at hP hD
          refine lv_aload_n hx hb dX2_bestRound_94 rfl (lv_at hl 5 rfl) ?_
          refine lv_iload_n hx hb dX2_bestRound_95 rfl (lv_at hl 4 rfl) ?_
          have hPc := hP.sub (ws' := [(ho, .inr (2, [.ref hob, .ref hoo, .ref hos])), (hoo, .inl (hoko, 5, .inl O2))]) [2, 3] rfl
          have hDc := hD.sub (ws' := [(ho, .inr (2, [.ref hob, .ref hoo, .ref hos])), (hoo, .inl (hoko, 5, .inl O2))]) [2, 3] (by decide) rfl
          have hKc := hK.sub (tys' := [(hoko, .int)]) [1] rfl
          have hFc := va_free (wc := [(ho, .inr (2, [.ref hob, .ref hoo, .ref hos])), (hoo, .inl (hoko, 5, .inl O2))]) hD hS hA [2, 3] rfl
          refine va_calli (va_runV (As := [.int gdg]) (rest := []) ⟨hx, hb, hml, hown, hts⟩ (c_X2_nextOrder l dC dI H.size ho hob hoo hos hoko O2 gdg (by omega) hO2) (cwV 1 hts g_X2_bestRound_X2_nextOrder rfl rfl rfl (by decide +kernel) ⟨Nat.le_of_ble_eq_true rfl, Nat.le_of_ble_eq_true rfl⟩) ⟨fun a U g mk q => by obtain ⟨q0, q1, qP, qK, qD⟩ := q; exact ⟨q0, q1, qP, va_K.moved (u := U) (U := U.calling g mk a) (Vm.Alike.refl U.vm) qK, qD⟩, va_recv hKc hPc (ci := 2) (q0 := 0) rfl rfl, fun U hU hW => ⟨rfl, by rw [hU], by rw [hU]; exact hPc, va_K.moved hW.alike hKc, hDc.weaken (fun _ _ _ _ => trivial)⟩⟩ rfl rfl hl.1 rfl (lv_room (Nat.le_of_ble_eq_true rfl)) dX2_bestRound_96 ⟨Nat.le_of_ble_eq_true rfl, Nat.le_of_ble_eq_true rfl⟩) hS (fun q _ h => hFc q h) hFc (fun r_14 u t H1 locs ht hvm hw_15 hB hz1 hk1 hS => ?_)
          obtain ⟨nO_16, rfl⟩ : ∃ z, z = u := ⟨_, rfl⟩
          obtain ⟨hP1, hK1, hD1⟩ := hB
          have hP1 : va_P (dC, dI) vwCl [(ho, .inr (2, [.ref hob, .ref hoo, .ref hos])), (hoo, .inl (hoko, 5, .inl nO_16))] t.heap := hP1
          rw [ht] at hP1
          try dsimp only at hw_15
          obtain ⟨hp_17, hp_18⟩ := hw_15
          obtain ⟨hP, hD⟩ := va_join (wr := [(hob, .inl (hokb, 5, .inl f_13)), (pl, .inr (3, [.int plw, .int pld, .int plc, .int pls, .long plm, .ref plf, .ref plo, .ref plb, .ref pla])), (hos, .inl (hoks, 5, .inr (.inr (.inr (.inr wS))))), (hr0, .inl (hkr0, 25, .inl m0_2)), (hr1, .inl (hkr1, 25, .inl m1_3)), (hr2, .inl (hkr2, 25, .inl m2_4)), (hr3, .inl (hkr3, 25, .inl m3_5)), (hr4, .inl (hkr4, 25, .inl m4_6)), (gd, .inr (0, [.ref pl, .int gdl, .long gdh, .long gdw, .int gdi, .int gde, .int gdc, .ref gdt, .int gdg, .ref gdu, .int gdn, .ref gdx])), (gdu, .inl (gdku, 5, .inl gdU))]) (w1 := [(ho, .inr (2, [.ref hob, .ref hoo, .ref hos])), (hoo, .inl (hoko, 5, .inl nO_16))]) hP hD [2, 3] [0, 1, 4, 5, 6, 7, 8, 9, 10, 11] rfl rfl (by decide) (by decide) hk1 hFc hP1 hD1
          generalize H1 = H at hP hS ⊢
          have hP : va_P (dC, dI) vwCl [(hob, .inl (hokb, 5, .inl f_13)), (pl, .inr (3, [.int plw, .int pld, .int plc, .int pls, .long plm, .ref plf, .ref plo, .ref plb, .ref pla])), (hos, .inl (hoks, 5, .inr (.inr (.inr (.inr wS))))), (hr0, .inl (hkr0, 25, .inl m0_2)), (hr1, .inl (hkr1, 25, .inl m1_3)), (hr2, .inl (hkr2, 25, .inl m2_4)), (hr3, .inl (hkr3, 25, .inl m3_5)), (hr4, .inl (hkr4, 25, .inl m4_6)), (gd, .inr (0, [.ref pl, .int gdl, .long gdh, .long gdw, .int gdi, .int gde, .int gdc, .ref gdt, .int gdg, .ref gdu, .int gdn, .ref gdx])), (gdu, .inl (gdku, 5, .inl gdU)), (ho, .inr (2, [.ref hob, .ref hoo, .ref hos])), (hoo, .inl (hoko, 5, .inl nO_16))] H := hP
          have hD : va_D A [(hob, .inl (hokb, 5, .inl f_13)), (pl, .inr (3, [.int plw, .int pld, .int plc, .int pls, .long plm, .ref plf, .ref plo, .ref plb, .ref pla])), (hos, .inl (hoks, 5, .inr (.inr (.inr (.inr wS))))), (hr0, .inl (hkr0, 25, .inl m0_2)), (hr1, .inl (hkr1, 25, .inl m1_3)), (hr2, .inl (hkr2, 25, .inl m2_4)), (hr3, .inl (hkr3, 25, .inl m3_5)), (hr4, .inl (hkr4, 25, .inl m4_6)), (gd, .inr (0, [.ref pl, .int gdl, .long gdh, .long gdw, .int gdi, .int gde, .int gdc, .ref gdt, .int gdg, .ref gdu, .int gdn, .ref gdx])), (gdu, .inl (gdku, 5, .inl gdU)), (ho, .inr (2, [.ref hob, .ref hoo, .ref hos])), (hoo, .inl (hoko, 5, .inl nO_16))] := hD
          refine lv_istore (lv' := [(5, .int r_14), (4, .int r_10), (7, .int r_10), (6, .int r1), (3, .int gdg), (0, .ref ho), (1, .ref gd), (2, .int p0)]) hx hb dX2_bestRound_99 hl (by decide) rfl (fun ls hl => ?_)
          obtain ⟨x_19, ex_19⟩ : ∃ y9 : Int32, y9 = r1 + Int32.ofInt 1 := ⟨_, rfl⟩
          have zx_19 : x_19.toInt = r1.toInt + 1 := by rw [ex_19]; exact i_add rfl (show (Int32.ofInt 1).toInt = 1 by decide) (by omega) (by omega)
          refine lv_iinc (v := x_19) (lv' := [(6, .int x_19), (5, .int r_14), (4, .int r_10), (7, .int r_10), (3, .int gdg), (0, .ref ho), (1, .ref gd), (2, .int p0)]) hx hb dX2_bestRound_101 hl (k := 3) rfl (by rw [ex_19]) (by decide) rfl (fun ls hl => ?_)
          refine lv_goto (tgt := 43) hx hb dX2_bestRound_104 (by decide) ?_
          exact ih43 (x_19, r_10, r_14, nO_16, f_13) _ _ _ ⟨(by (try dsimp only); omega), hp_18, hP.sub [0, 11, 10, 2, 3, 4, 5, 6, 7, 8, 9, 1] rfl, hD.sub [0, 11, 10, 2, 3, 4, 5, 6, 7, 8, 9, 1] (by decide) rfl, hS, lv_sub hl [0, 1, 2, 4, 5, 6, 7] rfl⟩ (by (try dsimp only); omega)
        · have c_12 : fw.toInt ≠ (-1) := i_ne (a := fw) (b := -1) rfl (by decide) c_12
          refine lv_iload hx hb dX2_bestRound_69 (lv_at hl 0 rfl) ?_
          refine lv_iload hx hb dX2_bestRound_71 (lv_at hl 3 rfl) ?_
          refine lv_icmp_ge (tgt := 94) hx hb dX2_bestRound_73 (by decide) (fun c_20 => ?_) (fun c_20 => ?_)
          · have c_20 : fw.toInt ≤ r_10.toInt := i_le (a := fw) (b := r_10) rfl rfl c_20
            refine lv_aload_n hx hb dX2_bestRound_94 rfl (lv_at hl 5 rfl) ?_
            refine lv_iload_n hx hb dX2_bestRound_95 rfl (lv_at hl 4 rfl) ?_
            have hPc := hP.sub (ws' := [(ho, .inr (2, [.ref hob, .ref hoo, .ref hos])), (hoo, .inl (hoko, 5, .inl O2))]) [2, 3] rfl
            have hDc := hD.sub (ws' := [(ho, .inr (2, [.ref hob, .ref hoo, .ref hos])), (hoo, .inl (hoko, 5, .inl O2))]) [2, 3] (by decide) rfl
            have hKc := hK.sub (tys' := [(hoko, .int)]) [1] rfl
            have hFc := va_free (wc := [(ho, .inr (2, [.ref hob, .ref hoo, .ref hos])), (hoo, .inl (hoko, 5, .inl O2))]) hD hS hA [2, 3] rfl
            refine va_calli (va_runV (As := [.int gdg]) (rest := []) ⟨hx, hb, hml, hown, hts⟩ (c_X2_nextOrder l dC dI H.size ho hob hoo hos hoko O2 gdg (by omega) hO2) (cwV 1 hts g_X2_bestRound_X2_nextOrder rfl rfl rfl (by decide +kernel) ⟨Nat.le_of_ble_eq_true rfl, Nat.le_of_ble_eq_true rfl⟩) ⟨fun a U g mk q => by obtain ⟨q0, q1, qP, qK, qD⟩ := q; exact ⟨q0, q1, qP, va_K.moved (u := U) (U := U.calling g mk a) (Vm.Alike.refl U.vm) qK, qD⟩, va_recv hKc hPc (ci := 2) (q0 := 0) rfl rfl, fun U hU hW => ⟨rfl, by rw [hU], by rw [hU]; exact hPc, va_K.moved hW.alike hKc, hDc.weaken (fun _ _ _ _ => trivial)⟩⟩ rfl rfl hl.1 rfl (lv_room (Nat.le_of_ble_eq_true rfl)) dX2_bestRound_96 ⟨Nat.le_of_ble_eq_true rfl, Nat.le_of_ble_eq_true rfl⟩) hS (fun q _ h => hFc q h) hFc (fun r_21 u t H1 locs ht hvm hw_22 hB hz1 hk1 hS => ?_)
            obtain ⟨nO_23, rfl⟩ : ∃ z, z = u := ⟨_, rfl⟩
            obtain ⟨hP1, hK1, hD1⟩ := hB
            have hP1 : va_P (dC, dI) vwCl [(ho, .inr (2, [.ref hob, .ref hoo, .ref hos])), (hoo, .inl (hoko, 5, .inl nO_23))] t.heap := hP1
            rw [ht] at hP1
            try dsimp only at hw_22
            obtain ⟨hp_24, hp_25⟩ := hw_22
            obtain ⟨hP, hD⟩ := va_join (wr := [(hob, .inl (hokb, 5, .inl B2)), (pl, .inr (3, [.int plw, .int pld, .int plc, .int pls, .long plm, .ref plf, .ref plo, .ref plb, .ref pla])), (hos, .inl (hoks, 5, .inr (.inr (.inr (.inr wS))))), (hr0, .inl (hkr0, 25, .inl m0_2)), (hr1, .inl (hkr1, 25, .inl m1_3)), (hr2, .inl (hkr2, 25, .inl m2_4)), (hr3, .inl (hkr3, 25, .inl m3_5)), (hr4, .inl (hkr4, 25, .inl m4_6)), (gd, .inr (0, [.ref pl, .int gdl, .long gdh, .long gdw, .int gdi, .int gde, .int gdc, .ref gdt, .int gdg, .ref gdu, .int gdn, .ref gdx])), (gdu, .inl (gdku, 5, .inl gdU))]) (w1 := [(ho, .inr (2, [.ref hob, .ref hoo, .ref hos])), (hoo, .inl (hoko, 5, .inl nO_23))]) hP hD [2, 3] [0, 1, 4, 5, 6, 7, 8, 9, 10, 11] rfl rfl (by decide) (by decide) hk1 hFc hP1 hD1
            generalize H1 = H at hP hS ⊢
            have hP : va_P (dC, dI) vwCl [(hob, .inl (hokb, 5, .inl B2)), (pl, .inr (3, [.int plw, .int pld, .int plc, .int pls, .long plm, .ref plf, .ref plo, .ref plb, .ref pla])), (hos, .inl (hoks, 5, .inr (.inr (.inr (.inr wS))))), (hr0, .inl (hkr0, 25, .inl m0_2)), (hr1, .inl (hkr1, 25, .inl m1_3)), (hr2, .inl (hkr2, 25, .inl m2_4)), (hr3, .inl (hkr3, 25, .inl m3_5)), (hr4, .inl (hkr4, 25, .inl m4_6)), (gd, .inr (0, [.ref pl, .int gdl, .long gdh, .long gdw, .int gdi, .int gde, .int gdc, .ref gdt, .int gdg, .ref gdu, .int gdn, .ref gdx])), (gdu, .inl (gdku, 5, .inl gdU)), (ho, .inr (2, [.ref hob, .ref hoo, .ref hos])), (hoo, .inl (hoko, 5, .inl nO_23))] H := hP
            have hD : va_D A [(hob, .inl (hokb, 5, .inl B2)), (pl, .inr (3, [.int plw, .int pld, .int plc, .int pls, .long plm, .ref plf, .ref plo, .ref plb, .ref pla])), (hos, .inl (hoks, 5, .inr (.inr (.inr (.inr wS))))), (hr0, .inl (hkr0, 25, .inl m0_2)), (hr1, .inl (hkr1, 25, .inl m1_3)), (hr2, .inl (hkr2, 25, .inl m2_4)), (hr3, .inl (hkr3, 25, .inl m3_5)), (hr4, .inl (hkr4, 25, .inl m4_6)), (gd, .inr (0, [.ref pl, .int gdl, .long gdh, .long gdw, .int gdi, .int gde, .int gdc, .ref gdt, .int gdg, .ref gdu, .int gdn, .ref gdx])), (gdu, .inl (gdku, 5, .inl gdU)), (ho, .inr (2, [.ref hob, .ref hoo, .ref hos])), (hoo, .inl (hoko, 5, .inl nO_23))] := hD
            refine lv_istore (lv' := [(5, .int r_21), (7, .int r_10), (6, .int r1), (4, .int fw), (3, .int gdg), (0, .ref ho), (1, .ref gd), (2, .int p0)]) hx hb dX2_bestRound_99 hl (by decide) rfl (fun ls hl => ?_)
            obtain ⟨x_26, ex_26⟩ : ∃ y9 : Int32, y9 = r1 + Int32.ofInt 1 := ⟨_, rfl⟩
            have zx_26 : x_26.toInt = r1.toInt + 1 := by rw [ex_26]; exact i_add rfl (show (Int32.ofInt 1).toInt = 1 by decide) (by omega) (by omega)
            refine lv_iinc (v := x_26) (lv' := [(6, .int x_26), (5, .int r_21), (7, .int r_10), (4, .int fw), (3, .int gdg), (0, .ref ho), (1, .ref gd), (2, .int p0)]) hx hb dX2_bestRound_101 hl (k := 2) rfl (by rw [ex_26]) (by decide) rfl (fun ls hl => ?_)
            refine lv_goto (tgt := 43) hx hb dX2_bestRound_104 (by decide) ?_
            exact ih43 (x_26, fw, r_21, nO_23, B2) _ _ _ ⟨(by (try dsimp only); omega), hp_25, hP.sub [0, 11, 10, 2, 3, 4, 5, 6, 7, 8, 9, 1] rfl, hD.sub [0, 11, 10, 2, 3, 4, 5, 6, 7, 8, 9, 1] (by decide) rfl, hS, lv_sub hl [0, 1, 3, 4, 5, 6, 7] rfl⟩ (by (try dsimp only); omega)
          · have c_20 : r_10.toInt < fw.toInt := i_nle (a := fw) (b := r_10) rfl rfl c_20
            refine lv_iload hx hb dX2_bestRound_76 (lv_at hl 0 rfl) ?_
            refine lv_istore (lv' := [(4, .int r_10), (7, .int r_10), (6, .int r1), (5, .int go), (3, .int gdg), (0, .ref ho), (1, .ref gd), (2, .int p0)]) hx hb dX2_bestRound_78 hl (by decide) rfl (fun ls hl => ?_)
            refine lv_aload_n hx hb dX2_bestRound_80 rfl (lv_at hl 5 rfl) ?_
            refine va_get (D := (dC, dI)) (ci := 2) (v := .ref hoo) (C := RX2) (T := TX2) (N := 3) hx hb hts in_X2_bestRound_X2 hown hK hP 2 rfl rfl 1 (by decide) (hts _ wd_X2_bestRound_1) (fun _ h9 => h9) rfl dX2_bestRound_81 ?_
            refine lv_iconst (v := 0) hx hb dX2_bestRound_84 (by decide) ?_
            refine lv_aload_n hx hb dX2_bestRound_85 rfl (lv_at hl 5 rfl) ?_
            refine va_get (D := (dC, dI)) (ci := 2) (v := .ref hob) (C := RX2) (T := TX2) (N := 3) hx hb hts in_X2_bestRound_X2 hown hK hP 2 rfl rfl 0 (by decide) (hts _ wd_X2_bestRound_2) (fun _ h9 => h9) rfl dX2_bestRound_86 ?_
            refine lv_iconst (v := 0) hx hb dX2_bestRound_89 (by decide) ?_
            refine lv_iload_n hx hb dX2_bestRound_90 rfl (lv_at hl 4 rfl) ?_
            refine va_copyi hx hb (hml.trans hl.1.symm) hown (hts _ wd_X2_bestRound_3) (hts _ wd_X2_bestRound_4) (hts _ wd_X2_bestRound_5) (hts _ wd_X2_bestRound_6) hK hP hD hS 3 0 1 0 rfl rfl rfl rfl rfl (by decide) (by decide) (i_nn rfl (by omega)) (i_cp rfl (by omega) (by omega)) (i_cp rfl (by omega) (by omega)) (fun _ _ => rfl) (Nat.le_of_ble_eq_true rfl) (Nat.le_of_ble_eq_true rfl) dX2_bestRound_91 (fun H locs hP hD hS => ?_)
            have hP : va_P (dC, dI) vwCl [(hob, .inl (hokb, 5, .inl (va_cpy O2 B2 ((0 : Int32)).toNatClampNeg ((0 : Int32)).toNatClampNeg gdg.toNatClampNeg))), (pl, .inr (3, [.int plw, .int pld, .int plc, .int pls, .long plm, .ref plf, .ref plo, .ref plb, .ref pla])), (ho, .inr (2, [.ref hob, .ref hoo, .ref hos])), (hoo, .inl (hoko, 5, .inl O2)), (hos, .inl (hoks, 5, .inr (.inr (.inr (.inr wS))))), (hr0, .inl (hkr0, 25, .inl m0_2)), (hr1, .inl (hkr1, 25, .inl m1_3)), (hr2, .inl (hkr2, 25, .inl m2_4)), (hr3, .inl (hkr3, 25, .inl m3_5)), (hr4, .inl (hkr4, 25, .inl m4_6)), (gd, .inr (0, [.ref pl, .int gdl, .long gdh, .long gdw, .int gdi, .int gde, .int gdc, .ref gdt, .int gdg, .ref gdu, .int gdn, .ref gdx])), (gdu, .inl (gdku, 5, .inl gdU))] H := hP
            have hD : va_D A [(hob, .inl (hokb, 5, .inl (va_cpy O2 B2 ((0 : Int32)).toNatClampNeg ((0 : Int32)).toNatClampNeg gdg.toNatClampNeg))), (pl, .inr (3, [.int plw, .int pld, .int plc, .int pls, .long plm, .ref plf, .ref plo, .ref plb, .ref pla])), (ho, .inr (2, [.ref hob, .ref hoo, .ref hos])), (hoo, .inl (hoko, 5, .inl O2)), (hos, .inl (hoks, 5, .inr (.inr (.inr (.inr wS))))), (hr0, .inl (hkr0, 25, .inl m0_2)), (hr1, .inl (hkr1, 25, .inl m1_3)), (hr2, .inl (hkr2, 25, .inl m2_4)), (hr3, .inl (hkr3, 25, .inl m3_5)), (hr4, .inl (hkr4, 25, .inl m4_6)), (gd, .inr (0, [.ref pl, .int gdl, .long gdh, .long gdw, .int gdi, .int gde, .int gdc, .ref gdt, .int gdg, .ref gdu, .int gdn, .ref gdx])), (gdu, .inl (gdku, 5, .inl gdU))] := hD
            obtain ⟨f_27, ef_27⟩ : ∃ g, g = va_cpy O2 B2 ((0 : Int32)).toNatClampNeg ((0 : Int32)).toNatClampNeg gdg.toNatClampNeg := ⟨_, rfl⟩
            rw [← ef_27] at hP hD
            refine lv_aload_n hx hb dX2_bestRound_94 rfl (lv_at hl 5 rfl) ?_
            refine lv_iload_n hx hb dX2_bestRound_95 rfl (lv_at hl 4 rfl) ?_
            have hPc := hP.sub (ws' := [(ho, .inr (2, [.ref hob, .ref hoo, .ref hos])), (hoo, .inl (hoko, 5, .inl O2))]) [2, 3] rfl
            have hDc := hD.sub (ws' := [(ho, .inr (2, [.ref hob, .ref hoo, .ref hos])), (hoo, .inl (hoko, 5, .inl O2))]) [2, 3] (by decide) rfl
            have hKc := hK.sub (tys' := [(hoko, .int)]) [1] rfl
            have hFc := va_free (wc := [(ho, .inr (2, [.ref hob, .ref hoo, .ref hos])), (hoo, .inl (hoko, 5, .inl O2))]) hD hS hA [2, 3] rfl
            refine va_calli (va_runV (As := [.int gdg]) (rest := []) ⟨hx, hb, hml, hown, hts⟩ (c_X2_nextOrder l dC dI H.size ho hob hoo hos hoko O2 gdg (by omega) hO2) (cwV 1 hts g_X2_bestRound_X2_nextOrder rfl rfl rfl (by decide +kernel) ⟨Nat.le_of_ble_eq_true rfl, Nat.le_of_ble_eq_true rfl⟩) ⟨fun a U g mk q => by obtain ⟨q0, q1, qP, qK, qD⟩ := q; exact ⟨q0, q1, qP, va_K.moved (u := U) (U := U.calling g mk a) (Vm.Alike.refl U.vm) qK, qD⟩, va_recv hKc hPc (ci := 2) (q0 := 0) rfl rfl, fun U hU hW => ⟨rfl, by rw [hU], by rw [hU]; exact hPc, va_K.moved hW.alike hKc, hDc.weaken (fun _ _ _ _ => trivial)⟩⟩ rfl rfl hl.1 rfl (lv_room (Nat.le_of_ble_eq_true rfl)) dX2_bestRound_96 ⟨Nat.le_of_ble_eq_true rfl, Nat.le_of_ble_eq_true rfl⟩) hS (fun q _ h => hFc q h) hFc (fun r_28 u t H1 locs ht hvm hw_29 hB hz1 hk1 hS => ?_)
            obtain ⟨nO_30, rfl⟩ : ∃ z, z = u := ⟨_, rfl⟩
            obtain ⟨hP1, hK1, hD1⟩ := hB
            have hP1 : va_P (dC, dI) vwCl [(ho, .inr (2, [.ref hob, .ref hoo, .ref hos])), (hoo, .inl (hoko, 5, .inl nO_30))] t.heap := hP1
            rw [ht] at hP1
            try dsimp only at hw_29
            obtain ⟨hp_31, hp_32⟩ := hw_29
            obtain ⟨hP, hD⟩ := va_join (wr := [(hob, .inl (hokb, 5, .inl f_27)), (pl, .inr (3, [.int plw, .int pld, .int plc, .int pls, .long plm, .ref plf, .ref plo, .ref plb, .ref pla])), (hos, .inl (hoks, 5, .inr (.inr (.inr (.inr wS))))), (hr0, .inl (hkr0, 25, .inl m0_2)), (hr1, .inl (hkr1, 25, .inl m1_3)), (hr2, .inl (hkr2, 25, .inl m2_4)), (hr3, .inl (hkr3, 25, .inl m3_5)), (hr4, .inl (hkr4, 25, .inl m4_6)), (gd, .inr (0, [.ref pl, .int gdl, .long gdh, .long gdw, .int gdi, .int gde, .int gdc, .ref gdt, .int gdg, .ref gdu, .int gdn, .ref gdx])), (gdu, .inl (gdku, 5, .inl gdU))]) (w1 := [(ho, .inr (2, [.ref hob, .ref hoo, .ref hos])), (hoo, .inl (hoko, 5, .inl nO_30))]) hP hD [2, 3] [0, 1, 4, 5, 6, 7, 8, 9, 10, 11] rfl rfl (by decide) (by decide) hk1 hFc hP1 hD1
            generalize H1 = H at hP hS ⊢
            have hP : va_P (dC, dI) vwCl [(hob, .inl (hokb, 5, .inl f_27)), (pl, .inr (3, [.int plw, .int pld, .int plc, .int pls, .long plm, .ref plf, .ref plo, .ref plb, .ref pla])), (hos, .inl (hoks, 5, .inr (.inr (.inr (.inr wS))))), (hr0, .inl (hkr0, 25, .inl m0_2)), (hr1, .inl (hkr1, 25, .inl m1_3)), (hr2, .inl (hkr2, 25, .inl m2_4)), (hr3, .inl (hkr3, 25, .inl m3_5)), (hr4, .inl (hkr4, 25, .inl m4_6)), (gd, .inr (0, [.ref pl, .int gdl, .long gdh, .long gdw, .int gdi, .int gde, .int gdc, .ref gdt, .int gdg, .ref gdu, .int gdn, .ref gdx])), (gdu, .inl (gdku, 5, .inl gdU)), (ho, .inr (2, [.ref hob, .ref hoo, .ref hos])), (hoo, .inl (hoko, 5, .inl nO_30))] H := hP
            have hD : va_D A [(hob, .inl (hokb, 5, .inl f_27)), (pl, .inr (3, [.int plw, .int pld, .int plc, .int pls, .long plm, .ref plf, .ref plo, .ref plb, .ref pla])), (hos, .inl (hoks, 5, .inr (.inr (.inr (.inr wS))))), (hr0, .inl (hkr0, 25, .inl m0_2)), (hr1, .inl (hkr1, 25, .inl m1_3)), (hr2, .inl (hkr2, 25, .inl m2_4)), (hr3, .inl (hkr3, 25, .inl m3_5)), (hr4, .inl (hkr4, 25, .inl m4_6)), (gd, .inr (0, [.ref pl, .int gdl, .long gdh, .long gdw, .int gdi, .int gde, .int gdc, .ref gdt, .int gdg, .ref gdu, .int gdn, .ref gdx])), (gdu, .inl (gdku, 5, .inl gdU)), (ho, .inr (2, [.ref hob, .ref hoo, .ref hos])), (hoo, .inl (hoko, 5, .inl nO_30))] := hD
            refine lv_istore (lv' := [(5, .int r_28), (4, .int r_10), (7, .int r_10), (6, .int r1), (3, .int gdg), (0, .ref ho), (1, .ref gd), (2, .int p0)]) hx hb dX2_bestRound_99 hl (by decide) rfl (fun ls hl => ?_)
            obtain ⟨x_33, ex_33⟩ : ∃ y9 : Int32, y9 = r1 + Int32.ofInt 1 := ⟨_, rfl⟩
            have zx_33 : x_33.toInt = r1.toInt + 1 := by rw [ex_33]; exact i_add rfl (show (Int32.ofInt 1).toInt = 1 by decide) (by omega) (by omega)
            refine lv_iinc (v := x_33) (lv' := [(6, .int x_33), (5, .int r_28), (4, .int r_10), (7, .int r_10), (3, .int gdg), (0, .ref ho), (1, .ref gd), (2, .int p0)]) hx hb dX2_bestRound_101 hl (k := 3) rfl (by rw [ex_33]) (by decide) rfl (fun ls hl => ?_)
            refine lv_goto (tgt := 43) hx hb dX2_bestRound_104 (by decide) ?_
            exact ih43 (x_33, r_10, r_28, nO_30, f_27) _ _ _ ⟨(by (try dsimp only); omega), hp_32, hP.sub [0, 11, 10, 2, 3, 4, 5, 6, 7, 8, 9, 1] rfl, hD.sub [0, 11, 10, 2, 3, 4, 5, 6, 7, 8, 9, 1] (by decide) rfl, hS, lv_sub hl [0, 1, 2, 4, 5, 6, 7] rfl⟩ (by (try dsimp only); omega)
  · have c_7 : i1.toInt < gdg.toInt := i_nle (a := gdg) (b := i1) rfl rfl c_7
    refine lv_aload_n hx hb dX2_bestRound_19 rfl (lv_at hl 2 rfl) ?_
    refine va_get (D := (dC, dI)) (ci := 2) (v := .ref hoo) (C := RX2) (T := TX2) (N := 3) hx hb hts in_X2_bestRound_X2 hown hK hP 2 rfl rfl 1 (by decide) (hts _ wd_X2_bestRound_1) (fun _ h9 => h9) rfl dX2_bestRound_20 ?_
    refine lv_iload hx hb dX2_bestRound_23 (lv_at hl 0 rfl) ?_
    refine lv_iload hx hb dX2_bestRound_25 (lv_at hl 0 rfl) ?_
    refine va_iast hx hb hK hP hD hS 1 1 rfl rfl (i_in rfl (by omega) (by omega)) dX2_bestRound_27 (fun H locs hP hD hS => ?_)
    have hP : va_P (dC, dI) vwCl [(hob, .inl (hokb, 5, .inl wB)), (hoo, .inl (hoko, 5, .inl (upd O1 i1.toNatClampNeg i1))), (ho, .inr (2, [.ref hob, .ref hoo, .ref hos])), (hos, .inl (hoks, 5, .inr (.inr (.inr (.inr wS))))), (hr0, .inl (hkr0, 25, .inl m0_2)), (hr1, .inl (hkr1, 25, .inl m1_3)), (hr2, .inl (hkr2, 25, .inl m2_4)), (hr3, .inl (hkr3, 25, .inl m3_5)), (hr4, .inl (hkr4, 25, .inl m4_6)), (gd, .inr (0, [.ref pl, .int gdl, .long gdh, .long gdw, .int gdi, .int gde, .int gdc, .ref gdt, .int gdg, .ref gdu, .int gdn, .ref gdx])), (gdu, .inl (gdku, 5, .inl gdU)), (pl, .inr (3, [.int plw, .int pld, .int plc, .int pls, .long plm, .ref plf, .ref plo, .ref plb, .ref pla]))] H := hP
    have hD : va_D A [(hob, .inl (hokb, 5, .inl wB)), (hoo, .inl (hoko, 5, .inl (upd O1 i1.toNatClampNeg i1))), (ho, .inr (2, [.ref hob, .ref hoo, .ref hos])), (hos, .inl (hoks, 5, .inr (.inr (.inr (.inr wS))))), (hr0, .inl (hkr0, 25, .inl m0_2)), (hr1, .inl (hkr1, 25, .inl m1_3)), (hr2, .inl (hkr2, 25, .inl m2_4)), (hr3, .inl (hkr3, 25, .inl m3_5)), (hr4, .inl (hkr4, 25, .inl m4_6)), (gd, .inr (0, [.ref pl, .int gdl, .long gdh, .long gdw, .int gdi, .int gde, .int gdc, .ref gdt, .int gdg, .ref gdu, .int gdn, .ref gdx])), (gdu, .inl (gdku, 5, .inl gdU)), (pl, .inr (3, [.int plw, .int pld, .int plc, .int pls, .long plm, .ref plf, .ref plo, .ref plb, .ref pla]))] := hD
    have hR_34 := RG.upd hO1 i1.toNatClampNeg (x := i1) rfl (by omega) (by omega)
    obtain ⟨f_35, ef_35⟩ : ∃ g, g = upd O1 i1.toNatClampNeg i1 := ⟨_, rfl⟩
    rw [← ef_35] at hP hD
    rw [← ef_35] at hR_34
    obtain ⟨x_36, ex_36⟩ : ∃ y9 : Int32, y9 = i1 + Int32.ofInt 1 := ⟨_, rfl⟩
    have zx_36 : x_36.toInt = i1.toInt + 1 := by rw [ex_36]; exact i_add rfl (show (Int32.ofInt 1).toInt = 1 by decide) (by omega) (by omega)
    refine lv_iinc (v := x_36) (lv' := [(4, .int x_36), (3, .int gdg), (0, .ref ho), (1, .ref gd), (2, .int p0)]) hx hb dX2_bestRound_28 hl (k := 0) rfl (by rw [ex_36]) (by decide) rfl (fun ls hl => ?_)
    refine lv_goto (tgt := 13) hx hb dX2_bestRound_31 (by decide) ?_
    exact ih13 (x_36, f_35) _ _ _ ⟨(by (try dsimp only); omega), hR_34, hP.sub [0, 1, 2, 3, 4, 5, 6, 7, 8, 9, 10, 11] rfl, hD.sub [0, 1, 2, 3, 4, 5, 6, 7, 8, 9, 10, 11] (by decide) rfl, hS, lv_sub hl [0, 1, 2, 3, 4] rfl⟩ (by (try dsimp only); omega)

