theorem dX3_allCells_0 : decode cX3_allCells 0 = .ok (.iconst 1, 1) := by decide +kernel
theorem dX3_allCells_1 : decode cX3_allCells 1 = .ok (.aload_n 0, 1) := by decide +kernel
theorem dX3_allCells_2 : decode cX3_allCells 2 = .ok (.getfield 18, 3) := by decide +kernel
theorem dX3_allCells_5 : decode cX3_allCells 5 = .ok (.ishl, 1) := by decide +kernel
theorem dX3_allCells_6 : decode cX3_allCells 6 = .ok (.iconst 1, 1) := by decide +kernel
theorem dX3_allCells_7 : decode cX3_allCells 7 = .ok (.isub, 1) := by decide +kernel
theorem dX3_allCells_8 : decode cX3_allCells 8 = .ok (.ireturn, 1) := by decide +kernel
def wz_X3_allCells : List Cond := .code yX3_allCells cX3_allCells 1 (some .int) :: ([Cond.fieldLink RX3 18 "HedgeMaze$Plan" "cellCount" "I"] ++ wsX30)
theorem wd_X3_allCells_0 : Cond.fieldLink RX3 18 "HedgeMaze$Plan" "cellCount" "I" ∈ wz_X3_allCells := List.mem_of_getElem? (i := 1) rfl
theorem in_X3_allCells_X3 : ∀ w ∈ wsX30, w ∈ wz_X3_allCells := fun _ h => List.mem_cons_of_mem _ (List.mem_append_right _ h)
set_option maxHeartbeats 4000000 in
set_option maxRecDepth 100000 in
theorem c_X3_allCells (l : Launch) (dC : Nat → ClassId) (dI : Nat → Nat → Nat) (sz : Nat) (pl : Nat) (plw : Int32) (pld : Int32) (plc : Int32) (pls : Int32) (plm : Int64) (plf : Nat) (plo : Nat) (plb : Nat) (pla : Nat)  : Met l yX3_allCells wz_X3_allCells ({ frames := 0, cells := 0, slots := 0, locals := 0 }) (va_Pc [.ref pl] (fun U => U.heap.size = sz ∧ va_P (dC, dI) vwCl [(pl, .inr (3, [.int plw, .int pld, .int plc, .int pls, .long plm, .ref plf, .ref plo, .ref plb, .ref pla]))] U.heap ∧ va_K (dC, dI) vwCl [] U ∧ va_D (fun _ => True) [(pl, .inr (3, [.int plw, .int pld, .int plc, .int pls, .long plm, .ref plf, .ref plo, .ref plb, .ref pla]))])) (va_Qi (fun (r : Int32) (u : Unit) => True) (fun (u : Unit) (t : State) => va_P (dC, dI) vwCl [(pl, .inr (3, [.int plw, .int pld, .int plc, .int pls, .long plm, .ref plf, .ref plo, .ref plb, .ref pla]))] t.heap ∧ va_K (dC, dI) vwCl [] t ∧ va_D (va_A [(pl, .inr (3, [.int plw, .int pld, .int plc, .int pls, .long plm, .ref plf, .ref plo, .ref plb, .ref pla]))] sz) [(pl, .inr (3, [.int plw, .int pld, .int plc, .int pls, .long plm, .ref plf, .ref plo, .ref plb, .ref pla]))]) (va_A [(pl, .inr (3, [.int plw, .int pld, .int plc, .int pls, .long plm, .ref plf, .ref plo, .ref plb, .ref pla]))] sz)) 0 0 (va_A [(pl, .inr (3, [.int plw, .int pld, .int plc, .int pls, .long plm, .ref plf, .ref plo, .ref plb, .ref pla]))] sz) := by
  refine Met.ofW (cc := cX3_allCells) (maxL := 1) (ret := (some .int)) (by decide) rfl ?_
  intro p e s m args below meth c s₁ B hml hv
  obtain ⟨rfl, hsz, hP, hK, hD0⟩ := hv
  have hx := B.exec
  have hb := B.bytes
  have hr := B.returns
  have hts := atoms_spec (ws := wz_X3_allCells) B.pre
  have hown : s.vm.findClass RX3 = some m.cls := findClass_of_methodNamed B.named
  have hlocks := B.notSynchronized
  subst hsz
  have hD := hD0.self (sz := s.heap.size)
  generalize hAe : va_A [(pl, .inr (3, [.int plw, .int pld, .int plc, .int pls, .long plm, .ref plf, .ref plo, .ref plb, .ref pla]))] s.heap.size = A at hD ⊢
  have hA : ∀ q : Nat, s.heap.size ≤ q → A q := fun q h => by rw [← hAe]; exact Or.inr h
  have hS : va_S A s.heap s.heap [] := va_S.rf
  have hP : va_P (dC, dI) vwCl [(pl, .inr (3, [.int plw, .int pld, .int plc, .int pls, .long plm, .ref plf, .ref plo, .ref plb, .ref pla]))] s.heap := hP
  have hl := lv_entry ([.ref pl]) (n := 1) (Nat.le_of_ble_eq_true rfl)
  rw [lg_entry_eq]
  generalize (lg_sl ([.ref pl]) ++ List.replicate (1 - (lg_sl ([.ref pl])).length) Slot.unset).toArray = ls at hl ⊢
  have hl : lv_has ls 1 [(0, .ref pl)] := hl
  refine lv_iconst (v := 1) hx hb dX3_allCells_0 (by decide) ?_
  refine lv_aload_n hx hb dX3_allCells_1 rfl (lv_at hl 0 rfl) ?_
  refine va_get (D := (dC, dI)) (ci := 3) (v := .int plc) (C := RX3) (T := TX3) (N := 9) hx hb hts in_X3_allCells_X3 hown hK hP 0 rfl rfl 2 (by decide) (hts _ wd_X3_allCells_0) (fun _ h9 => h9) rfl dX3_allCells_2 ?_
  refine lv_ishl hx hb dX3_allCells_5 ?_
  refine lv_topi (fun x_1 ex_1 => ?_)
  refine lv_iconst (v := 1) hx hb dX3_allCells_6 (by decide) ?_
  refine lv_isub hx hb dX3_allCells_7 ?_
  refine lv_topi (fun x_2 ex_2 => ?_)
  have hP9 := hP.sub (ws' := [(pl, .inr (3, [.int plw, .int pld, .int plc, .int pls, .long plm, .ref plf, .ref plo, .ref plb, .ref pla]))]) [0] rfl
  have hD9 := hD.sub (ws' := [(pl, .inr (3, [.int plw, .int pld, .int plc, .int pls, .long plm, .ref plf, .ref plo, .ref plb, .ref pla]))]) [0] (by decide) rfl
  have hK9 := hK.sub (tys' := []) [] rfl
  refine W.widen (k := 0) (n := 0) (by omega) (by omega) ?_
  exact W.iret (v := x_2) hx hb hr (fun t ht hW => ⟨⟨x_2, (), rfl, trivial, by rw [ht]; exact hP9, va_K.moved hW.alike hK9, hD9⟩, hS.F ht⟩) hS.2.2 dX3_allCells_8

theorem dX3_bitOf_0 : decode cX3_bitOf 0 = .ok (.lload_n 1, 1) := by decide +kernel
theorem dX3_bitOf_1 : decode cX3_bitOf 1 = .ok (.lconst 0, 1) := by decide +kernel
theorem dX3_bitOf_2 : decode cX3_bitOf 2 = .ok (.lcmp, 1) := by decide +kernel
theorem dX3_bitOf_3 : decode cX3_bitOf 3 = .ok (.ifCond .lt 23, 3) := by decide +kernel
theorem dX3_bitOf_6 : decode cX3_bitOf 6 = .ok (.lload_n 1, 1) := by decide +kernel
theorem dX3_bitOf_7 : decode cX3_bitOf 7 = .ok (.aload_n 0, 1) := by decide +kernel
theorem dX3_bitOf_8 : decode cX3_bitOf 8 = .ok (.getfield 21, 3) := by decide +kernel
theorem dX3_bitOf_11 : decode cX3_bitOf 11 = .ok (.i2l, 1) := by decide +kernel
theorem dX3_bitOf_12 : decode cX3_bitOf 12 = .ok (.lcmp, 1) := by decide +kernel
theorem dX3_bitOf_13 : decode cX3_bitOf 13 = .ok (.ifCond .ge 13, 3) := by decide +kernel
theorem dX3_bitOf_16 : decode cX3_bitOf 16 = .ok (.aload_n 0, 1) := by decide +kernel
theorem dX3_bitOf_17 : decode cX3_bitOf 17 = .ok (.getfield 35, 3) := by decide +kernel
theorem dX3_bitOf_20 : decode cX3_bitOf 20 = .ok (.lload_n 1, 1) := by decide +kernel
theorem dX3_bitOf_21 : decode cX3_bitOf 21 = .ok (.l2i, 1) := by decide +kernel
theorem dX3_bitOf_22 : decode cX3_bitOf 22 = .ok (.laload, 1) := by decide +kernel
theorem dX3_bitOf_23 : decode cX3_bitOf 23 = .ok (.goto 4, 3) := by decide +kernel
theorem dX3_bitOf_26 : decode cX3_bitOf 26 = .ok (.lconst 0, 1) := by decide +kernel
theorem dX3_bitOf_27 : decode cX3_bitOf 27 = .ok (.lreturn, 1) := by decide +kernel
def wz_X3_bitOf : List Cond := .code yX3_bitOf cX3_bitOf 3 (some .long) :: ([Cond.fieldLink RX3 21 "HedgeMaze$Plan" "sideCount" "I", Cond.fieldLink RX3 35 "HedgeMaze$Plan" "bits" "[J"] ++ wsX30)
theorem wd_X3_bitOf_0 : Cond.fieldLink RX3 21 "HedgeMaze$Plan" "sideCount" "I" ∈ wz_X3_bitOf := List.mem_of_getElem? (i := 1) rfl
theorem wd_X3_bitOf_1 : Cond.fieldLink RX3 35 "HedgeMaze$Plan" "bits" "[J" ∈ wz_X3_bitOf := List.mem_of_getElem? (i := 2) rfl
theorem in_X3_bitOf_X3 : ∀ w ∈ wsX30, w ∈ wz_X3_bitOf := fun _ h => List.mem_cons_of_mem _ (List.mem_append_right _ h)
set_option maxHeartbeats 4000000 in
set_option maxRecDepth 100000 in
theorem c_X3_bitOf (l : Launch) (dC : Nat → ClassId) (dI : Nat → Nat → Nat) (sz : Nat) (pl : Nat) (plw : Int32) (pld : Int32) (plc : Int32) (pls : Int32) (plm : Int64) (plf : Nat) (plo : Nat) (plb : Nat) (pla : Nat) (plkb : ClassId) (plB : Nat → Int64) (p0 : Int64) (h_pls : 0 ≤ pls.toInt ∧ pls.toInt ≤ 40) : Met l yX3_bitOf wz_X3_bitOf ({ frames := 0, cells := 0, slots := 0, locals := 0 }) (va_Pc [.ref pl, .long p0] (fun U => U.heap.size = sz ∧ va_P (dC, dI) vwCl [(pl, .inr (3, [.int plw, .int pld, .int plc, .int pls, .long plm, .ref plf, .ref plo, .ref plb, .ref pla])), (plb, .inl (plkb, 40, .inr (.inl plB)))] U.heap ∧ va_K (dC, dI) vwCl [(plkb, .long)] U ∧ va_D (fun _ => True) [(pl, .inr (3, [.int plw, .int pld, .int plc, .int pls, .long plm, .ref plf, .ref plo, .ref plb, .ref pla])), (plb, .inl (plkb, 40, .inr (.inl plB)))])) (va_Ql (fun (r : Int64) (u : Unit) => True) (fun (u : Unit) (t : State) => va_P (dC, dI) vwCl [(pl, .inr (3, [.int plw, .int pld, .int plc, .int pls, .long plm, .ref plf, .ref plo, .ref plb, .ref pla])), (plb, .inl (plkb, 40, .inr (.inl plB)))] t.heap ∧ va_K (dC, dI) vwCl [] t ∧ va_D (va_A [(pl, .inr (3, [.int plw, .int pld, .int plc, .int pls, .long plm, .ref plf, .ref plo, .ref plb, .ref pla])), (plb, .inl (plkb, 40, .inr (.inl plB)))] sz) [(pl, .inr (3, [.int plw, .int pld, .int plc, .int pls, .long plm, .ref plf, .ref plo, .ref plb, .ref pla])), (plb, .inl (plkb, 40, .inr (.inl plB)))]) (va_A [(pl, .inr (3, [.int plw, .int pld, .int plc, .int pls, .long plm, .ref plf, .ref plo, .ref plb, .ref pla])), (plb, .inl (plkb, 40, .inr (.inl plB)))] sz)) 0 0 (va_A [(pl, .inr (3, [.int plw, .int pld, .int plc, .int pls, .long plm, .ref plf, .ref plo, .ref plb, .ref pla])), (plb, .inl (plkb, 40, .inr (.inl plB)))] sz) := by
  refine Met.ofW (cc := cX3_bitOf) (maxL := 3) (ret := (some .long)) (by decide) rfl ?_
  intro p e s m args below meth c s₁ B hml hv
  obtain ⟨rfl, hsz, hP, hK, hD0⟩ := hv
  have hx := B.exec
  have hb := B.bytes
  have hr := B.returns
  have hts := atoms_spec (ws := wz_X3_bitOf) B.pre
  have hown : s.vm.findClass RX3 = some m.cls := findClass_of_methodNamed B.named
  have hlocks := B.notSynchronized
  subst hsz
  have hD := hD0.self (sz := s.heap.size)
  generalize hAe : va_A [(pl, .inr (3, [.int plw, .int pld, .int plc, .int pls, .long plm, .ref plf, .ref plo, .ref plb, .ref pla])), (plb, .inl (plkb, 40, .inr (.inl plB)))] s.heap.size = A at hD ⊢
  have hA : ∀ q : Nat, s.heap.size ≤ q → A q := fun q h => by rw [← hAe]; exact Or.inr h
  have hS : va_S A s.heap s.heap [] := va_S.rf
  have hP : va_P (dC, dI) vwCl [(pl, .inr (3, [.int plw, .int pld, .int plc, .int pls, .long plm, .ref plf, .ref plo, .ref plb, .ref pla])), (plb, .inl (plkb, 40, .inr (.inl plB)))] s.heap := hP
  have hl := lv_entry ([.ref pl, .long p0]) (n := 3) (Nat.le_of_ble_eq_true rfl)
  rw [lg_entry_eq]
  generalize (lg_sl ([.ref pl, .long p0]) ++ List.replicate (3 - (lg_sl ([.ref pl, .long p0])).length) Slot.unset).toArray = ls at hl ⊢
  have hl : lv_has ls 3 [(0, .ref pl), (1, .long p0)] := hl
  refine lv_lload_n hx hb dX3_bitOf_0 rfl (lv_at hl 1 rfl) ?_
  refine lv_lconst (v := 0) hx hb dX3_bitOf_1 (by decide) ?_
  refine W.lcmp hx hb dX3_bitOf_2 ?_
  refine lv_if_lt (tgt := 26) hx hb dX3_bitOf_3 (by decide) (fun c_1 => ?_) (fun c_1 => ?_)
  · have c_1 := (lg_cmp_lt p0 0).mp c_1
    have c_1 : p0.toInt < 0 := i_ltL (a := p0) (b := 0) rfl (by decide) c_1
    refine lv_lconst (v := 0) hx hb dX3_bitOf_26 (by decide) ?_
    have hP9 := hP.sub (ws' := [(pl, .inr (3, [.int plw, .int pld, .int plc, .int pls, .long plm, .ref plf, .ref plo, .ref plb, .ref pla])), (plb, .inl (plkb, 40, .inr (.inl plB)))]) [0, 1] rfl
    have hD9 := hD.sub (ws' := [(pl, .inr (3, [.int plw, .int pld, .int plc, .int pls, .long plm, .ref plf, .ref plo, .ref plb, .ref pla])), (plb, .inl (plkb, 40, .inr (.inl plB)))]) [0, 1] (by decide) rfl
    have hK9 := hK.sub (tys' := []) [] rfl
    refine W.widen (k := 0) (n := 0) (by omega) (by omega) ?_
    exact W.lret (v := 0) hx hb hr (fun t ht hW => ⟨⟨0, (), rfl, trivial, by rw [ht]; exact hP9, va_K.moved hW.alike hK9, hD9⟩, hS.F ht⟩) hS.2.2 dX3_bitOf_27
  · have c_1 := fun h => c_1 ((lg_cmp_lt p0 0).mpr h)
    have c_1 : 0 ≤ p0.toInt := i_nltL (a := p0) (b := 0) rfl (by decide) c_1
    refine lv_lload_n hx hb dX3_bitOf_6 rfl (lv_at hl 1 rfl) ?_
    refine lv_aload_n hx hb dX3_bitOf_7 rfl (lv_at hl 0 rfl) ?_
    refine va_get (D := (dC, dI)) (ci := 3) (v := .int pls) (C := RX3) (T := TX3) (N := 9) hx hb hts in_X3_bitOf_X3 hown hK hP 0 rfl rfl 3 (by decide) (hts _ wd_X3_bitOf_0) (fun _ h9 => h9) rfl dX3_bitOf_8 ?_
    refine lv_i2l (v := pls.toInt64) hx hb dX3_bitOf_11 rfl ?_
    refine W.lcmp hx hb dX3_bitOf_12 ?_
    refine lv_if_ge (tgt := 26) hx hb dX3_bitOf_13 (by decide) (fun c_2 => ?_) (fun c_2 => ?_)
    · have c_2 := (lg_cmp_ge p0 pls.toInt64).mp c_2
      have c_2 : pls.toInt ≤ p0.toInt := i_leL (a := pls.toInt64) (b := p0) (i_wide rfl) rfl c_2
      refine lv_lconst (v := 0) hx hb dX3_bitOf_26 (by decide) ?_
      have hP9 := hP.sub (ws' := [(pl, .inr (3, [.int plw, .int pld, .int plc, .int pls, .long plm, .ref plf, .ref plo, .ref plb, .ref pla])), (plb, .inl (plkb, 40, .inr (.inl plB)))]) [0, 1] rfl
      have hD9 := hD.sub (ws' := [(pl, .inr (3, [.int plw, .int pld, .int plc, .int pls, .long plm, .ref plf, .ref plo, .ref plb, .ref pla])), (plb, .inl (plkb, 40, .inr (.inl plB)))]) [0, 1] (by decide) rfl
      have hK9 := hK.sub (tys' := []) [] rfl
      refine W.widen (k := 0) (n := 0) (by omega) (by omega) ?_
      exact W.lret (v := 0) hx hb hr (fun t ht hW => ⟨⟨0, (), rfl, trivial, by rw [ht]; exact hP9, va_K.moved hW.alike hK9, hD9⟩, hS.F ht⟩) hS.2.2 dX3_bitOf_27
    · have c_2 := fun h => c_2 ((lg_cmp_ge p0 pls.toInt64).mpr h)
      have c_2 : p0.toInt < pls.toInt := i_nleL (a := pls.toInt64) (b := p0) (i_wide rfl) rfl c_2
      refine lv_aload_n hx hb dX3_bitOf_16 rfl (lv_at hl 0 rfl) ?_
      refine va_get (D := (dC, dI)) (ci := 3) (v := .ref plb) (C := RX3) (T := TX3) (N := 9) hx hb hts in_X3_bitOf_X3 hown hK hP 0 rfl rfl 7 (by decide) (hts _ wd_X3_bitOf_1) (fun _ h9 => h9) rfl dX3_bitOf_17 ?_
      refine lv_lload_n hx hb dX3_bitOf_20 rfl (lv_at hl 1 rfl) ?_
      refine lv_l2i (v := p0.toInt32) hx hb dX3_bitOf_21 rfl ?_
      refine lv_topi (fun x_3 ex_3 => ?_)
      have zx_3 : x_3.toInt = p0.toInt := by rw [ex_3]; exact i_l2i rfl (by omega) (by omega)
      refine va_lald hx hb hK hP 1 0 rfl rfl (i_in rfl (by omega) (by omega)) dX3_bitOf_22 ?_
      refine lv_topl (fun y_4 ey_4 => ?_)
      refine lv_goto (tgt := 27) hx hb dX3_bitOf_23 (by decide) ?_
      have hP9 := hP.sub (ws' := [(pl, .inr (3, [.int plw, .int pld, .int plc, .int pls, .long plm, .ref plf, .ref plo, .ref plb, .ref pla])), (plb, .inl (plkb, 40, .inr (.inl plB)))]) [0, 1] rfl
      have hD9 := hD.sub (ws' := [(pl, .inr (3, [.int plw, .int pld, .int plc, .int pls, .long plm, .ref plf, .ref plo, .ref plb, .ref pla])), (plb, .inl (plkb, 40, .inr (.inl plB)))]) [0, 1] (by decide) rfl
      have hK9 := hK.sub (tys' := []) [] rfl
      refine W.widen (k := 0) (n := 0) (by omega) (by omega) ?_
      exact W.lret (v := y_4) hx hb hr (fun t ht hW => ⟨⟨y_4, (), rfl, trivial, by rw [ht]; exact hP9, va_K.moved hW.alike hK9, hD9⟩, hS.F ht⟩) hS.2.2 dX3_bitOf_27

theorem dX3_has_0 : decode cX3_has 0 = .ok (.lload_n 1, 1) := by decide +kernel
theorem dX3_has_1 : decode cX3_has 1 = .ok (.aload_n 0, 1) := by decide +kernel
theorem dX3_has_2 : decode cX3_has 2 = .ok (.iload_n 3, 1) := by decide +kernel
theorem dX3_has_3 : decode cX3_has 3 = .ok (.i2l, 1) := by decide +kernel
theorem dX3_has_4 : decode cX3_has 4 = .ok (.invokevirtual 58, 3) := by decide +kernel
theorem dX3_has_7 : decode cX3_has 7 = .ok (.land, 1) := by decide +kernel
theorem dX3_has_8 : decode cX3_has 8 = .ok (.lconst 0, 1) := by decide +kernel
theorem dX3_has_9 : decode cX3_has 9 = .ok (.lcmp, 1) := by decide +kernel
theorem dX3_has_10 : decode cX3_has 10 = .ok (.ifCond .eq 7, 3) := by decide +kernel
theorem dX3_has_13 : decode cX3_has 13 = .ok (.iconst 1, 1) := by decide +kernel
theorem dX3_has_14 : decode cX3_has 14 = .ok (.goto 4, 3) := by decide +kernel
theorem dX3_has_17 : decode cX3_has 17 = .ok (.iconst 0, 1) := by decide +kernel
theorem dX3_has_18 : decode cX3_has 18 = .ok (.ireturn, 1) := by decide +kernel
def wz_X3_has : List Cond := .code yX3_has cX3_has 4 (some .boolean) :: ([Cond.methodLink RX3 58 yX3_bitOf, Cond.instanceMethod yX3_bitOf, Cond.selects RX3 yX3_bitOf yX3_bitOf, Cond.initialized RX3, Cond.code yX3_bitOf cX3_bitOf 3 (some .long), Cond.fieldLink RX3 21 "HedgeMaze$Plan" "sideCount" "I", Cond.fieldLink RX3 35 "HedgeMaze$Plan" "bits" "[J"] ++ wsX30)
set_option maxRecDepth 20000 in
theorem g_X3_has_X3_bitOf : GoodIn wz_X3_has (wsV RX3 58 RX3 yX3_bitOf wz_X3_bitOf) := goodIn_r _ [1, 2, 3, 4, 5, 6, 7, 8, 9, 10, 11, 12, 13, 14, 15, 16] rfl (by decide +kernel)
set_option maxHeartbeats 4000000 in
set_option maxRecDepth 100000 in
theorem c_X3_has (l : Launch) (dC : Nat → ClassId) (dI : Nat → Nat → Nat) (sz : Nat) (pl : Nat) (plw : Int32) (pld : Int32) (plc : Int32) (pls : Int32) (plm : Int64) (plf : Nat) (plo : Nat) (plb : Nat) (pla : Nat) (plkb : ClassId) (plB : Nat → Int64) (p0 : Int64) (p1 : Int32) (h_pls : 0 ≤ pls.toInt ∧ pls.toInt ≤ 40) : Met l yX3_has wz_X3_has ({ frames := 1, cells := 0, slots := 0, locals := 22 }) (va_Pc [.ref pl, .long p0, .int p1] (fun U => U.heap.size = sz ∧ va_P (dC, dI) vwCl [(pl, .inr (3, [.int plw, .int pld, .int plc, .int pls, .long plm, .ref plf, .ref plo, .ref plb, .ref pla])), (plb, .inl (plkb, 40, .inr (.inl plB)))] U.heap ∧ va_K (dC, dI) vwCl [(plkb, .long)] U ∧ va_D (fun _ => True) [(pl, .inr (3, [.int plw, .int pld, .int plc, .int pls, .long plm, .ref plf, .ref plo, .ref plb, .ref pla])), (plb, .inl (plkb, 40, .inr (.inl plB)))])) (va_Qi (fun (r : Int32) (u : Unit) => (r = 0 ∨ r = 1)) (fun (u : Unit) (t : State) => va_P (dC, dI) vwCl [(pl, .inr (3, [.int plw, .int pld, .int plc, .int pls, .long plm, .ref plf, .ref plo, .ref plb, .ref pla])), (plb, .inl (plkb, 40, .inr (.inl plB)))] t.heap ∧ va_K (dC, dI) vwCl [] t ∧ va_D (va_A [(pl, .inr (3, [.int plw, .int pld, .int plc, .int pls, .long plm, .ref plf, .ref plo, .ref plb, .ref pla])), (plb, .inl (plkb, 40, .inr (.inl plB)))] sz) [(pl, .inr (3, [.int plw, .int pld, .int plc, .int pls, .long plm, .ref plf, .ref plo, .ref plb, .ref pla])), (plb, .inl (plkb, 40, .inr (.inl plB)))]) (va_A [(pl, .inr (3, [.int plw, .int pld, .int plc, .int pls, .long plm, .ref plf, .ref plo, .ref plb, .ref pla])), (plb, .inl (plkb, 40, .inr (.inl plB)))] sz)) 0 0 (va_A [(pl, .inr (3, [.int plw, .int pld, .int plc, .int pls, .long plm, .ref plf, .ref plo, .ref plb, .ref pla])), (plb, .inl (plkb, 40, .inr (.inl plB)))] sz) := by
  refine Met.ofW (cc := cX3_has) (maxL := 4) (ret := (some .boolean)) (by decide) rfl ?_
  intro p e s m args below meth c s₁ B hml hv
  obtain ⟨rfl, hsz, hP, hK, hD0⟩ := hv
  have hx := B.exec
  have hb := B.bytes
  have hr := B.returns
  have hts := atoms_spec (ws := wz_X3_has) B.pre
  have hown : s.vm.findClass RX3 = some m.cls := findClass_of_methodNamed B.named
  have hlocks := B.notSynchronized
  subst hsz
  have hD := hD0.self (sz := s.heap.size)
  generalize hAe : va_A [(pl, .inr (3, [.int plw, .int pld, .int plc, .int pls, .long plm, .ref plf, .ref plo, .ref plb, .ref pla])), (plb, .inl (plkb, 40, .inr (.inl plB)))] s.heap.size = A at hD ⊢
  have hA : ∀ q : Nat, s.heap.size ≤ q → A q := fun q h => by rw [← hAe]; exact Or.inr h
  have hS : va_S A s.heap s.heap [] := va_S.rf
  have hP : va_P (dC, dI) vwCl [(pl, .inr (3, [.int plw, .int pld, .int plc, .int pls, .long plm, .ref plf, .ref plo, .ref plb, .ref pla])), (plb, .inl (plkb, 40, .inr (.inl plB)))] s.heap := hP
  have hl := lv_entry ([.ref pl, .long p0, .int p1]) (n := 4) (Nat.le_of_ble_eq_true rfl)
  rw [lg_entry_eq]
  generalize (lg_sl ([.ref pl, .long p0, .int p1]) ++ List.replicate (4 - (lg_sl ([.ref pl, .long p0, .int p1])).length) Slot.unset).toArray = ls at hl ⊢
  have hl : lv_has ls 4 [(0, .ref pl), (1, .long p0), (3, .int p1)] := hl
  refine lv_lload_n hx hb dX3_has_0 rfl (lv_at hl 1 rfl) ?_
  refine lv_aload_n hx hb dX3_has_1 rfl (lv_at hl 0 rfl) ?_
  refine lv_iload_n hx hb dX3_has_2 rfl (lv_at hl 2 rfl) ?_
  refine lv_i2l (v := p1.toInt64) hx hb dX3_has_3 rfl ?_
  have hPc := hP.sub (ws' := [(pl, .inr (3, [.int plw, .int pld, .int plc, .int pls, .long plm, .ref plf, .ref plo, .ref plb, .ref pla])), (plb, .inl (plkb, 40, .inr (.inl plB)))]) [0, 1] rfl
  have hDc := hD.sub (ws' := [(pl, .inr (3, [.int plw, .int pld, .int plc, .int pls, .long plm, .ref plf, .ref plo, .ref plb, .ref pla])), (plb, .inl (plkb, 40, .inr (.inl plB)))]) [0, 1] (by decide) rfl
  have hKc := hK.sub (tys' := [(plkb, .long)]) [0] rfl
  have hFc := va_free (wc := [(pl, .inr (3, [.int plw, .int pld, .int plc, .int pls, .long plm, .ref plf, .ref plo, .ref plb, .ref pla])), (plb, .inl (plkb, 40, .inr (.inl plB)))]) hD hS hA [0, 1] rfl
  refine va_calll (va_runV (As := [.long p1.toInt64]) (rest := [.long p0]) ⟨hx, hb, hml, hown, hts⟩ (c_X3_bitOf l dC dI s.heap.size pl plw pld plc pls plm plf plo plb pla plkb plB p1.toInt64 (by omega)) (cwV 1 hts g_X3_has_X3_bitOf rfl rfl rfl (by decide +kernel) ⟨Nat.le_of_ble_eq_true rfl, Nat.le_of_ble_eq_true rfl⟩) ⟨fun a U g mk q => by obtain ⟨q0, q1, qP, qK, qD⟩ := q; exact ⟨q0, q1, qP, va_K.moved (u := U) (U := U.calling g mk a) (Vm.Alike.refl U.vm) qK, qD⟩, va_recv hKc hPc (ci := 3) (q0 := 0) rfl rfl, fun U hU hW => ⟨rfl, by rw [hU], by rw [hU]; exact hPc, va_K.moved hW.alike hKc, hDc.weaken (fun _ _ _ _ => trivial)⟩⟩ rfl rfl hl.1 rfl (lv_room (Nat.le_of_ble_eq_true rfl)) dX3_has_4 ⟨Nat.le_of_ble_eq_true rfl, Nat.le_of_ble_eq_true rfl⟩) hS (fun q _ h => hFc q h) hFc (fun r_1 u t H1 locs ht hvm hw_2 hB hz1 hk1 hS => ?_)
  obtain ⟨hP1, hK1, hD1⟩ := hB
  have hP1 : va_P (dC, dI) vwCl [(pl, .inr (3, [.int plw, .int pld, .int plc, .int pls, .long plm, .ref plf, .ref plo, .ref plb, .ref pla])), (plb, .inl (plkb, 40, .inr (.inl plB)))] t.heap := hP1
  rw [ht] at hP1
  try dsimp only at hw_2
  obtain ⟨hP, hD⟩ := va_join (wr := []) (w1 := [(pl, .inr (3, [.int plw, .int pld, .int plc, .int pls, .long plm, .ref plf, .ref plo, .ref plb, .ref pla])), (plb, .inl (plkb, 40, .inr (.inl plB)))]) hP hD [0, 1] [] rfl rfl (by decide) (by decide) hk1 hFc hP1 hD1
  generalize H1 = H at hP hS ⊢
  have hP : va_P (dC, dI) vwCl [(pl, .inr (3, [.int plw, .int pld, .int plc, .int pls, .long plm, .ref plf, .ref plo, .ref plb, .ref pla])), (plb, .inl (plkb, 40, .inr (.inl plB)))] H := hP
  have hD : va_D A [(pl, .inr (3, [.int plw, .int pld, .int plc, .int pls, .long plm, .ref plf, .ref plo, .ref plb, .ref pla])), (plb, .inl (plkb, 40, .inr (.inl plB)))] := hD
  refine lv_land hx hb dX3_has_7 ?_
  refine lv_topl (fun y_3 ey_3 => ?_)
  refine lv_lconst (v := 0) hx hb dX3_has_8 (by decide) ?_
  refine W.lcmp hx hb dX3_has_9 ?_
  refine lv_if_eq (tgt := 17) hx hb dX3_has_10 (by decide) (fun c_4 => ?_) (fun c_4 => ?_)
  · have c_4 := (lg_cmp_eq y_3 0).mp c_4
    have c_4 : y_3.toInt = 0 := i_eqL (a := y_3) (b := 0) rfl (by decide) c_4
    refine lv_iconst (v := 0) hx hb dX3_has_17 (by decide) ?_
    have hP9 := hP.sub (ws' := [(pl, .inr (3, [.int plw, .int pld, .int plc, .int pls, .long plm, .ref plf, .ref plo, .ref plb, .ref pla])), (plb, .inl (plkb, 40, .inr (.inl plB)))]) [0, 1] rfl
    have hD9 := hD.sub (ws' := [(pl, .inr (3, [.int plw, .int pld, .int plc, .int pls, .long plm, .ref plf, .ref plo, .ref plb, .ref pla])), (plb, .inl (plkb, 40, .inr (.inl plB)))]) [0, 1] (by decide) rfl
    have hK9 := hK.sub (tys' := []) [] rfl
    refine W.widen (k := 0) (n := 0) (by omega) (by omega) ?_
    exact W.zret (v := 0) hx hb hr (by decide) (fun t ht hW => ⟨⟨0, (), rfl, (by have k0 : (0 : Int32).toInt = 0 := (by decide); first | rfl | trivial | (dsimp only; omega) | omega | (left; rfl) | (right; rfl) | (dsimp only; first | (left; rfl) | (right; rfl))), by rw [ht]; exact hP9, va_K.moved hW.alike hK9, hD9⟩, hS.F ht⟩) hS.2.2 dX3_has_18
  · have c_4 := fun h => c_4 ((lg_cmp_eq y_3 0).mpr h)
    have c_4 : y_3.toInt ≠ 0 := i_neL (a := y_3) (b := 0) rfl (by decide) c_4
    refine lv_iconst (v := 1) hx hb dX3_has_13 (by decide) ?_
    refine lv_goto (tgt := 18) hx hb dX3_has_14 (by decide) ?_
    have hP9 := hP.sub (ws' := [(pl, .inr (3, [.int plw, .int pld, .int plc, .int pls, .long plm, .ref plf, .ref plo, .ref plb, .ref pla])), (plb, .inl (plkb, 40, .inr (.inl plB)))]) [0, 1] rfl
    have hD9 := hD.sub (ws' := [(pl, .inr (3, [.int plw, .int pld, .int plc, .int pls, .long plm, .ref plf, .ref plo, .ref plb, .ref pla])), (plb, .inl (plkb, 40, .inr (.inl plB)))]) [0, 1] (by decide) rfl
    have hK9 := hK.sub (tys' := []) [] rfl
    refine W.widen (k := 0) (n := 0) (by omega) (by omega) ?_
    exact W.zret (v := 1) hx hb hr (by decide) (fun t ht hW => ⟨⟨1, (), rfl, (by have k0 : (1 : Int32).toInt = 1 := (by decide); first | rfl | trivial | (dsimp only; omega) | omega | (left; rfl) | (right; rfl) | (dsimp only; first | (left; rfl) | (right; rfl))), by rw [ht]; exact hP9, va_K.moved hW.alike hK9, hD9⟩, hS.F ht⟩) hS.2.2 dX3_has_18

theorem dX3_sideAt_0 : decode cX3_sideAt 0 = .ok (.iload_n 1, 1) := by decide +kernel
theorem dX3_sideAt_1 : decode cX3_sideAt 1 = .ok (.iconst 4, 1) := by decide +kernel
theorem dX3_sideAt_2 : decode cX3_sideAt 2 = .ok (.imul, 1) := by decide +kernel
theorem dX3_sideAt_3 : decode cX3_sideAt 3 = .ok (.iload_n 2, 1) := by decide +kernel
theorem dX3_sideAt_4 : decode cX3_sideAt 4 = .ok (.iadd, 1) := by decide +kernel
theorem dX3_sideAt_5 : decode cX3_sideAt 5 = .ok (.istore_n 3, 1) := by decide +kernel
theorem dX3_sideAt_6 : decode cX3_sideAt 6 = .ok (.iload_n 3, 1) := by decide +kernel
theorem dX3_sideAt_7 : decode cX3_sideAt 7 = .ok (.ifCond .lt 21, 3) := by decide +kernel
theorem dX3_sideAt_10 : decode cX3_sideAt 10 = .ok (.iload_n 3, 1) := by decide +kernel
theorem dX3_sideAt_11 : decode cX3_sideAt 11 = .ok (.aload_n 0, 1) := by decide +kernel
theorem dX3_sideAt_12 : decode cX3_sideAt 12 = .ok (.getfield 39, 3) := by decide +kernel
theorem dX3_sideAt_15 : decode cX3_sideAt 15 = .ok (.arraylength, 1) := by decide +kernel
theorem dX3_sideAt_16 : decode cX3_sideAt 16 = .ok (.if_icmp .ge 12, 3) := by decide +kernel
theorem dX3_sideAt_19 : decode cX3_sideAt 19 = .ok (.aload_n 0, 1) := by decide +kernel
theorem dX3_sideAt_20 : decode cX3_sideAt 20 = .ok (.getfield 39, 3) := by decide +kernel
theorem dX3_sideAt_23 : decode cX3_sideAt 23 = .ok (.iload_n 3, 1) := by decide +kernel
theorem dX3_sideAt_24 : decode cX3_sideAt 24 = .ok (.iaload, 1) := by decide +kernel
theorem dX3_sideAt_25 : decode cX3_sideAt 25 = .ok (.goto 4, 3) := by decide +kernel
theorem dX3_sideAt_28 : decode cX3_sideAt 28 = .ok (.iconst (-1), 1) := by decide +kernel
theorem dX3_sideAt_29 : decode cX3_sideAt 29 = .ok (.ireturn, 1) := by decide +kernel
def wz_X3_sideAt : List Cond := .code yX3_sideAt cX3_sideAt 4 (some .int) :: ([Cond.fieldLink RX3 39 "HedgeMaze$Plan" "around" "[I"] ++ wsX30)
theorem wd_X3_sideAt_0 : Cond.fieldLink RX3 39 "HedgeMaze$Plan" "around" "[I" ∈ wz_X3_sideAt := List.mem_of_getElem? (i := 1) rfl
theorem in_X3_sideAt_X3 : ∀ w ∈ wsX30, w ∈ wz_X3_sideAt := fun _ h => List.mem_cons_of_mem _ (List.mem_append_right _ h)
set_option maxHeartbeats 4000000 in
set_option maxRecDepth 100000 in
theorem c_X3_sideAt (l : Launch) (dC : Nat → ClassId) (dI : Nat → Nat → Nat) (sz : Nat) (pl : Nat) (plw : Int32) (pld : Int32) (plc : Int32) (pls : Int32) (plm : Int64) (plf : Nat) (plo : Nat) (plb : Nat) (pla : Nat) (plka : ClassId) (plA : Nat → Int32) (p0 : Int32) (p1 : Int32)  : Met l yX3_sideAt wz_X3_sideAt ({ frames := 0, cells := 0, slots := 0, locals := 0 }) (va_Pc [.ref pl, .int p0, .int p1] (fun U => U.heap.size = sz ∧ va_P (dC, dI) vwCl [(pl, .inr (3, [.int plw, .int pld, .int plc, .int pls, .long plm, .ref plf, .ref plo, .ref plb, .ref pla])), (pla, .inl (plka, 100, .inl plA))] U.heap ∧ va_K (dC, dI) vwCl [(plka, .int)] U ∧ va_D (fun _ => True) [(pl, .inr (3, [.int plw, .int pld, .int plc, .int pls, .long plm, .ref plf, .ref plo, .ref plb, .ref pla])), (pla, .inl (plka, 100, .inl plA))])) (va_Qi (fun (r : Int32) (u : Unit) => True) (fun (u : Unit) (t : State) => va_P (dC, dI) vwCl [(pl, .inr (3, [.int plw, .int pld, .int plc, .int pls, .long plm, .ref plf, .ref plo, .ref plb, .ref pla])), (pla, .inl (plka, 100, .inl plA))] t.heap ∧ va_K (dC, dI) vwCl [] t ∧ va_D (va_A [(pl, .inr (3, [.int plw, .int pld, .int plc, .int pls, .long plm, .ref plf, .ref plo, .ref plb, .ref pla])), (pla, .inl (plka, 100, .inl plA))] sz) [(pl, .inr (3, [.int plw, .int pld, .int plc, .int pls, .long plm, .ref plf, .ref plo, .ref plb, .ref pla])), (pla, .inl (plka, 100, .inl plA))]) (va_A [(pl, .inr (3, [.int plw, .int pld, .int plc, .int pls, .long plm, .ref plf, .ref plo, .ref plb, .ref pla])), (pla, .inl (plka, 100, .inl plA))] sz)) 0 0 (va_A [(pl, .inr (3, [.int plw, .int pld, .int plc, .int pls, .long plm, .ref plf, .ref plo, .ref plb, .ref pla])), (pla, .inl (plka, 100, .inl plA))] sz) := by
  refine Met.ofW (cc := cX3_sideAt) (maxL := 4) (ret := (some .int)) (by decide) rfl ?_
  intro p e s m args below meth c s₁ B hml hv
  obtain ⟨rfl, hsz, hP, hK, hD0⟩ := hv
  have hx := B.exec
  have hb := B.bytes
  have hr := B.returns
  have hts := atoms_spec (ws := wz_X3_sideAt) B.pre
  have hown : s.vm.findClass RX3 = some m.cls := findClass_of_methodNamed B.named
  have hlocks := B.notSynchronized
  subst hsz
  have hD := hD0.self (sz := s.heap.size)
  generalize hAe : va_A [(pl, .inr (3, [.int plw, .int pld, .int plc, .int pls, .long plm, .ref plf, .ref plo, .ref plb, .ref pla])), (pla, .inl (plka, 100, .inl plA))] s.heap.size = A at hD ⊢
  have hA : ∀ q : Nat, s.heap.size ≤ q → A q := fun q h => by rw [← hAe]; exact Or.inr h
  have hS : va_S A s.heap s.heap [] := va_S.rf
  have hP : va_P (dC, dI) vwCl [(pl, .inr (3, [.int plw, .int pld, .int plc, .int pls, .long plm, .ref plf, .ref plo, .ref plb, .ref pla])), (pla, .inl (plka, 100, .inl plA))] s.heap := hP
  have hl := lv_entry ([.ref pl, .int p0, .int p1]) (n := 4) (Nat.le_of_ble_eq_true rfl)
  rw [lg_entry_eq]
  generalize (lg_sl ([.ref pl, .int p0, .int p1]) ++ List.replicate (4 - (lg_sl ([.ref pl, .int p0, .int p1])).length) Slot.unset).toArray = ls at hl ⊢
  have hl : lv_has ls 4 [(0, .ref pl), (1, .int p0), (2, .int p1)] := hl
  refine lv_iload_n hx hb dX3_sideAt_0 rfl (lv_at hl 1 rfl) ?_
  refine lv_iconst (v := 4) hx hb dX3_sideAt_1 (by decide) ?_
  refine lv_imul hx hb dX3_sideAt_2 ?_
  refine lv_topi (fun x_1 ex_1 => ?_)
  refine lv_iload_n hx hb dX3_sideAt_3 rfl (lv_at hl 2 rfl) ?_
  refine lv_iadd hx hb dX3_sideAt_4 ?_
  refine lv_topi (fun x_2 ex_2 => ?_)
  refine lv_istore_n (lv' := [(3, .int x_2), (0, .ref pl), (1, .int p0), (2, .int p1)]) hx hb dX3_sideAt_5 rfl hl (by decide) rfl (fun ls hl => ?_)
  refine lv_iload_n hx hb dX3_sideAt_6 rfl (lv_at hl 0 rfl) ?_
  refine lv_if_lt (tgt := 28) hx hb dX3_sideAt_7 (by decide) (fun c_3 => ?_) (fun c_3 => ?_)
  · have c_3 : x_2.toInt < 0 := i_lt (a := x_2) (b := 0) rfl (by decide) c_3
    refine lv_iconst (v := -1) hx hb dX3_sideAt_28 (by decide) ?_
    have hP9 := hP.sub (ws' := [(pl, .inr (3, [.int plw, .int pld, .int plc, .int pls, .long plm, .ref plf, .ref plo, .ref plb, .ref pla])), (pla, .inl (plka, 100, .inl plA))]) [0, 1] rfl
    have hD9 := hD.sub (ws' := [(pl, .inr (3, [.int plw, .int pld, .int plc, .int pls, .long plm, .ref plf, .ref plo, .ref plb, .ref pla])), (pla, .inl (plka, 100, .inl plA))]) [0, 1] (by decide) rfl
    have hK9 := hK.sub (tys' := []) [] rfl
    refine W.widen (k := 0) (n := 0) (by omega) (by omega) ?_
    exact W.iret (v := -1) hx hb hr (fun t ht hW => ⟨⟨(-1), (), rfl, trivial, by rw [ht]; exact hP9, va_K.moved hW.alike hK9, hD9⟩, hS.F ht⟩) hS.2.2 dX3_sideAt_29
  · have c_3 : 0 ≤ x_2.toInt := i_nlt (a := x_2) (b := 0) rfl (by decide) c_3
    refine lv_iload_n hx hb dX3_sideAt_10 rfl (lv_at hl 0 rfl) ?_
    refine lv_aload_n hx hb dX3_sideAt_11 rfl (lv_at hl 1 rfl) ?_
    refine va_get (D := (dC, dI)) (ci := 3) (v := .ref pla) (C := RX3) (T := TX3) (N := 9) hx hb hts in_X3_sideAt_X3 hown hK hP 0 rfl rfl 8 (by decide) (hts _ wd_X3_sideAt_0) (fun _ h9 => h9) rfl dX3_sideAt_12 ?_
    refine va_alen hx hb hK hP 1 0 rfl rfl (v := 100) (show Int32.ofNat 100 = 100 by decide) dX3_sideAt_15 ?_
    refine lv_icmp_ge (tgt := 28) hx hb dX3_sideAt_16 (by decide) (fun c_4 => ?_) (fun c_4 => ?_)
    · have c_4 : 100 ≤ x_2.toInt := i_le (a := 100) (b := x_2) (by decide) rfl c_4
      refine lv_iconst (v := -1) hx hb dX3_sideAt_28 (by decide) ?_
      have hP9 := hP.sub (ws' := [(pl, .inr (3, [.int plw, .int pld, .int plc, .int pls, .long plm, .ref plf, .ref plo, .ref plb, .ref pla])), (pla, .inl (plka, 100, .inl plA))]) [0, 1] rfl
      have hD9 := hD.sub (ws' := [(pl, .inr (3, [.int plw, .int pld, .int plc, .int pls, .long plm, .ref plf, .ref plo, .ref plb, .ref pla])), (pla, .inl (plka, 100, .inl plA))]) [0, 1] (by decide) rfl
      have hK9 := hK.sub (tys' := []) [] rfl
      refine W.widen (k := 0) (n := 0) (by omega) (by omega) ?_
      exact W.iret (v := -1) hx hb hr (fun t ht hW => ⟨⟨(-1), (), rfl, trivial, by rw [ht]; exact hP9, va_K.moved hW.alike hK9, hD9⟩, hS.F ht⟩) hS.2.2 dX3_sideAt_29
    · have c_4 : x_2.toInt < 100 := i_nle (a := 100) (b := x_2) (by decide) rfl c_4
      refine lv_aload_n hx hb dX3_sideAt_19 rfl (lv_at hl 1 rfl) ?_
      refine va_get (D := (dC, dI)) (ci := 3) (v := .ref pla) (C := RX3) (T := TX3) (N := 9) hx hb hts in_X3_sideAt_X3 hown hK hP 0 rfl rfl 8 (by decide) (hts _ wd_X3_sideAt_0) (fun _ h9 => h9) rfl dX3_sideAt_20 ?_
      refine lv_iload_n hx hb dX3_sideAt_23 rfl (lv_at hl 0 rfl) ?_
      refine va_iald hx hb hK hP 1 0 rfl rfl (i_in rfl (by omega) (by omega)) dX3_sideAt_24 ?_
      refine lv_topi (fun v_5 ev_5 => ?_)
      refine lv_goto (tgt := 29) hx hb dX3_sideAt_25 (by decide) ?_
      have hP9 := hP.sub (ws' := [(pl, .inr (3, [.int plw, .int pld, .int plc, .int pls, .long plm, .ref plf, .ref plo, .ref plb, .ref pla])), (pla, .inl (plka, 100, .inl plA))]) [0, 1] rfl
      have hD9 := hD.sub (ws' := [(pl, .inr (3, [.int plw, .int pld, .int plc, .int pls, .long plm, .ref plf, .ref plo, .ref plb, .ref pla])), (pla, .inl (plka, 100, .inl plA))]) [0, 1] (by decide) rfl
      have hK9 := hK.sub (tys' := []) [] rfl
      refine W.widen (k := 0) (n := 0) (by omega) (by omega) ?_
      exact W.iret (v := v_5) hx hb hr (fun t ht hW => ⟨⟨v_5, (), rfl, trivial, by rw [ht]; exact hP9, va_K.moved hW.alike hK9, hD9⟩, hS.F ht⟩) hS.2.2 dX3_sideAt_29

theorem dX3_beyond_0 : decode cX3_beyond 0 = .ok (.iload_n 1, 1) := by decide +kernel
theorem dX3_beyond_1 : decode cX3_beyond 1 = .ok (.ifCond .lt 11, 3) := by decide +kernel
theorem dX3_beyond_4 : decode cX3_beyond 4 = .ok (.iload_n 1, 1) := by decide +kernel
theorem dX3_beyond_5 : decode cX3_beyond 5 = .ok (.aload_n 0, 1) := by decide +kernel
theorem dX3_beyond_6 : decode cX3_beyond 6 = .ok (.getfield 21, 3) := by decide +kernel
theorem dX3_beyond_9 : decode cX3_beyond 9 = .ok (.if_icmp .lt 5, 3) := by decide +kernel
theorem dX3_beyond_12 : decode cX3_beyond 12 = .ok (.iload_n 2, 1) := by decide +kernel
theorem dX3_beyond_13 : decode cX3_beyond 13 = .ok (.ireturn, 1) := by decide +kernel
theorem dX3_beyond_14 : decode cX3_beyond 14 = .ok (.aload_n 0, 1) := by decide +kernel
theorem dX3_beyond_15 : decode cX3_beyond 15 = .ok (.getfield 28, 3) := by decide +kernel
theorem dX3_beyond_18 : decode cX3_beyond 18 = .ok (.iload_n 1, 1) := by decide +kernel
theorem dX3_beyond_19 : decode cX3_beyond 19 = .ok (.iaload, 1) := by decide +kernel
theorem dX3_beyond_20 : decode cX3_beyond 20 = .ok (.iload_n 2, 1) := by decide +kernel
theorem dX3_beyond_21 : decode cX3_beyond 21 = .ok (.if_icmp .ne 12, 3) := by decide +kernel
theorem dX3_beyond_24 : decode cX3_beyond 24 = .ok (.aload_n 0, 1) := by decide +kernel
theorem dX3_beyond_25 : decode cX3_beyond 25 = .ok (.getfield 32, 3) := by decide +kernel
theorem dX3_beyond_28 : decode cX3_beyond 28 = .ok (.iload_n 1, 1) := by decide +kernel
theorem dX3_beyond_29 : decode cX3_beyond 29 = .ok (.iaload, 1) := by decide +kernel
theorem dX3_beyond_30 : decode cX3_beyond 30 = .ok (.goto 9, 3) := by decide +kernel
theorem dX3_beyond_33 : decode cX3_beyond 33 = .ok (.aload_n 0, 1) := by decide +kernel
theorem dX3_beyond_34 : decode cX3_beyond 34 = .ok (.getfield 28, 3) := by decide +kernel
theorem dX3_beyond_37 : decode cX3_beyond 37 = .ok (.iload_n 1, 1) := by decide +kernel
theorem dX3_beyond_38 : decode cX3_beyond 38 = .ok (.iaload, 1) := by decide +kernel
theorem dX3_beyond_39 : decode cX3_beyond 39 = .ok (.ireturn, 1) := by decide +kernel
def wz_X3_beyond : List Cond := .code yX3_beyond cX3_beyond 3 (some .int) :: ([Cond.fieldLink RX3 21 "HedgeMaze$Plan" "sideCount" "I", Cond.fieldLink RX3 28 "HedgeMaze$Plan" "first" "[I", Cond.fieldLink RX3 32 "HedgeMaze$Plan" "other" "[I"] ++ wsX30)
theorem wd_X3_beyond_0 : Cond.fieldLink RX3 21 "HedgeMaze$Plan" "sideCount" "I" ∈ wz_X3_beyond := List.mem_of_getElem? (i := 1) rfl
theorem wd_X3_beyond_1 : Cond.fieldLink RX3 28 "HedgeMaze$Plan" "first" "[I" ∈ wz_X3_beyond := List.mem_of_getElem? (i := 2) rfl
theorem wd_X3_beyond_2 : Cond.fieldLink RX3 32 "HedgeMaze$Plan" "other" "[I" ∈ wz_X3_beyond := List.mem_of_getElem? (i := 3) rfl
theorem in_X3_beyond_X3 : ∀ w ∈ wsX30, w ∈ wz_X3_beyond := fun _ h => List.mem_cons_of_mem _ (List.mem_append_right _ h)
set_option maxHeartbeats 4000000 in
set_option maxRecDepth 100000 in
theorem c_X3_beyond (l : Launch) (dC : Nat → ClassId) (dI : Nat → Nat → Nat) (sz : Nat) (pl : Nat) (plw : Int32) (pld : Int32) (plc : Int32) (pls : Int32) (plm : Int64) (plf : Nat) (plo : Nat) (plb : Nat) (pla : Nat) (plkf : ClassId) (plF : Nat → Int32) (plko : ClassId) (plO : Nat → Int32) (p0 : Int32) (p1 : Int32) (h_pls : 0 ≤ pls.toInt ∧ pls.toInt ≤ 40) (h_p1 : 0 ≤ p1.toInt ∧ p1.toInt ≤ 24) (hR_plf : RG plF 40 0 24) (hR_plo : RG plO 40 0 24) : Met l yX3_beyond wz_X3_beyond ({ frames := 0, cells := 0, slots := 0, locals := 0 }) (va_Pc [.ref pl, .int p0, .int p1] (fun U => U.heap.size = sz ∧ va_P (dC, dI) vwCl [(pl, .inr (3, [.int plw, .int pld, .int plc, .int pls, .long plm, .ref plf, .ref plo, .ref plb, .ref pla])), (plf, .inl (plkf, 40, .inl plF)), (plo, .inl (plko, 40, .inl plO))] U.heap ∧ va_K (dC, dI) vwCl [(plkf, .int), (plko, .int)] U ∧ va_D (fun _ => True) [(pl, .inr (3, [.int plw, .int pld, .int plc, .int pls, .long plm, .ref plf, .ref plo, .ref plb, .ref pla])), (plf, .inl (plkf, 40, .inl plF)), (plo, .inl (plko, 40, .inl plO))])) (va_Qi (fun (r : Int32) (u : Unit) => (0 ≤ r.toInt ∧ r.toInt ≤ 24)) (fun (u : Unit) (t : State) => va_P (dC, dI) vwCl [(pl, .inr (3, [.int plw, .int pld, .int plc, .int pls, .long plm, .ref plf, .ref plo, .ref plb, .ref pla])), (plf, .inl (plkf, 40, .inl plF)), (plo, .inl (plko, 40, .inl plO))] t.heap ∧ va_K (dC, dI) vwCl [] t ∧ va_D (va_A [(pl, .inr (3, [.int plw, .int pld, .int plc, .int pls, .long plm, .ref plf, .ref plo, .ref plb, .ref pla])), (plf, .inl (plkf, 40, .inl plF)), (plo, .inl (plko, 40, .inl plO))] sz) [(pl, .inr (3, [.int plw, .int pld, .int plc, .int pls, .long plm, .ref plf, .ref plo, .ref plb, .ref pla])), (plf, .inl (plkf, 40, .inl plF)), (plo, .inl (plko, 40, .inl plO))]) (va_A [(pl, .inr (3, [.int plw, .int pld, .int plc, .int pls, .long plm, .ref plf, .ref plo, .ref plb, .ref pla])), (plf, .inl (plkf, 40, .inl plF)), (plo, .inl (plko, 40, .inl plO))] sz)) 0 0 (va_A [(pl, .inr (3, [.int plw, .int pld, .int plc, .int pls, .long plm, .ref plf, .ref plo, .ref plb, .ref pla])), (plf, .inl (plkf, 40, .inl plF)), (plo, .inl (plko, 40, .inl plO))] sz) := by
  refine Met.ofW (cc := cX3_beyond) (maxL := 3) (ret := (some .int)) (by decide) rfl ?_
  intro p e s m args below meth c s₁ B hml hv
  obtain ⟨rfl, hsz, hP, hK, hD0⟩ := hv
  have hx := B.exec
  have hb := B.bytes
  have hr := B.returns
  have hts := atoms_spec (ws := wz_X3_beyond) B.pre
  have hown : s.vm.findClass RX3 = some m.cls := findClass_of_methodNamed B.named
  have hlocks := B.notSynchronized
  subst hsz
  have hD := hD0.self (sz := s.heap.size)
  generalize hAe : va_A [(pl, .inr (3, [.int plw, .int pld, .int plc, .int pls, .long plm, .ref plf, .ref plo, .ref plb, .ref pla])), (plf, .inl (plkf, 40, .inl plF)), (plo, .inl (plko, 40, .inl plO))] s.heap.size = A at hD ⊢
  have hA : ∀ q : Nat, s.heap.size ≤ q → A q := fun q h => by rw [← hAe]; exact Or.inr h
  have hS : va_S A s.heap s.heap [] := va_S.rf
  have hP : va_P (dC, dI) vwCl [(pl, .inr (3, [.int plw, .int pld, .int plc, .int pls, .long plm, .ref plf, .ref plo, .ref plb, .ref pla])), (plf, .inl (plkf, 40, .inl plF)), (plo, .inl (plko, 40, .inl plO))] s.heap := hP
  have hl := lv_entry ([.ref pl, .int p0, .int p1]) (n := 3) (Nat.le_of_ble_eq_true rfl)
  rw [lg_entry_eq]
  generalize (lg_sl ([.ref pl, .int p0, .int p1]) ++ List.replicate (3 - (lg_sl ([.ref pl, .int p0, .int p1])).length) Slot.unset).toArray = ls at hl ⊢
  have hl : lv_has ls 3 [(0, .ref pl), (1, .int p0), (2, .int p1)] := hl
  refine lv_iload_n hx hb dX3_beyond_0 rfl (lv_at hl 1 rfl) ?_
  refine lv_if_lt (tgt := 12) hx hb dX3_beyond_1 (by decide) (fun c_1 => ?_) (fun c_1 => ?_)
  · have c_1 : p0.toInt < 0 := i_lt (a := p0) (b := 0) rfl (by decide) c_1
    refine lv_iload_n hx hb dX3_beyond_12 rfl (lv_at hl 2 rfl) ?_
    have hP9 := hP.sub (ws' := [(pl, .inr (3, [.int plw, .int pld, .int plc, .int pls, .long plm, .ref plf, .ref plo, .ref plb, .ref pla])), (plf, .inl (plkf, 40, .inl plF)), (plo, .inl (plko, 40, .inl plO))]) [0, 1, 2] rfl
    have hD9 := hD.sub (ws' := [(pl, .inr (3, [.int plw, .int pld, .int plc, .int pls, .long plm, .ref plf, .ref plo, .ref plb, .ref pla])), (plf, .inl (plkf, 40, .inl plF)), (plo, .inl (plko, 40, .inl plO))]) [0, 1, 2] (by decide) rfl
    have hK9 := hK.sub (tys' := []) [] rfl
    refine W.widen (k := 0) (n := 0) (by omega) (by omega) ?_
    exact W.iret (v := p1) hx hb hr (fun t ht hW => ⟨⟨p1, (), rfl, (by first | rfl | trivial | (dsimp only; omega) | omega | (left; rfl) | (right; rfl) | (dsimp only; first | (left; rfl) | (right; rfl))), by rw [ht]; exact hP9, va_K.moved hW.alike hK9, hD9⟩, hS.F ht⟩) hS.2.2 dX3_beyond_13
  · have c_1 : 0 ≤ p0.toInt := i_nlt (a := p0) (b := 0) rfl (by decide) c_1
    refine lv_iload_n hx hb dX3_beyond_4 rfl (lv_at hl 1 rfl) ?_
    refine lv_aload_n hx hb dX3_beyond_5 rfl (lv_at hl 0 rfl) ?_
    refine va_get (D := (dC, dI)) (ci := 3) (v := .int pls) (C := RX3) (T := TX3) (N := 9) hx hb hts in_X3_beyond_X3 hown hK hP 0 rfl rfl 3 (by decide) (hts _ wd_X3_beyond_0) (fun _ h9 => h9) rfl dX3_beyond_6 ?_
    refine lv_icmp_lt (tgt := 14) hx hb dX3_beyond_9 (by decide) (fun c_2 => ?_) (fun c_2 => ?_)
    · have c_2 : p0.toInt < pls.toInt := i_lt (a := p0) (b := pls) rfl rfl c_2
      refine lv_aload_n hx hb dX3_beyond_14 rfl (lv_at hl 0 rfl) ?_
      refine va_get (D := (dC, dI)) (ci := 3) (v := .ref plf) (C := RX3) (T := TX3) (N := 9) hx hb hts in_X3_beyond_X3 hown hK hP 0 rfl rfl 5 (by decide) (hts _ wd_X3_beyond_1) (fun _ h9 => h9) rfl dX3_beyond_15 ?_
      refine lv_iload_n hx hb dX3_beyond_18 rfl (lv_at hl 1 rfl) ?_
      have hin_3 : vp_in p0 40 := (i_in rfl (by omega) (by omega))
      refine va_iald hx hb hK hP 1 0 rfl rfl hin_3 dX3_beyond_19 ?_
      refine lv_topi (fun v_4 ev_4 => ?_)
      have hv_4 := RG.at hR_plf hin_3 ev_4
      refine lv_iload_n hx hb dX3_beyond_20 rfl (lv_at hl 2 rfl) ?_
      refine lv_icmp_ne (tgt := 33) hx hb dX3_beyond_21 (by decide) (fun c_5 => ?_) (fun c_5 => ?_)
      · have c_5 : v_4.toInt ≠ p1.toInt := i_ne (a := v_4) (b := p1) rfl rfl c_5
        refine lv_aload_n hx hb dX3_beyond_33 rfl (lv_at hl 0 rfl) ?_
        refine va_get (D := (dC, dI)) (ci := 3) (v := .ref plf) (C := RX3) (T := TX3) (N := 9) hx hb hts in_X3_beyond_X3 hown hK hP 0 rfl rfl 5 (by decide) (hts _ wd_X3_beyond_1) (fun _ h9 => h9) rfl dX3_beyond_34 ?_
        refine lv_iload_n hx hb dX3_beyond_37 rfl (lv_at hl 1 rfl) ?_
        have hin_6 : vp_in p0 40 := (i_in rfl (by omega) (by omega))
        refine va_iald hx hb hK hP 1 0 rfl rfl hin_6 dX3_beyond_38 ?_
        refine lv_topi (fun v_7 ev_7 => ?_)
        have hv_7 := RG.at hR_plf hin_6 ev_7
        have hP9 := hP.sub (ws' := [(pl, .inr (3, [.int plw, .int pld, .int plc, .int pls, .long plm, .ref plf, .ref plo, .ref plb, .ref pla])), (plf, .inl (plkf, 40, .inl plF)), (plo, .inl (plko, 40, .inl plO))]) [0, 1, 2] rfl
        have hD9 := hD.sub (ws' := [(pl, .inr (3, [.int plw, .int pld, .int plc, .int pls, .long plm, .ref plf, .ref plo, .ref plb, .ref pla])), (plf, .inl (plkf, 40, .inl plF)), (plo, .inl (plko, 40, .inl plO))]) [0, 1, 2] (by decide) rfl
        have hK9 := hK.sub (tys' := []) [] rfl
        refine W.widen (k := 0) (n := 0) (by omega) (by omega) ?_
        exact W.iret (v := v_7) hx hb hr (fun t ht hW => ⟨⟨v_7, (), rfl, (by first | rfl | trivial | (dsimp only; omega) | omega | (left; rfl) | (right; rfl) | (dsimp only; first | (left; rfl) | (right; rfl))), by rw [ht]; exact hP9, va_K.moved hW.alike hK9, hD9⟩, hS.F ht⟩) hS.2.2 dX3_beyond_39
      · have c_5 : v_4.toInt = p1.toInt := i_eq (a := v_4) (b := p1) rfl rfl c_5
        refine lv_aload_n hx hb dX3_beyond_24 rfl (lv_at hl 0 rfl) ?_
        refine va_get (D := (dC, dI)) (ci := 3) (v := .ref plo) (C := RX3) (T := TX3) (N := 9) hx hb hts in_X3_beyond_X3 hown hK hP 0 rfl rfl 6 (by decide) (hts _ wd_X3_beyond_2) (fun _ h9 => h9) rfl dX3_beyond_25 ?_
        refine lv_iload_n hx hb dX3_beyond_28 rfl (lv_at hl 1 rfl) ?_
        have hin_8 : vp_in p0 40 := (i_in rfl (by omega) (by omega))
        refine va_iald hx hb hK hP 2 1 rfl rfl hin_8 dX3_beyond_29 ?_
        refine lv_topi (fun v_9 ev_9 => ?_)
        have hv_9 := RG.at hR_plo hin_8 ev_9
        refine lv_goto (tgt := 39) hx hb dX3_beyond_30 (by decide) ?_
        have hP9 := hP.sub (ws' := [(pl, .inr (3, [.int plw, .int pld, .int plc, .int pls, .long plm, .ref plf, .ref plo, .ref plb, .ref pla])), (plf, .inl (plkf, 40, .inl plF)), (plo, .inl (plko, 40, .inl plO))]) [0, 1, 2] rfl
        have hD9 := hD.sub (ws' := [(pl, .inr (3, [.int plw, .int pld, .int plc, .int pls, .long plm, .ref plf, .ref plo, .ref plb, .ref pla])), (plf, .inl (plkf, 40, .inl plF)), (plo, .inl (plko, 40, .inl plO))]) [0, 1, 2] (by decide) rfl
        have hK9 := hK.sub (tys' := []) [] rfl
        refine W.widen (k := 0) (n := 0) (by omega) (by omega) ?_
        exact W.iret (v := v_9) hx hb hr (fun t ht hW => ⟨⟨v_9, (), rfl, (by first | rfl | trivial | (dsimp only; omega) | omega | (left; rfl) | (right; rfl) | (dsimp only; first | (left; rfl) | (right; rfl))), by rw [ht]; exact hP9, va_K.moved hW.alike hK9, hD9⟩, hS.F ht⟩) hS.2.2 dX3_beyond_39
    · have c_2 : pls.toInt ≤ p0.toInt := i_nlt (a := p0) (b := pls) rfl rfl c_2
      refine lv_iload_n hx hb dX3_beyond_12 rfl (lv_at hl 2 rfl) ?_
      have hP9 := hP.sub (ws' := [(pl, .inr (3, [.int plw, .int pld, .int plc, .int pls, .long plm, .ref plf, .ref plo, .ref plb, .ref pla])), (plf, .inl (plkf, 40, .inl plF)), (plo, .inl (plko, 40, .inl plO))]) [0, 1, 2] rfl
      have hD9 := hD.sub (ws' := [(pl, .inr (3, [.int plw, .int pld, .int plc, .int pls, .long plm, .ref plf, .ref plo, .ref plb, .ref pla])), (plf, .inl (plkf, 40, .inl plF)), (plo, .inl (plko, 40, .inl plO))]) [0, 1, 2] (by decide) rfl
      have hK9 := hK.sub (tys' := []) [] rfl
      refine W.widen (k := 0) (n := 0) (by omega) (by omega) ?_
      exact W.iret (v := p1) hx hb hr (fun t ht hW => ⟨⟨p1, (), rfl, (by first | rfl | trivial | (dsimp only; omega) | omega | (left; rfl) | (right; rfl) | (dsimp only; first | (left; rfl) | (right; rfl))), by rw [ht]; exact hP9, va_K.moved hW.alike hK9, hD9⟩, hS.F ht⟩) hS.2.2 dX3_beyond_13

theorem dX3_sidesNear_0 : decode cX3_sidesNear 0 = .ok (.iload_n 1, 1) := by decide +kernel
theorem dX3_sidesNear_1 : decode cX3_sidesNear 1 = .ok (.ifCond .lt 11, 3) := by decide +kernel
theorem dX3_sidesNear_4 : decode cX3_sidesNear 4 = .ok (.iload_n 1, 1) := by decide +kernel
theorem dX3_sidesNear_5 : decode cX3_sidesNear 5 = .ok (.aload_n 0, 1) := by decide +kernel
theorem dX3_sidesNear_6 : decode cX3_sidesNear 6 = .ok (.getfield 21, 3) := by decide +kernel
theorem dX3_sidesNear_9 : decode cX3_sidesNear 9 = .ok (.if_icmp .lt 5, 3) := by decide +kernel
theorem dX3_sidesNear_12 : decode cX3_sidesNear 12 = .ok (.lconst 0, 1) := by decide +kernel
theorem dX3_sidesNear_13 : decode cX3_sidesNear 13 = .ok (.lreturn, 1) := by decide +kernel
theorem dX3_sidesNear_14 : decode cX3_sidesNear 14 = .ok (.lconst 0, 1) := by decide +kernel
theorem dX3_sidesNear_15 : decode cX3_sidesNear 15 = .ok (.lstore_n 2, 1) := by decide +kernel
theorem dX3_sidesNear_16 : decode cX3_sidesNear 16 = .ok (.iconst 0, 1) := by decide +kernel
theorem dX3_sidesNear_17 : decode cX3_sidesNear 17 = .ok (.istore 4, 2) := by decide +kernel
theorem dX3_sidesNear_19 : decode cX3_sidesNear 19 = .ok (.iload 4, 2) := by decide +kernel
theorem dX3_sidesNear_21 : decode cX3_sidesNear 21 = .ok (.iconst 4, 1) := by decide +kernel
theorem dX3_sidesNear_22 : decode cX3_sidesNear 22 = .ok (.if_icmp .ge 47, 3) := by decide +kernel
theorem dX3_sidesNear_25 : decode cX3_sidesNear 25 = .ok (.lload_n 2, 1) := by decide +kernel
theorem dX3_sidesNear_26 : decode cX3_sidesNear 26 = .ok (.aload_n 0, 1) := by decide +kernel
theorem dX3_sidesNear_27 : decode cX3_sidesNear 27 = .ok (.aload_n 0, 1) := by decide +kernel
theorem dX3_sidesNear_28 : decode cX3_sidesNear 28 = .ok (.aload_n 0, 1) := by decide +kernel
theorem dX3_sidesNear_29 : decode cX3_sidesNear 29 = .ok (.getfield 28, 3) := by decide +kernel
theorem dX3_sidesNear_32 : decode cX3_sidesNear 32 = .ok (.iload_n 1, 1) := by decide +kernel
theorem dX3_sidesNear_33 : decode cX3_sidesNear 33 = .ok (.iaload, 1) := by decide +kernel
theorem dX3_sidesNear_34 : decode cX3_sidesNear 34 = .ok (.iload 4, 2) := by decide +kernel
theorem dX3_sidesNear_36 : decode cX3_sidesNear 36 = .ok (.invokevirtual 62, 3) := by decide +kernel
theorem dX3_sidesNear_39 : decode cX3_sidesNear 39 = .ok (.i2l, 1) := by decide +kernel
theorem dX3_sidesNear_40 : decode cX3_sidesNear 40 = .ok (.invokevirtual 58, 3) := by decide +kernel
theorem dX3_sidesNear_43 : decode cX3_sidesNear 43 = .ok (.aload_n 0, 1) := by decide +kernel
theorem dX3_sidesNear_44 : decode cX3_sidesNear 44 = .ok (.aload_n 0, 1) := by decide +kernel
theorem dX3_sidesNear_45 : decode cX3_sidesNear 45 = .ok (.aload_n 0, 1) := by decide +kernel
theorem dX3_sidesNear_46 : decode cX3_sidesNear 46 = .ok (.getfield 32, 3) := by decide +kernel
theorem dX3_sidesNear_49 : decode cX3_sidesNear 49 = .ok (.iload_n 1, 1) := by decide +kernel
theorem dX3_sidesNear_50 : decode cX3_sidesNear 50 = .ok (.iaload, 1) := by decide +kernel
theorem dX3_sidesNear_51 : decode cX3_sidesNear 51 = .ok (.iload 4, 2) := by decide +kernel
theorem dX3_sidesNear_53 : decode cX3_sidesNear 53 = .ok (.invokevirtual 62, 3) := by decide +kernel
theorem dX3_sidesNear_56 : decode cX3_sidesNear 56 = .ok (.i2l, 1) := by decide +kernel
theorem dX3_sidesNear_57 : decode cX3_sidesNear 57 = .ok (.invokevirtual 58, 3) := by decide +kernel
theorem dX3_sidesNear_60 : decode cX3_sidesNear 60 = .ok (.lor, 1) := by decide +kernel
theorem dX3_sidesNear_61 : decode cX3_sidesNear 61 = .ok (.lor, 1) := by decide +kernel
theorem dX3_sidesNear_62 : decode cX3_sidesNear 62 = .ok (.lstore_n 2, 1) := by decide +kernel
theorem dX3_sidesNear_63 : decode cX3_sidesNear 63 = .ok (.iinc 4 1, 3) := by decide +kernel
theorem dX3_sidesNear_66 : decode cX3_sidesNear 66 = .ok (.goto (-47), 3) := by decide +kernel
theorem dX3_sidesNear_69 : decode cX3_sidesNear 69 = .ok (.lload_n 2, 1) := by decide +kernel
theorem dX3_sidesNear_70 : decode cX3_sidesNear 70 = .ok (.aload_n 0, 1) := by decide +kernel
theorem dX3_sidesNear_71 : decode cX3_sidesNear 71 = .ok (.getfield 35, 3) := by decide +kernel
theorem dX3_sidesNear_74 : decode cX3_sidesNear 74 = .ok (.iload_n 1, 1) := by decide +kernel
theorem dX3_sidesNear_75 : decode cX3_sidesNear 75 = .ok (.laload, 1) := by decide +kernel
theorem dX3_sidesNear_76 : decode cX3_sidesNear 76 = .ok (.ldc2_w 65, 3) := by decide +kernel
theorem dX3_sidesNear_79 : decode cX3_sidesNear 79 = .ok (.lxor, 1) := by decide +kernel
theorem dX3_sidesNear_80 : decode cX3_sidesNear 80 = .ok (.land, 1) := by decide +kernel
theorem dX3_sidesNear_81 : decode cX3_sidesNear 81 = .ok (.lreturn, 1) := by decide +kernel
def wz_X3_sidesNear : List Cond := .code yX3_sidesNear cX3_sidesNear 5 (some .long) :: ([Cond.fieldLink RX3 21 "HedgeMaze$Plan" "sideCount" "I", Cond.fieldLink RX3 35 "HedgeMaze$Plan" "bits" "[J", Cond.constantLong RX3 65 (-1), Cond.fieldLink RX3 28 "HedgeMaze$Plan" "first" "[I", Cond.fieldLink RX3 32 "HedgeMaze$Plan" "other" "[I", Cond.methodLink RX3 62 yX3_sideAt, Cond.instanceMethod yX3_sideAt, Cond.selects RX3 yX3_sideAt yX3_sideAt, Cond.initialized RX3, Cond.code yX3_sideAt cX3_sideAt 4 (some .int), Cond.fieldLink RX3 39 "HedgeMaze$Plan" "around" "[I", Cond.methodLink RX3 58 yX3_bitOf, Cond.instanceMethod yX3_bitOf, Cond.selects RX3 yX3_bitOf yX3_bitOf, Cond.code yX3_bitOf cX3_bitOf 3 (some .long)] ++ wsX30)
theorem wd_X3_sidesNear_0 : Cond.fieldLink RX3 21 "HedgeMaze$Plan" "sideCount" "I" ∈ wz_X3_sidesNear := List.mem_of_getElem? (i := 1) rfl
theorem wd_X3_sidesNear_1 : Cond.fieldLink RX3 35 "HedgeMaze$Plan" "bits" "[J" ∈ wz_X3_sidesNear := List.mem_of_getElem? (i := 2) rfl
theorem wd_X3_sidesNear_2 : Cond.constantLong RX3 65 (-1) ∈ wz_X3_sidesNear := List.mem_of_getElem? (i := 3) rfl
theorem wd_X3_sidesNear_3 : Cond.fieldLink RX3 28 "HedgeMaze$Plan" "first" "[I" ∈ wz_X3_sidesNear := List.mem_of_getElem? (i := 4) rfl
theorem wd_X3_sidesNear_4 : Cond.fieldLink RX3 32 "HedgeMaze$Plan" "other" "[I" ∈ wz_X3_sidesNear := List.mem_of_getElem? (i := 5) rfl
theorem in_X3_sidesNear_X3 : ∀ w ∈ wsX30, w ∈ wz_X3_sidesNear := fun _ h => List.mem_cons_of_mem _ (List.mem_append_right _ h)
set_option maxRecDepth 20000 in
theorem g_X3_sidesNear_X3_sideAt : GoodIn wz_X3_sidesNear (wsV RX3 62 RX3 yX3_sideAt wz_X3_sideAt) := goodIn_r _ [6, 7, 8, 9, 10, 11, 16, 17, 18, 19, 20, 21, 22, 23, 24] rfl (by decide +kernel)
set_option maxRecDepth 20000 in
theorem g_X3_sidesNear_X3_bitOf : GoodIn wz_X3_sidesNear (wsV RX3 58 RX3 yX3_bitOf wz_X3_bitOf) := goodIn_r _ [12, 13, 14, 9, 15, 1, 2, 16, 17, 18, 19, 20, 21, 22, 23, 24] rfl (by decide +kernel)
set_option maxHeartbeats 4000000 in
set_option maxRecDepth 100000 in
theorem c_X3_sidesNear (l : Launch) (dC : Nat → ClassId) (dI : Nat → Nat → Nat) (sz : Nat) (pl : Nat) (plw : Int32) (pld : Int32) (plc : Int32) (pls : Int32) (plm : Int64) (plf : Nat) (plo : Nat) (plb : Nat) (pla : Nat) (plkf : ClassId) (plF : Nat → Int32) (plko : ClassId) (plO : Nat → Int32) (plkb : ClassId) (plB : Nat → Int64) (plka : ClassId) (plA : Nat → Int32) (p0 : Int32) (h_pls : 0 ≤ pls.toInt ∧ pls.toInt ≤ 40) (hR_plf : RG plF 40 0 24) (hR_plo : RG plO 40 0 24) : Met l yX3_sidesNear wz_X3_sidesNear ({ frames := 1, cells := 0, slots := 0, locals := 23 }) (va_Pc [.ref pl, .int p0] (fun U => U.heap.size = sz ∧ va_P (dC, dI) vwCl [(pl, .inr (3, [.int plw, .int pld, .int plc, .int pls, .long plm, .ref plf, .ref plo, .ref plb, .ref pla])), (plf, .inl (plkf, 40, .inl plF)), (plo, .inl (plko, 40, .inl plO)), (plb, .inl (plkb, 40, .inr (.inl plB))), (pla, .inl (plka, 100, .inl plA))] U.heap ∧ va_K (dC, dI) vwCl [(plkf, .int), (plko, .int), (plkb, .long), (plka, .int)] U ∧ va_D (fun _ => True) [(pl, .inr (3, [.int plw, .int pld, .int plc, .int pls, .long plm, .ref plf, .ref plo, .ref plb, .ref pla])), (plf, .inl (plkf, 40, .inl plF)), (plo, .inl (plko, 40, .inl plO)), (plb, .inl (plkb, 40, .inr (.inl plB))), (pla, .inl (plka, 100, .inl plA))])) (va_Ql (fun (r : Int64) (u : Unit) => True) (fun (u : Unit) (t : State) => va_P (dC, dI) vwCl [(pl, .inr (3, [.int plw, .int pld, .int plc, .int pls, .long plm, .ref plf, .ref plo, .ref plb, .ref pla])), (plf, .inl (plkf, 40, .inl plF)), (plo, .inl (plko, 40, .inl plO)), (plb, .inl (plkb, 40, .inr (.inl plB))), (pla, .inl (plka, 100, .inl plA))] t.heap ∧ va_K (dC, dI) vwCl [] t ∧ va_D (va_A [(pl, .inr (3, [.int plw, .int pld, .int plc, .int pls, .long plm, .ref plf, .ref plo, .ref plb, .ref pla])), (plf, .inl (plkf, 40, .inl plF)), (plo, .inl (plko, 40, .inl plO)), (plb, .inl (plkb, 40, .inr (.inl plB))), (pla, .inl (plka, 100, .inl plA))] sz) [(pl, .inr (3, [.int plw, .int pld, .int plc, .int pls, .long plm, .ref plf, .ref plo, .ref plb, .ref pla])), (plf, .inl (plkf, 40, .inl plF)), (plo, .inl (plko, 40, .inl plO)), (plb, .inl (plkb, 40, .inr (.inl plB))), (pla, .inl (plka, 100, .inl plA))]) (va_A [(pl, .inr (3, [.int plw, .int pld, .int plc, .int pls, .long plm, .ref plf, .ref plo, .ref plb, .ref pla])), (plf, .inl (plkf, 40, .inl plF)), (plo, .inl (plko, 40, .inl plO)), (plb, .inl (plkb, 40, .inr (.inl plB))), (pla, .inl (plka, 100, .inl plA))] sz)) 0 0 (va_A [(pl, .inr (3, [.int plw, .int pld, .int plc, .int pls, .long plm, .ref plf, .ref plo, .ref plb, .ref pla])), (plf, .inl (plkf, 40, .inl plF)), (plo, .inl (plko, 40, .inl plO)), (plb, .inl (plkb, 40, .inr (.inl plB))), (pla, .inl (plka, 100, .inl plA))] sz) := by
  refine Met.ofW (cc := cX3_sidesNear) (maxL := 5) (ret := (some .long)) (by decide) rfl ?_
  intro p e s m args below meth c s₁ B hml hv
  obtain ⟨rfl, hsz, hP, hK, hD0⟩ := hv
  have hx := B.exec
  have hb := B.bytes
  have hr := B.returns
  have hts := atoms_spec (ws := wz_X3_sidesNear) B.pre
  have hown : s.vm.findClass RX3 = some m.cls := findClass_of_methodNamed B.named
  have hlocks := B.notSynchronized
  subst hsz
  have hD := hD0.self (sz := s.heap.size)
  generalize hAe : va_A [(pl, .inr (3, [.int plw, .int pld, .int plc, .int pls, .long plm, .ref plf, .ref plo, .ref plb, .ref pla])), (plf, .inl (plkf, 40, .inl plF)), (plo, .inl (plko, 40, .inl plO)), (plb, .inl (plkb, 40, .inr (.inl plB))), (pla, .inl (plka, 100, .inl plA))] s.heap.size = A at hD ⊢
  have hA : ∀ q : Nat, s.heap.size ≤ q → A q := fun q h => by rw [← hAe]; exact Or.inr h
  have hS : va_S A s.heap s.heap [] := va_S.rf
  have hP : va_P (dC, dI) vwCl [(pl, .inr (3, [.int plw, .int pld, .int plc, .int pls, .long plm, .ref plf, .ref plo, .ref plb, .ref pla])), (plf, .inl (plkf, 40, .inl plF)), (plo, .inl (plko, 40, .inl plO)), (plb, .inl (plkb, 40, .inr (.inl plB))), (pla, .inl (plka, 100, .inl plA))] s.heap := hP
  have hl := lv_entry ([.ref pl, .int p0]) (n := 5) (Nat.le_of_ble_eq_true rfl)
  rw [lg_entry_eq]
  generalize (lg_sl ([.ref pl, .int p0]) ++ List.replicate (5 - (lg_sl ([.ref pl, .int p0])).length) Slot.unset).toArray = ls at hl ⊢
  have hl : lv_has ls 5 [(0, .ref pl), (1, .int p0)] := hl
  refine lv_iload_n hx hb dX3_sidesNear_0 rfl (lv_at hl 1 rfl) ?_
  refine lv_if_lt (tgt := 12) hx hb dX3_sidesNear_1 (by decide) (fun c_1 => ?_) (fun c_1 => ?_)
  · have c_1 : p0.toInt < 0 := i_lt (a := p0) (b := 0) rfl (by decide) c_1
    refine lv_lconst (v := 0) hx hb dX3_sidesNear_12 (by decide) ?_
    have hP9 := hP.sub (ws' := [(pl, .inr (3, [.int plw, .int pld, .int plc, .int pls, .long plm, .ref plf, .ref plo, .ref plb, .ref pla])), (plf, .inl (plkf, 40, .inl plF)), (plo, .inl (plko, 40, .inl plO)), (plb, .inl (plkb, 40, .inr (.inl plB))), (pla, .inl (plka, 100, .inl plA))]) [0, 1, 2, 3, 4] rfl
    have hD9 := hD.sub (ws' := [(pl, .inr (3, [.int plw, .int pld, .int plc, .int pls, .long plm, .ref plf, .ref plo, .ref plb, .ref pla])), (plf, .inl (plkf, 40, .inl plF)), (plo, .inl (plko, 40, .inl plO)), (plb, .inl (plkb, 40, .inr (.inl plB))), (pla, .inl (plka, 100, .inl plA))]) [0, 1, 2, 3, 4] (by decide) rfl
    have hK9 := hK.sub (tys' := []) [] rfl
    refine W.widen (k := 0) (n := 0) (by omega) (by omega) ?_
    exact W.lret (v := 0) hx hb hr (fun t ht hW => ⟨⟨0, (), rfl, trivial, by rw [ht]; exact hP9, va_K.moved hW.alike hK9, hD9⟩, hS.F ht⟩) hS.2.2 dX3_sidesNear_13
  · have c_1 : 0 ≤ p0.toInt := i_nlt (a := p0) (b := 0) rfl (by decide) c_1
    refine lv_iload_n hx hb dX3_sidesNear_4 rfl (lv_at hl 1 rfl) ?_
    refine lv_aload_n hx hb dX3_sidesNear_5 rfl (lv_at hl 0 rfl) ?_
    refine va_get (D := (dC, dI)) (ci := 3) (v := .int pls) (C := RX3) (T := TX3) (N := 9) hx hb hts in_X3_sidesNear_X3 hown hK hP 0 rfl rfl 3 (by decide) (hts _ wd_X3_sidesNear_0) (fun _ h9 => h9) rfl dX3_sidesNear_6 ?_
    refine lv_icmp_lt (tgt := 14) hx hb dX3_sidesNear_9 (by decide) (fun c_2 => ?_) (fun c_2 => ?_)
    · have c_2 : p0.toInt < pls.toInt := i_lt (a := p0) (b := pls) rfl rfl c_2
      refine lv_lconst (v := 0) hx hb dX3_sidesNear_14 (by decide) ?_
      refine lv_lstore_n (lv' := [(2, .long 0), (0, .ref pl), (1, .int p0)]) hx hb dX3_sidesNear_15 rfl hl (by decide) rfl (fun ls hl => ?_)
      refine lv_iconst (v := 0) hx hb dX3_sidesNear_16 (by decide) ?_
      refine lv_istore (lv' := [(4, .int 0), (2, .long 0), (0, .ref pl), (1, .int p0)]) hx hb dX3_sidesNear_17 hl (by decide) rfl (fun ls hl => ?_)
      refine lp_W (I := fun (a : Int32 × Int64) H locs ls => (0 ≤ a.1.toInt ∧ a.1.toInt ≤ 4) ∧ va_P (dC, dI) vwCl [(pl, .inr (3, [.int plw, .int pld, .int plc, .int pls, .long plm, .ref plf, .ref plo, .ref plb, .ref pla])), (plf, .inl (plkf, 40, .inl plF)), (plo, .inl (plko, 40, .inl plO)), (plb, .inl (plkb, 40, .inr (.inl plB))), (pla, .inl (plka, 100, .inl plA))] H ∧ va_D A [(pl, .inr (3, [.int plw, .int pld, .int plc, .int pls, .long plm, .ref plf, .ref plo, .ref plb, .ref pla])), (plf, .inl (plkf, 40, .inl plF)), (plo, .inl (plko, 40, .inl plO)), (plb, .inl (plkb, 40, .inr (.inl plB))), (pla, .inl (plka, 100, .inl plA))] ∧ va_S A s.heap H locs ∧ lv_has ls 5 [(4, .int a.1), (2, .long a.2), (0, .ref pl), (1, .int p0)]) (μ := fun a => (4 - a.1.toInt).toNat) ?_ ((0 : Int32), (0 : Int64)) ⟨(by have k0 : (0 : Int32).toInt = 0 := (by decide); (try dsimp only); omega), hP.sub [0, 1, 2, 3, 4] rfl, hD.sub [0, 1, 2, 3, 4] (by decide) rfl, hS, lv_sub hl [0, 1, 2, 3] rfl⟩
      intro a H locs ls hI ih19
      obtain ⟨wy, nr⟩ := a
      obtain ⟨h_wy, hP, hD, hS, hl⟩ := hI
      have h_wy : 0 ≤ wy.toInt ∧ wy.toInt ≤ 4 := h_wy
      have hP : va_P (dC, dI) vwCl [(pl, .inr (3, [.int plw, .int pld, .int plc, .int pls, .long plm, .ref plf, .ref plo, .ref plb, .ref pla])), (plf, .inl (plkf, 40, .inl plF)), (plo, .inl (plko, 40, .inl plO)), (plb, .inl (plkb, 40, .inr (.inl plB))), (pla, .inl (plka, 100, .inl plA))] H := hP
      have hD : va_D A [(pl, .inr (3, [.int plw, .int pld, .int plc, .int pls, .long plm, .ref plf, .ref plo, .ref plb, .ref pla])), (plf, .inl (plkf, 40, .inl plF)), (plo, .inl (plko, 40, .inl plO)), (plb, .inl (plkb, 40, .inr (.inl plB))), (pla, .inl (plka, 100, .inl plA))] := hD
      have hl : lv_has ls 5 [(4, .int wy), (2, .long nr), (0, .ref pl), (1, .int p0)] := hl
      refine lv_iload hx hb dX3_sidesNear_19 (lv_at hl 0 rfl) ?_
      refine lv_iconst (v := 4) hx hb dX3_sidesNear_21 (by decide) ?_
      refine lv_icmp_ge (tgt := 69) hx hb dX3_sidesNear_22 (by decide) (fun c_3 => ?_) (fun c_3 => ?_)
      · have c_3 : 4 ≤ wy.toInt := i_le (a := 4) (b := wy) (by decide) rfl c_3
        refine lv_lload_n hx hb dX3_sidesNear_69 rfl (lv_at hl 1 rfl) ?_
        refine lv_aload_n hx hb dX3_sidesNear_70 rfl (lv_at hl 2 rfl) ?_
        refine va_get (D := (dC, dI)) (ci := 3) (v := .ref plb) (C := RX3) (T := TX3) (N := 9) hx hb hts in_X3_sidesNear_X3 hown hK hP 0 rfl rfl 7 (by decide) (hts _ wd_X3_sidesNear_1) (fun _ h9 => h9) rfl dX3_sidesNear_71 ?_
        refine lv_iload_n hx hb dX3_sidesNear_74 rfl (lv_at hl 3 rfl) ?_
        refine va_lald hx hb hK hP 3 2 rfl rfl (i_in rfl (by omega) (by omega)) dX3_sidesNear_75 ?_
        refine lv_topl (fun y_4 ey_4 => ?_)
        refine lv_ldc2 hx hb hown (hts _ wd_X3_sidesNear_2) dX3_sidesNear_76 ?_
        refine lv_lxor hx hb dX3_sidesNear_79 ?_
        refine lv_topl (fun y_5 ey_5 => ?_)
        refine lv_land hx hb dX3_sidesNear_80 ?_
        refine lv_topl (fun y_6 ey_6 => ?_)
        have hP9 := hP.sub (ws' := [(pl, .inr (3, [.int plw, .int pld, .int plc, .int pls, .long plm, .ref plf, .ref plo, .ref plb, .ref pla])), (plf, .inl (plkf, 40, .inl plF)), (plo, .inl (plko, 40, .inl plO)), (plb, .inl (plkb, 40, .inr (.inl plB))), (pla, .inl (plka, 100, .inl plA))]) [0, 1, 2, 3, 4] rfl
        have hD9 := hD.sub (ws' := [(pl, .inr (3, [.int plw, .int pld, .int plc, .int pls, .long plm, .ref plf, .ref plo, .ref plb, .ref pla])), (plf, .inl (plkf, 40, .inl plF)), (plo, .inl (plko, 40, .inl plO)), (plb, .inl (plkb, 40, .inr (.inl plB))), (pla, .inl (plka, 100, .inl plA))]) [0, 1, 2, 3, 4] (by decide) rfl
        have hK9 := hK.sub (tys' := []) [] rfl
        refine W.widen (k := 0) (n := 0) (by omega) (by omega) ?_
        exact W.lret (v := y_6) hx hb hr (fun t ht hW => ⟨⟨y_6, (), rfl, trivial, by rw [ht]; exact hP9, va_K.moved hW.alike hK9, hD9⟩, hS.F ht⟩) hS.2.2 dX3_sidesNear_81
      · have c_3 : wy.toInt < 4 := i_nle (a := 4) (b := wy) (by decide) rfl c_3
        refine lv_lload_n hx hb dX3_sidesNear_25 rfl (lv_at hl 1 rfl) ?_
        refine lv_aload_n hx hb dX3_sidesNear_26 rfl (lv_at hl 2 rfl) ?_
        refine lv_aload_n hx hb dX3_sidesNear_27 rfl (lv_at hl 2 rfl) ?_
        refine lv_aload_n hx hb dX3_sidesNear_28 rfl (lv_at hl 2 rfl) ?_
        refine va_get (D := (dC, dI)) (ci := 3) (v := .ref plf) (C := RX3) (T := TX3) (N := 9) hx hb hts in_X3_sidesNear_X3 hown hK hP 0 rfl rfl 5 (by decide) (hts _ wd_X3_sidesNear_3) (fun _ h9 => h9) rfl dX3_sidesNear_29 ?_
        refine lv_iload_n hx hb dX3_sidesNear_32 rfl (lv_at hl 3 rfl) ?_
        have hin_7 : vp_in p0 40 := (i_in rfl (by omega) (by omega))
        refine va_iald hx hb hK hP 1 0 rfl rfl hin_7 dX3_sidesNear_33 ?_
        refine lv_topi (fun v_8 ev_8 => ?_)
        have hv_8 := RG.at hR_plf hin_7 ev_8
        refine lv_iload hx hb dX3_sidesNear_34 (lv_at hl 0 rfl) ?_
        have hPc := hP.sub (ws' := [(pl, .inr (3, [.int plw, .int pld, .int plc, .int pls, .long plm, .ref plf, .ref plo, .ref plb, .ref pla])), (pla, .inl (plka, 100, .inl plA))]) [0, 4] rfl
        have hDc := hD.sub (ws' := [(pl, .inr (3, [.int plw, .int pld, .int plc, .int pls, .long plm, .ref plf, .ref plo, .ref plb, .ref pla])), (pla, .inl (plka, 100, .inl plA))]) [0, 4] (by decide) rfl
        have hKc := hK.sub (tys' := [(plka, .int)]) [3] rfl
        have hFc := va_free (wc := [(pl, .inr (3, [.int plw, .int pld, .int plc, .int pls, .long plm, .ref plf, .ref plo, .ref plb, .ref pla])), (pla, .inl (plka, 100, .inl plA))]) hD hS hA [0, 4] rfl
        refine va_calli (va_runV (As := [.int v_8, .int wy]) (rest := [.ref pl, .long nr]) ⟨hx, hb, hml, hown, hts⟩ (c_X3_sideAt l dC dI H.size pl plw pld plc pls plm plf plo plb pla plka plA v_8 wy ) (cwV 2 hts g_X3_sidesNear_X3_sideAt rfl rfl rfl (by decide +kernel) ⟨Nat.le_of_ble_eq_true rfl, Nat.le_of_ble_eq_true rfl⟩) ⟨fun a U g mk q => by obtain ⟨q0, q1, qP, qK, qD⟩ := q; exact ⟨q0, q1, qP, va_K.moved (u := U) (U := U.calling g mk a) (Vm.Alike.refl U.vm) qK, qD⟩, va_recv hKc hPc (ci := 3) (q0 := 0) rfl rfl, fun U hU hW => ⟨rfl, by rw [hU], by rw [hU]; exact hPc, va_K.moved hW.alike hKc, hDc.weaken (fun _ _ _ _ => trivial)⟩⟩ rfl rfl hl.1 rfl (lv_room (Nat.le_of_ble_eq_true rfl)) dX3_sidesNear_36 ⟨Nat.le_of_ble_eq_true rfl, Nat.le_of_ble_eq_true rfl⟩) hS (fun q _ h => hFc q h) hFc (fun r_9 u t H1 locs ht hvm hw_10 hB hz1 hk1 hS => ?_)
        obtain ⟨hP1, hK1, hD1⟩ := hB
        have hP1 : va_P (dC, dI) vwCl [(pl, .inr (3, [.int plw, .int pld, .int plc, .int pls, .long plm, .ref plf, .ref plo, .ref plb, .ref pla])), (pla, .inl (plka, 100, .inl plA))] t.heap := hP1
        rw [ht] at hP1
        try dsimp only at hw_10
        obtain ⟨hP, hD⟩ := va_join (wr := [(plf, .inl (plkf, 40, .inl plF)), (plo, .inl (plko, 40, .inl plO)), (plb, .inl (plkb, 40, .inr (.inl plB)))]) (w1 := [(pl, .inr (3, [.int plw, .int pld, .int plc, .int pls, .long plm, .ref plf, .ref plo, .ref plb, .ref pla])), (pla, .inl (plka, 100, .inl plA))]) hP hD [0, 4] [1, 2, 3] rfl rfl (by decide) (by decide) hk1 hFc hP1 hD1
        generalize H1 = H at hP hS ⊢
        have hP : va_P (dC, dI) vwCl [(plf, .inl (plkf, 40, .inl plF)), (plo, .inl (plko, 40, .inl plO)), (plb, .inl (plkb, 40, .inr (.inl plB))), (pl, .inr (3, [.int plw, .int pld, .int plc, .int pls, .long plm, .ref plf, .ref plo, .ref plb, .ref pla])), (pla, .inl (plka, 100, .inl plA))] H := hP
        have hD : va_D A [(plf, .inl (plkf, 40, .inl plF)), (plo, .inl (plko, 40, .inl plO)), (plb, .inl (plkb, 40, .inr (.inl plB))), (pl, .inr (3, [.int plw, .int pld, .int plc, .int pls, .long plm, .ref plf, .ref plo, .ref plb, .ref pla])), (pla, .inl (plka, 100, .inl plA))] := hD
        refine lv_i2l (v := r_9.toInt64) hx hb dX3_sidesNear_39 rfl ?_
        have hPc := hP.sub (ws' := [(pl, .inr (3, [.int plw, .int pld, .int plc, .int pls, .long plm, .ref plf, .ref plo, .ref plb, .ref pla])), (plb, .inl (plkb, 40, .inr (.inl plB)))]) [3, 2] rfl
        have hDc := hD.sub (ws' := [(pl, .inr (3, [.int plw, .int pld, .int plc, .int pls, .long plm, .ref plf, .ref plo, .ref plb, .ref pla])), (plb, .inl (plkb, 40, .inr (.inl plB)))]) [3, 2] (by decide) rfl
        have hKc := hK.sub (tys' := [(plkb, .long)]) [2] rfl
        have hFc := va_free (wc := [(pl, .inr (3, [.int plw, .int pld, .int plc, .int pls, .long plm, .ref plf, .ref plo, .ref plb, .ref pla])), (plb, .inl (plkb, 40, .inr (.inl plB)))]) hD hS hA [3, 2] rfl
        refine va_calll (va_runV (As := [.long r_9.toInt64]) (rest := [.long nr]) ⟨hx, hb, hml, hown, hts⟩ (c_X3_bitOf l dC dI H.size pl plw pld plc pls plm plf plo plb pla plkb plB r_9.toInt64 (by omega)) (cwV 1 hts g_X3_sidesNear_X3_bitOf rfl rfl rfl (by decide +kernel) ⟨Nat.le_of_ble_eq_true rfl, Nat.le_of_ble_eq_true rfl⟩) ⟨fun a U g mk q => by obtain ⟨q0, q1, qP, qK, qD⟩ := q; exact ⟨q0, q1, qP, va_K.moved (u := U) (U := U.calling g mk a) (Vm.Alike.refl U.vm) qK, qD⟩, va_recv hKc hPc (ci := 3) (q0 := 0) rfl rfl, fun U hU hW => ⟨rfl, by rw [hU], by rw [hU]; exact hPc, va_K.moved hW.alike hKc, hDc.weaken (fun _ _ _ _ => trivial)⟩⟩ rfl rfl hl.1 rfl (lv_room (Nat.le_of_ble_eq_true rfl)) dX3_sidesNear_40 ⟨Nat.le_of_ble_eq_true rfl, Nat.le_of_ble_eq_true rfl⟩) hS (fun q _ h => hFc q h) hFc (fun r_11 u t H1 locs ht hvm hw_12 hB hz1 hk1 hS => ?_)
        obtain ⟨hP1, hK1, hD1⟩ := hB
        have hP1 : va_P (dC, dI) vwCl [(pl, .inr (3, [.int plw, .int pld, .int plc, .int pls, .long plm, .ref plf, .ref plo, .ref plb, .ref pla])), (plb, .inl (plkb, 40, .inr (.inl plB)))] t.heap := hP1
        rw [ht] at hP1
        try dsimp only at hw_12
        obtain ⟨hP, hD⟩ := va_join (wr := [(plf, .inl (plkf, 40, .inl plF)), (plo, .inl (plko, 40, .inl plO)), (pla, .inl (plka, 100, .inl plA))]) (w1 := [(pl, .inr (3, [.int plw, .int pld, .int plc, .int pls, .long plm, .ref plf, .ref plo, .ref plb, .ref pla])), (plb, .inl (plkb, 40, .inr (.inl plB)))]) hP hD [3, 2] [0, 1, 4] rfl rfl (by decide) (by decide) hk1 hFc hP1 hD1
        generalize H1 = H at hP hS ⊢
        have hP : va_P (dC, dI) vwCl [(plf, .inl (plkf, 40, .inl plF)), (plo, .inl (plko, 40, .inl plO)), (pla, .inl (plka, 100, .inl plA)), (pl, .inr (3, [.int plw, .int pld, .int plc, .int pls, .long plm, .ref plf, .ref plo, .ref plb, .ref pla])), (plb, .inl (plkb, 40, .inr (.inl plB)))] H := hP
        have hD : va_D A [(plf, .inl (plkf, 40, .inl plF)), (plo, .inl (plko, 40, .inl plO)), (pla, .inl (plka, 100, .inl plA)), (pl, .inr (3, [.int plw, .int pld, .int plc, .int pls, .long plm, .ref plf, .ref plo, .ref plb, .ref pla])), (plb, .inl (plkb, 40, .inr (.inl plB)))] := hD
        refine lv_aload_n hx hb dX3_sidesNear_43 rfl (lv_at hl 2 rfl) ?_
        refine lv_aload_n hx hb dX3_sidesNear_44 rfl (lv_at hl 2 rfl) ?_
        refine lv_aload_n hx hb dX3_sidesNear_45 rfl (lv_at hl 2 rfl) ?_
        refine va_get (D := (dC, dI)) (ci := 3) (v := .ref plo) (C := RX3) (T := TX3) (N := 9) hx hb hts in_X3_sidesNear_X3 hown hK hP 3 rfl rfl 6 (by decide) (hts _ wd_X3_sidesNear_4) (fun _ h9 => h9) rfl dX3_sidesNear_46 ?_
        refine lv_iload_n hx hb dX3_sidesNear_49 rfl (lv_at hl 3 rfl) ?_
        have hin_13 : vp_in p0 40 := (i_in rfl (by omega) (by omega))
        refine va_iald hx hb hK hP 1 1 rfl rfl hin_13 dX3_sidesNear_50 ?_
        refine lv_topi (fun v_14 ev_14 => ?_)
        have hv_14 := RG.at hR_plo hin_13 ev_14
        refine lv_iload hx hb dX3_sidesNear_51 (lv_at hl 0 rfl) ?_
        have hPc := hP.sub (ws' := [(pl, .inr (3, [.int plw, .int pld, .int plc, .int pls, .long plm, .ref plf, .ref plo, .ref plb, .ref pla])), (pla, .inl (plka, 100, .inl plA))]) [3, 2] rfl
        have hDc := hD.sub (ws' := [(pl, .inr (3, [.int plw, .int pld, .int plc, .int pls, .long plm, .ref plf, .ref plo, .ref plb, .ref pla])), (pla, .inl (plka, 100, .inl plA))]) [3, 2] (by decide) rfl
        have hKc := hK.sub (tys' := [(plka, .int)]) [3] rfl
        have hFc := va_free (wc := [(pl, .inr (3, [.int plw, .int pld, .int plc, .int pls, .long plm, .ref plf, .ref plo, .ref plb, .ref pla])), (pla, .inl (plka, 100, .inl plA))]) hD hS hA [3, 2] rfl
        refine va_calli (va_runV (As := [.int v_14, .int wy]) (rest := [.ref pl, .long r_11, .long nr]) ⟨hx, hb, hml, hown, hts⟩ (c_X3_sideAt l dC dI H.size pl plw pld plc pls plm plf plo plb pla plka plA v_14 wy ) (cwV 2 hts g_X3_sidesNear_X3_sideAt rfl rfl rfl (by decide +kernel) ⟨Nat.le_of_ble_eq_true rfl, Nat.le_of_ble_eq_true rfl⟩) ⟨fun a U g mk q => by obtain ⟨q0, q1, qP, qK, qD⟩ := q; exact ⟨q0, q1, qP, va_K.moved (u := U) (U := U.calling g mk a) (Vm.Alike.refl U.vm) qK, qD⟩, va_recv hKc hPc (ci := 3) (q0 := 0) rfl rfl, fun U hU hW => ⟨rfl, by rw [hU], by rw [hU]; exact hPc, va_K.moved hW.alike hKc, hDc.weaken (fun _ _ _ _ => trivial)⟩⟩ rfl rfl hl.1 rfl (lv_room (Nat.le_of_ble_eq_true rfl)) dX3_sidesNear_53 ⟨Nat.le_of_ble_eq_true rfl, Nat.le_of_ble_eq_true rfl⟩) hS (fun q _ h => hFc q h) hFc (fun r_15 u t H1 locs ht hvm hw_16 hB hz1 hk1 hS => ?_)
        obtain ⟨hP1, hK1, hD1⟩ := hB
        have hP1 : va_P (dC, dI) vwCl [(pl, .inr (3, [.int plw, .int pld, .int plc, .int pls, .long plm, .ref plf, .ref plo, .ref plb, .ref pla])), (pla, .inl (plka, 100, .inl plA))] t.heap := hP1
        rw [ht] at hP1
        try dsimp only at hw_16
        obtain ⟨hP, hD⟩ := va_join (wr := [(plf, .inl (plkf, 40, .inl plF)), (plo, .inl (plko, 40, .inl plO)), (plb, .inl (plkb, 40, .inr (.inl plB)))]) (w1 := [(pl, .inr (3, [.int plw, .int pld, .int plc, .int pls, .long plm, .ref plf, .ref plo, .ref plb, .ref pla])), (pla, .inl (plka, 100, .inl plA))]) hP hD [3, 2] [0, 1, 4] rfl rfl (by decide) (by decide) hk1 hFc hP1 hD1
        generalize H1 = H at hP hS ⊢
        have hP : va_P (dC, dI) vwCl [(plf, .inl (plkf, 40, .inl plF)), (plo, .inl (plko, 40, .inl plO)), (plb, .inl (plkb, 40, .inr (.inl plB))), (pl, .inr (3, [.int plw, .int pld, .int plc, .int pls, .long plm, .ref plf, .ref plo, .ref plb, .ref pla])), (pla, .inl (plka, 100, .inl plA))] H := hP
        have hD : va_D A [(plf, .inl (plkf, 40, .inl plF)), (plo, .inl (plko, 40, .inl plO)), (plb, .inl (plkb, 40, .inr (.inl plB))), (pl, .inr (3, [.int plw, .int pld, .int plc, .int pls, .long plm, .ref plf, .ref plo, .ref plb, .ref pla])), (pla, .inl (plka, 100, .inl plA))] := hD
        refine lv_i2l (v := r_15.toInt64) hx hb dX3_sidesNear_56 rfl ?_
        have hPc := hP.sub (ws' := [(pl, .inr (3, [.int plw, .int pld, .int plc, .int pls, .long plm, .ref plf, .ref plo, .ref plb, .ref pla])), (plb, .inl (plkb, 40, .inr (.inl plB)))]) [3, 2] rfl
        have hDc := hD.sub (ws' := [(pl, .inr (3, [.int plw, .int pld, .int plc, .int pls, .long plm, .ref plf, .ref plo, .ref plb, .ref pla])), (plb, .inl (plkb, 40, .inr (.inl plB)))]) [3, 2] (by decide) rfl
        have hKc := hK.sub (tys' := [(plkb, .long)]) [2] rfl
        have hFc := va_free (wc := [(pl, .inr (3, [.int plw, .int pld, .int plc, .int pls, .long plm, .ref plf, .ref plo, .ref plb, .ref pla])), (plb, .inl (plkb, 40, .inr (.inl plB)))]) hD hS hA [3, 2] rfl
        refine va_calll (va_runV (As := [.long r_15.toInt64]) (rest := [.long r_11, .long nr]) ⟨hx, hb, hml, hown, hts⟩ (c_X3_bitOf l dC dI H.size pl plw pld plc pls plm plf plo plb pla plkb plB r_15.toInt64 (by omega)) (cwV 1 hts g_X3_sidesNear_X3_bitOf rfl rfl rfl (by decide +kernel) ⟨Nat.le_of_ble_eq_true rfl, Nat.le_of_ble_eq_true rfl⟩) ⟨fun a U g mk q => by obtain ⟨q0, q1, qP, qK, qD⟩ := q; exact ⟨q0, q1, qP, va_K.moved (u := U) (U := U.calling g mk a) (Vm.Alike.refl U.vm) qK, qD⟩, va_recv hKc hPc (ci := 3) (q0 := 0) rfl rfl, fun U hU hW => ⟨rfl, by rw [hU], by rw [hU]; exact hPc, va_K.moved hW.alike hKc, hDc.weaken (fun _ _ _ _ => trivial)⟩⟩ rfl rfl hl.1 rfl (lv_room (Nat.le_of_ble_eq_true rfl)) dX3_sidesNear_57 ⟨Nat.le_of_ble_eq_true rfl, Nat.le_of_ble_eq_true rfl⟩) hS (fun q _ h => hFc q h) hFc (fun r_17 u t H1 locs ht hvm hw_18 hB hz1 hk1 hS => ?_)
        obtain ⟨hP1, hK1, hD1⟩ := hB
        have hP1 : va_P (dC, dI) vwCl [(pl, .inr (3, [.int plw, .int pld, .int plc, .int pls, .long plm, .ref plf, .ref plo, .ref plb, .ref pla])), (plb, .inl (plkb, 40, .inr (.inl plB)))] t.heap := hP1
        rw [ht] at hP1
        try dsimp only at hw_18
        obtain ⟨hP, hD⟩ := va_join (wr := [(plf, .inl (plkf, 40, .inl plF)), (plo, .inl (plko, 40, .inl plO)), (pla, .inl (plka, 100, .inl plA))]) (w1 := [(pl, .inr (3, [.int plw, .int pld, .int plc, .int pls, .long plm, .ref plf, .ref plo, .ref plb, .ref pla])), (plb, .inl (plkb, 40, .inr (.inl plB)))]) hP hD [3, 2] [0, 1, 4] rfl rfl (by decide) (by decide) hk1 hFc hP1 hD1
        generalize H1 = H at hP hS ⊢
        have hP : va_P (dC, dI) vwCl [(plf, .inl (plkf, 40, .inl plF)), (plo, .inl (plko, 40, .inl plO)), (pla, .inl (plka, 100, .inl plA)), (pl, .inr (3, [.int plw, .int pld, .int plc, .int pls, .long plm, .ref plf, .ref plo, .ref plb, .ref pla])), (plb, .inl (plkb, 40, .inr (.inl plB)))] H := hP
        have hD : va_D A [(plf, .inl (plkf, 40, .inl plF)), (plo, .inl (plko, 40, .inl plO)), (pla, .inl (plka, 100, .inl plA)), (pl, .inr (3, [.int plw, .int pld, .int plc, .int pls, .long plm, .ref plf, .ref plo, .ref plb, .ref pla])), (plb, .inl (plkb, 40, .inr (.inl plB)))] := hD
        refine lv_lor hx hb dX3_sidesNear_60 ?_
        refine lv_topl (fun y_19 ey_19 => ?_)
        refine lv_lor hx hb dX3_sidesNear_61 ?_
        refine lv_topl (fun y_20 ey_20 => ?_)
        refine lv_lstore_n (lv' := [(2, .long y_20), (4, .int wy), (0, .ref pl), (1, .int p0)]) hx hb dX3_sidesNear_62 rfl hl (by decide) rfl (fun ls hl => ?_)
        obtain ⟨x_21, ex_21⟩ : ∃ y9 : Int32, y9 = wy + Int32.ofInt 1 := ⟨_, rfl⟩
        have zx_21 : x_21.toInt = wy.toInt + 1 := by rw [ex_21]; exact i_add rfl (show (Int32.ofInt 1).toInt = 1 by decide) (by omega) (by omega)
        refine lv_iinc (v := x_21) (lv' := [(4, .int x_21), (2, .long y_20), (0, .ref pl), (1, .int p0)]) hx hb dX3_sidesNear_63 hl (k := 1) rfl (by rw [ex_21]) (by decide) rfl (fun ls hl => ?_)
        refine lv_goto (tgt := 19) hx hb dX3_sidesNear_66 (by decide) ?_
        exact ih19 (x_21, y_20) _ _ _ ⟨(by (try dsimp only); omega), hP.sub [3, 0, 1, 4, 2] rfl, hD.sub [3, 0, 1, 4, 2] (by decide) rfl, hS, lv_sub hl [0, 1, 2, 3] rfl⟩ (by (try dsimp only); omega)
    · have c_2 : pls.toInt ≤ p0.toInt := i_nlt (a := p0) (b := pls) rfl rfl c_2
      refine lv_lconst (v := 0) hx hb dX3_sidesNear_12 (by decide) ?_
      have hP9 := hP.sub (ws' := [(pl, .inr (3, [.int plw, .int pld, .int plc, .int pls, .long plm, .ref plf, .ref plo, .ref plb, .ref pla])), (plf, .inl (plkf, 40, .inl plF)), (plo, .inl (plko, 40, .inl plO)), (plb, .inl (plkb, 40, .inr (.inl plB))), (pla, .inl (plka, 100, .inl plA))]) [0, 1, 2, 3, 4] rfl
      have hD9 := hD.sub (ws' := [(pl, .inr (3, [.int plw, .int pld, .int plc, .int pls, .long plm, .ref plf, .ref plo, .ref plb, .ref pla])), (plf, .inl (plkf, 40, .inl plF)), (plo, .inl (plko, 40, .inl plO)), (plb, .inl (plkb, 40, .inr (.inl plB))), (pla, .inl (plka, 100, .inl plA))]) [0, 1, 2, 3, 4] (by decide) rfl
      have hK9 := hK.sub (tys' := []) [] rfl
      refine W.widen (k := 0) (n := 0) (by omega) (by omega) ?_
      exact W.lret (v := 0) hx hb hr (fun t ht hW => ⟨⟨0, (), rfl, trivial, by rw [ht]; exact hP9, va_K.moved hW.alike hK9, hD9⟩, hS.F ht⟩) hS.2.2 dX3_sidesNear_13

theorem dX3_pick_0 : decode cX3_pick 0 = .ok (.iconst 0, 1) := by decide +kernel
theorem dX3_pick_1 : decode cX3_pick 1 = .ok (.istore 4, 2) := by decide +kernel
theorem dX3_pick_3 : decode cX3_pick 3 = .ok (.iconst 0, 1) := by decide +kernel
theorem dX3_pick_4 : decode cX3_pick 4 = .ok (.istore 5, 2) := by decide +kernel
theorem dX3_pick_6 : decode cX3_pick 6 = .ok (.iload 5, 2) := by decide +kernel
theorem dX3_pick_8 : decode cX3_pick 8 = .ok (.aload_n 0, 1) := by decide +kernel
theorem dX3_pick_9 : decode cX3_pick 9 = .ok (.getfield 21, 3) := by decide +kernel
theorem dX3_pick_12 : decode cX3_pick 12 = .ok (.if_icmp .ge 31, 3) := by decide +kernel
theorem dX3_pick_15 : decode cX3_pick 15 = .ok (.aload_n 0, 1) := by decide +kernel
theorem dX3_pick_16 : decode cX3_pick 16 = .ok (.lload_n 1, 1) := by decide +kernel
theorem dX3_pick_17 : decode cX3_pick 17 = .ok (.iload 5, 2) := by decide +kernel
theorem dX3_pick_19 : decode cX3_pick 19 = .ok (.invokevirtual 67, 3) := by decide +kernel
theorem dX3_pick_22 : decode cX3_pick 22 = .ok (.ifCond .eq 15, 3) := by decide +kernel
theorem dX3_pick_25 : decode cX3_pick 25 = .ok (.iload 4, 2) := by decide +kernel
theorem dX3_pick_27 : decode cX3_pick 27 = .ok (.iload_n 3, 1) := by decide +kernel
theorem dX3_pick_28 : decode cX3_pick 28 = .ok (.if_icmp .ne 6, 3) := by decide +kernel
theorem dX3_pick_31 : decode cX3_pick 31 = .ok (.iload 5, 2) := by decide +kernel
theorem dX3_pick_33 : decode cX3_pick 33 = .ok (.ireturn, 1) := by decide +kernel
theorem dX3_pick_34 : decode cX3_pick 34 = .ok (.iinc 4 1, 3) := by decide +kernel
theorem dX3_pick_37 : decode cX3_pick 37 = .ok (.iinc 5 1, 3) := by decide +kernel
theorem dX3_pick_40 : decode cX3_pick 40 = .ok (.goto (-34), 3) := by decide +kernel
theorem dX3_pick_43 : decode cX3_pick 43 = .ok (.iconst (-1), 1) := by decide +kernel
theorem dX3_pick_44 : decode cX3_pick 44 = .ok (.ireturn, 1) := by decide +kernel
def wz_X3_pick : List Cond := .code yX3_pick cX3_pick 6 (some .int) :: ([Cond.fieldLink RX3 21 "HedgeMaze$Plan" "sideCount" "I", Cond.methodLink RX3 67 yX3_has, Cond.instanceMethod yX3_has, Cond.selects RX3 yX3_has yX3_has, Cond.initialized RX3, Cond.code yX3_has cX3_has 4 (some .boolean), Cond.methodLink RX3 58 yX3_bitOf, Cond.instanceMethod yX3_bitOf, Cond.selects RX3 yX3_bitOf yX3_bitOf, Cond.code yX3_bitOf cX3_bitOf 3 (some .long), Cond.fieldLink RX3 35 "HedgeMaze$Plan" "bits" "[J"] ++ wsX30)
theorem wd_X3_pick_0 : Cond.fieldLink RX3 21 "HedgeMaze$Plan" "sideCount" "I" ∈ wz_X3_pick := List.mem_of_getElem? (i := 1) rfl
theorem in_X3_pick_X3 : ∀ w ∈ wsX30, w ∈ wz_X3_pick := fun _ h => List.mem_cons_of_mem _ (List.mem_append_right _ h)
set_option maxRecDepth 20000 in
theorem g_X3_pick_X3_has : GoodIn wz_X3_pick (wsV RX3 67 RX3 yX3_has wz_X3_has) := goodIn_r _ [2, 3, 4, 5, 6, 7, 8, 9, 5, 10, 1, 11, 12, 13, 14, 15, 16, 17, 18, 19, 20] rfl (by decide +kernel)
set_option maxHeartbeats 4000000 in
set_option maxRecDepth 100000 in
theorem c_X3_pick (l : Launch) (dC : Nat → ClassId) (dI : Nat → Nat → Nat) (sz : Nat) (pl : Nat) (plw : Int32) (pld : Int32) (plc : Int32) (pls : Int32) (plm : Int64) (plf : Nat) (plo : Nat) (plb : Nat) (pla : Nat) (plkb : ClassId) (plB : Nat → Int64) (p0 : Int64) (p1 : Int32) (h_pls : 0 ≤ pls.toInt ∧ pls.toInt ≤ 40) : Met l yX3_pick wz_X3_pick ({ frames := 2, cells := 0, slots := 0, locals := 45 }) (va_Pc [.ref pl, .long p0, .int p1] (fun U => U.heap.size = sz ∧ va_P (dC, dI) vwCl [(pl, .inr (3, [.int plw, .int pld, .int plc, .int pls, .long plm, .ref plf, .ref plo, .ref plb, .ref pla])), (plb, .inl (plkb, 40, .inr (.inl plB)))] U.heap ∧ va_K (dC, dI) vwCl [(plkb, .long)] U ∧ va_D (fun _ => True) [(pl, .inr (3, [.int plw, .int pld, .int plc, .int pls, .long plm, .ref plf, .ref plo, .ref plb, .ref pla])), (plb, .inl (plkb, 40, .inr (.inl plB)))])) (va_Qi (fun (r : Int32) (u : Unit) => True) (fun (u : Unit) (t : State) => va_P (dC, dI) vwCl [(pl, .inr (3, [.int plw, .int pld, .int plc, .int pls, .long plm, .ref plf, .ref plo, .ref plb, .ref pla])), (plb, .inl (plkb, 40, .inr (.inl plB)))] t.heap ∧ va_K (dC, dI) vwCl [] t ∧ va_D (va_A [(pl, .inr (3, [.int plw, .int pld, .int plc, .int pls, .long plm, .ref plf, .ref plo, .ref plb, .ref pla])), (plb, .inl (plkb, 40, .inr (.inl plB)))] sz) [(pl, .inr (3, [.int plw, .int pld, .int plc, .int pls, .long plm, .ref plf, .ref plo, .ref plb, .ref pla])), (plb, .inl (plkb, 40, .inr (.inl plB)))]) (va_A [(pl, .inr (3, [.int plw, .int pld, .int plc, .int pls, .long plm, .ref plf, .ref plo, .ref plb, .ref pla])), (plb, .inl (plkb, 40, .inr (.inl plB)))] sz)) 0 0 (va_A [(pl, .inr (3, [.int plw, .int pld, .int plc, .int pls, .long plm, .ref plf, .ref plo, .ref plb, .ref pla])), (plb, .inl (plkb, 40, .inr (.inl plB)))] sz) := by
  refine Met.ofW (cc := cX3_pick) (maxL := 6) (ret := (some .int)) (by decide) rfl ?_
  intro p e s m args below meth c s₁ B hml hv
  obtain ⟨rfl, hsz, hP, hK, hD0⟩ := hv
  have hx := B.exec
  have hb := B.bytes
  have hr := B.returns
  have hts := atoms_spec (ws := wz_X3_pick) B.pre
  have hown : s.vm.findClass RX3 = some m.cls := findClass_of_methodNamed B.named
  have hlocks := B.notSynchronized
  subst hsz
  have hD := hD0.self (sz := s.heap.size)
  generalize hAe : va_A [(pl, .inr (3, [.int plw, .int pld, .int plc, .int pls, .long plm, .ref plf, .ref plo, .ref plb, .ref pla])), (plb, .inl (plkb, 40, .inr (.inl plB)))] s.heap.size = A at hD ⊢
  have hA : ∀ q : Nat, s.heap.size ≤ q → A q := fun q h => by rw [← hAe]; exact Or.inr h
  have hS : va_S A s.heap s.heap [] := va_S.rf
  have hP : va_P (dC, dI) vwCl [(pl, .inr (3, [.int plw, .int pld, .int plc, .int pls, .long plm, .ref plf, .ref plo, .ref plb, .ref pla])), (plb, .inl (plkb, 40, .inr (.inl plB)))] s.heap := hP
  have hl := lv_entry ([.ref pl, .long p0, .int p1]) (n := 6) (Nat.le_of_ble_eq_true rfl)
  rw [lg_entry_eq]
  generalize (lg_sl ([.ref pl, .long p0, .int p1]) ++ List.replicate (6 - (lg_sl ([.ref pl, .long p0, .int p1])).length) Slot.unset).toArray = ls at hl ⊢
  have hl : lv_has ls 6 [(0, .ref pl), (1, .long p0), (3, .int p1)] := hl
  refine lv_iconst (v := 0) hx hb dX3_pick_0 (by decide) ?_
  refine lv_istore (lv' := [(4, .int 0), (0, .ref pl), (1, .long p0), (3, .int p1)]) hx hb dX3_pick_1 hl (by decide) rfl (fun ls hl => ?_)
  refine lv_iconst (v := 0) hx hb dX3_pick_3 (by decide) ?_
  refine lv_istore (lv' := [(5, .int 0), (4, .int 0), (0, .ref pl), (1, .long p0), (3, .int p1)]) hx hb dX3_pick_4 hl (by decide) rfl (fun ls hl => ?_)
  refine lp_W (I := fun (a : Int32 × Int32) H locs ls => (0 ≤ a.1.toInt ∧ a.1.toInt ≤ pls.toInt) ∧ va_P (dC, dI) vwCl [(pl, .inr (3, [.int plw, .int pld, .int plc, .int pls, .long plm, .ref plf, .ref plo, .ref plb, .ref pla])), (plb, .inl (plkb, 40, .inr (.inl plB)))] H ∧ va_D A [(pl, .inr (3, [.int plw, .int pld, .int plc, .int pls, .long plm, .ref plf, .ref plo, .ref plb, .ref pla])), (plb, .inl (plkb, 40, .inr (.inl plB)))] ∧ va_S A s.heap H locs ∧ lv_has ls 6 [(5, .int a.1), (4, .int a.2), (0, .ref pl), (1, .long p0), (3, .int p1)]) (μ := fun a => (pls.toInt - a.1.toInt).toNat) ?_ ((0 : Int32), (0 : Int32)) ⟨(by have k0 : (0 : Int32).toInt = 0 := (by decide); (try dsimp only); omega), hP.sub [0, 1] rfl, hD.sub [0, 1] (by decide) rfl, hS, lv_sub hl [0, 1, 2, 3, 4] rfl⟩
  intro a H locs ls hI ih6
  obtain ⟨sd, ps⟩ := a
  obtain ⟨h_sd, hP, hD, hS, hl⟩ := hI
  have h_sd : 0 ≤ sd.toInt ∧ sd.toInt ≤ pls.toInt := h_sd
  have hP : va_P (dC, dI) vwCl [(pl, .inr (3, [.int plw, .int pld, .int plc, .int pls, .long plm, .ref plf, .ref plo, .ref plb, .ref pla])), (plb, .inl (plkb, 40, .inr (.inl plB)))] H := hP
  have hD : va_D A [(pl, .inr (3, [.int plw, .int pld, .int plc, .int pls, .long plm, .ref plf, .ref plo, .ref plb, .ref pla])), (plb, .inl (plkb, 40, .inr (.inl plB)))] := hD
  have hl : lv_has ls 6 [(5, .int sd), (4, .int ps), (0, .ref pl), (1, .long p0), (3, .int p1)] := hl
  refine lv_iload hx hb dX3_pick_6 (lv_at hl 0 rfl) ?_
  refine lv_aload_n hx hb dX3_pick_8 rfl (lv_at hl 2 rfl) ?_
  refine va_get (D := (dC, dI)) (ci := 3) (v := .int pls) (C := RX3) (T := TX3) (N := 9) hx hb hts in_X3_pick_X3 hown hK hP 0 rfl rfl 3 (by decide) (hts _ wd_X3_pick_0) (fun _ h9 => h9) rfl dX3_pick_9 ?_
  refine lv_icmp_ge (tgt := 43) hx hb dX3_pick_12 (by decide) (fun c_1 => ?_) (fun c_1 => ?_)
  · have c_1 : pls.toInt ≤ sd.toInt := i_le (a := pls) (b := sd) rfl rfl c_1
    refine lv_iconst (v := -1) hx hb dX3_pick_43 (by decide) ?_
    have hP9 := hP.sub (ws' := [(pl, .inr (3, [.int plw, .int pld, .int plc, .int pls, .long plm, .ref plf, .ref plo, .ref plb, .ref pla])), (plb, .inl (plkb, 40, .inr (.inl plB)))]) [0, 1] rfl
    have hD9 := hD.sub (ws' := [(pl, .inr (3, [.int plw, .int pld, .int plc, .int pls, .long plm, .ref plf, .ref plo, .ref plb, .ref pla])), (plb, .inl (plkb, 40, .inr (.inl plB)))]) [0, 1] (by decide) rfl
    have hK9 := hK.sub (tys' := []) [] rfl
    refine W.widen (k := 0) (n := 0) (by omega) (by omega) ?_
    exact W.iret (v := -1) hx hb hr (fun t ht hW => ⟨⟨(-1), (), rfl, trivial, by rw [ht]; exact hP9, va_K.moved hW.alike hK9, hD9⟩, hS.F ht⟩) hS.2.2 dX3_pick_44
  · have c_1 : sd.toInt < pls.toInt := i_nle (a := pls) (b := sd) rfl rfl c_1
    refine lv_aload_n hx hb dX3_pick_15 rfl (lv_at hl 2 rfl) ?_
    refine lv_lload_n hx hb dX3_pick_16 rfl (lv_at hl 3 rfl) ?_
    refine lv_iload hx hb dX3_pick_17 (lv_at hl 0 rfl) ?_
    have hPc := hP.sub (ws' := [(pl, .inr (3, [.int plw, .int pld, .int plc, .int pls, .long plm, .ref plf, .ref plo, .ref plb, .ref pla])), (plb, .inl (plkb, 40, .inr (.inl plB)))]) [0, 1] rfl
    have hDc := hD.sub (ws' := [(pl, .inr (3, [.int plw, .int pld, .int plc, .int pls, .long plm, .ref plf, .ref plo, .ref plb, .ref pla])), (plb, .inl (plkb, 40, .inr (.inl plB)))]) [0, 1] (by decide) rfl
    have hKc := hK.sub (tys' := [(plkb, .long)]) [0] rfl
    have hFc := va_free (wc := [(pl, .inr (3, [.int plw, .int pld, .int plc, .int pls, .long plm, .ref plf, .ref plo, .ref plb, .ref pla])), (plb, .inl (plkb, 40, .inr (.inl plB)))]) hD hS hA [0, 1] rfl
    refine va_calli (va_runV (As := [.long p0, .int sd]) (rest := []) ⟨hx, hb, hml, hown, hts⟩ (c_X3_has l dC dI H.size pl plw pld plc pls plm plf plo plb pla plkb plB p0 sd (by omega)) (cwV 2 hts g_X3_pick_X3_has rfl rfl rfl (by decide +kernel) ⟨Nat.le_of_ble_eq_true rfl, Nat.le_of_ble_eq_true rfl⟩) ⟨fun a U g mk q => by obtain ⟨q0, q1, qP, qK, qD⟩ := q; exact ⟨q0, q1, qP, va_K.moved (u := U) (U := U.calling g mk a) (Vm.Alike.refl U.vm) qK, qD⟩, va_recv hKc hPc (ci := 3) (q0 := 0) rfl rfl, fun U hU hW => ⟨rfl, by rw [hU], by rw [hU]; exact hPc, va_K.moved hW.alike hKc, hDc.weaken (fun _ _ _ _ => trivial)⟩⟩ rfl rfl hl.1 rfl (lv_room (Nat.le_of_ble_eq_true rfl)) dX3_pick_19 ⟨Nat.le_of_ble_eq_true rfl, Nat.le_of_ble_eq_true rfl⟩) hS (fun q _ h => hFc q h) hFc (fun r_2 u t H1 locs ht hvm hw_3 hB hz1 hk1 hS => ?_)
    obtain ⟨hP1, hK1, hD1⟩ := hB
    have hP1 : va_P (dC, dI) vwCl [(pl, .inr (3, [.int plw, .int pld, .int plc, .int pls, .long plm, .ref plf, .ref plo, .ref plb, .ref pla])), (plb, .inl (plkb, 40, .inr (.inl plB)))] t.heap := hP1
    rw [ht] at hP1
    try dsimp only at hw_3
    obtain ⟨hP, hD⟩ := va_join (wr := []) (w1 := [(pl, .inr (3, [.int plw, .int pld, .int plc, .int pls, .long plm, .ref plf, .ref plo, .ref plb, .ref pla])), (plb, .inl (plkb, 40, .inr (.inl plB)))]) hP hD [0, 1] [] rfl rfl (by decide) (by decide) hk1 hFc hP1 hD1
    generalize H1 = H at hP hS ⊢
    have hP : va_P (dC, dI) vwCl [(pl, .inr (3, [.int plw, .int pld, .int plc, .int pls, .long plm, .ref plf, .ref plo, .ref plb, .ref pla])), (plb, .inl (plkb, 40, .inr (.inl plB)))] H := hP
    have hD : va_D A [(pl, .inr (3, [.int plw, .int pld, .int plc, .int pls, .long plm, .ref plf, .ref plo, .ref plb, .ref pla])), (plb, .inl (plkb, 40, .inr (.inl plB)))] := hD
    refine lv_if_eq (tgt := 37) hx hb dX3_pick_22 (by decide) (fun c_4 => ?_) (fun c_4 => ?_)
    · have c_4 : r_2.toInt = 0 := i_eq (a := r_2) (b := 0) rfl (by decide) c_4
      obtain ⟨x_5, ex_5⟩ : ∃ y9 : Int32, y9 = sd + Int32.ofInt 1 := ⟨_, rfl⟩
      have zx_5 : x_5.toInt = sd.toInt + 1 := by rw [ex_5]; exact i_add rfl (show (Int32.ofInt 1).toInt = 1 by decide) (by omega) (by omega)
      refine lv_iinc (v := x_5) (lv' := [(5, .int x_5), (4, .int ps), (0, .ref pl), (1, .long p0), (3, .int p1)]) hx hb dX3_pick_37 hl (k := 0) rfl (by rw [ex_5]) (by decide) rfl (fun ls hl => ?_)
      refine lv_goto (tgt := 6) hx hb dX3_pick_40 (by decide) ?_
      exact ih6 (x_5, ps) _ _ _ ⟨(by (try dsimp only); omega), hP.sub [0, 1] rfl, hD.sub [0, 1] (by decide) rfl, hS, lv_sub hl [0, 1, 2, 3, 4] rfl⟩ (by (try dsimp only); omega)
    · have c_4 : r_2.toInt ≠ 0 := i_ne (a := r_2) (b := 0) rfl (by decide) c_4
      refine lv_iload hx hb dX3_pick_25 (lv_at hl 1 rfl) ?_
      refine lv_iload_n hx hb dX3_pick_27 rfl (lv_at hl 4 rfl) ?_
      refine lv_icmp_ne (tgt := 34) hx hb dX3_pick_28 (by decide) (fun c_6 => ?_) (fun c_6 => ?_)
      · have c_6 : ps.toInt ≠ p1.toInt := i_ne (a := ps) (b := p1) rfl rfl c_6
        obtain ⟨x_7, ex_7⟩ : ∃ y9 : Int32, y9 = ps + Int32.ofInt 1 := ⟨_, rfl⟩
        refine lv_iinc (v := x_7) (lv' := [(4, .int x_7), (5, .int sd), (0, .ref pl), (1, .long p0), (3, .int p1)]) hx hb dX3_pick_34 hl (k := 1) rfl (by rw [ex_7]) (by decide) rfl (fun ls hl => ?_)
        obtain ⟨x_8, ex_8⟩ : ∃ y9 : Int32, y9 = sd + Int32.ofInt 1 := ⟨_, rfl⟩
        have zx_8 : x_8.toInt = sd.toInt + 1 := by rw [ex_8]; exact i_add rfl (show (Int32.ofInt 1).toInt = 1 by decide) (by omega) (by omega)
        refine lv_iinc (v := x_8) (lv' := [(5, .int x_8), (4, .int x_7), (0, .ref pl), (1, .long p0), (3, .int p1)]) hx hb dX3_pick_37 hl (k := 1) rfl (by rw [ex_8]) (by decide) rfl (fun ls hl => ?_)
        refine lv_goto (tgt := 6) hx hb dX3_pick_40 (by decide) ?_
        exact ih6 (x_8, x_7) _ _ _ ⟨(by (try dsimp only); omega), hP.sub [0, 1] rfl, hD.sub [0, 1] (by decide) rfl, hS, lv_sub hl [0, 1, 2, 3, 4] rfl⟩ (by (try dsimp only); omega)
      · have c_6 : ps.toInt = p1.toInt := i_eq (a := ps) (b := p1) rfl rfl c_6
        refine lv_iload hx hb dX3_pick_31 (lv_at hl 0 rfl) ?_
        have hP9 := hP.sub (ws' := [(pl, .inr (3, [.int plw, .int pld, .int plc, .int pls, .long plm, .ref plf, .ref plo, .ref plb, .ref pla])), (plb, .inl (plkb, 40, .inr (.inl plB)))]) [0, 1] rfl
        have hD9 := hD.sub (ws' := [(pl, .inr (3, [.int plw, .int pld, .int plc, .int pls, .long plm, .ref plf, .ref plo, .ref plb, .ref pla])), (plb, .inl (plkb, 40, .inr (.inl plB)))]) [0, 1] (by decide) rfl
        have hK9 := hK.sub (tys' := []) [] rfl
        refine W.widen (k := 0) (n := 0) (by omega) (by omega) ?_
        exact W.iret (v := sd) hx hb hr (fun t ht hW => ⟨⟨sd, (), rfl, trivial, by rw [ht]; exact hP9, va_K.moved hW.alike hK9, hD9⟩, hS.F ht⟩) hS.2.2 dX3_pick_33

theorem dX3_grow_0 : decode cX3_grow 0 = .ok (.lload_n 2, 1) := by decide +kernel
theorem dX3_grow_1 : decode cX3_grow 1 = .ok (.l2i, 1) := by decide +kernel
theorem dX3_grow_2 : decode cX3_grow 2 = .ok (.istore 4, 2) := by decide +kernel
theorem dX3_grow_4 : decode cX3_grow 4 = .ok (.lload_n 2, 1) := by decide +kernel
theorem dX3_grow_5 : decode cX3_grow 5 = .ok (.bipush 32, 2) := by decide +kernel
theorem dX3_grow_7 : decode cX3_grow 7 = .ok (.lushr, 1) := by decide +kernel
theorem dX3_grow_8 : decode cX3_grow 8 = .ok (.l2i, 1) := by decide +kernel
theorem dX3_grow_9 : decode cX3_grow 9 = .ok (.istore 5, 2) := by decide +kernel
theorem dX3_grow_11 : decode cX3_grow 11 = .ok (.iload_n 1, 1) := by decide +kernel
theorem dX3_grow_12 : decode cX3_grow 12 = .ok (.iload_n 1, 1) := by decide +kernel
theorem dX3_grow_13 : decode cX3_grow 13 = .ok (.iload 4, 2) := by decide +kernel
theorem dX3_grow_15 : decode cX3_grow 15 = .ok (.iand, 1) := by decide +kernel
theorem dX3_grow_16 : decode cX3_grow 16 = .ok (.iconst 1, 1) := by decide +kernel
theorem dX3_grow_17 : decode cX3_grow 17 = .ok (.ishl, 1) := by decide +kernel
theorem dX3_grow_18 : decode cX3_grow 18 = .ok (.ior, 1) := by decide +kernel
theorem dX3_grow_19 : decode cX3_grow 19 = .ok (.iload_n 1, 1) := by decide +kernel
theorem dX3_grow_20 : decode cX3_grow 20 = .ok (.iconst 1, 1) := by decide +kernel
theorem dX3_grow_21 : decode cX3_grow 21 = .ok (.ishr, 1) := by decide +kernel
theorem dX3_grow_22 : decode cX3_grow 22 = .ok (.iload 4, 2) := by decide +kernel
theorem dX3_grow_24 : decode cX3_grow 24 = .ok (.iand, 1) := by decide +kernel
theorem dX3_grow_25 : decode cX3_grow 25 = .ok (.ior, 1) := by decide +kernel
theorem dX3_grow_26 : decode cX3_grow 26 = .ok (.iload_n 1, 1) := by decide +kernel
theorem dX3_grow_27 : decode cX3_grow 27 = .ok (.iload 5, 2) := by decide +kernel
theorem dX3_grow_29 : decode cX3_grow 29 = .ok (.iand, 1) := by decide +kernel
theorem dX3_grow_30 : decode cX3_grow 30 = .ok (.aload_n 0, 1) := by decide +kernel
theorem dX3_grow_31 : decode cX3_grow 31 = .ok (.getfield 9, 3) := by decide +kernel
theorem dX3_grow_34 : decode cX3_grow 34 = .ok (.ishl, 1) := by decide +kernel
theorem dX3_grow_35 : decode cX3_grow 35 = .ok (.ior, 1) := by decide +kernel
theorem dX3_grow_36 : decode cX3_grow 36 = .ok (.iload_n 1, 1) := by decide +kernel
theorem dX3_grow_37 : decode cX3_grow 37 = .ok (.aload_n 0, 1) := by decide +kernel
theorem dX3_grow_38 : decode cX3_grow 38 = .ok (.getfield 9, 3) := by decide +kernel
theorem dX3_grow_41 : decode cX3_grow 41 = .ok (.ishr, 1) := by decide +kernel
theorem dX3_grow_42 : decode cX3_grow 42 = .ok (.iload 5, 2) := by decide +kernel
theorem dX3_grow_44 : decode cX3_grow 44 = .ok (.iand, 1) := by decide +kernel
theorem dX3_grow_45 : decode cX3_grow 45 = .ok (.ior, 1) := by decide +kernel
theorem dX3_grow_46 : decode cX3_grow 46 = .ok (.ireturn, 1) := by decide +kernel
def wz_X3_grow : List Cond := .code yX3_grow cX3_grow 6 (some .int) :: ([Cond.fieldLink RX3 9 "HedgeMaze$Plan" "wide" "I"] ++ wsX30)
theorem wd_X3_grow_0 : Cond.fieldLink RX3 9 "HedgeMaze$Plan" "wide" "I" ∈ wz_X3_grow := List.mem_of_getElem? (i := 1) rfl
theorem in_X3_grow_X3 : ∀ w ∈ wsX30, w ∈ wz_X3_grow := fun _ h => List.mem_cons_of_mem _ (List.mem_append_right _ h)
set_option maxHeartbeats 4000000 in
set_option maxRecDepth 100000 in
theorem c_X3_grow (l : Launch) (dC : Nat → ClassId) (dI : Nat → Nat → Nat) (sz : Nat) (pl : Nat) (plw : Int32) (pld : Int32) (plc : Int32) (pls : Int32) (plm : Int64) (plf : Nat) (plo : Nat) (plb : Nat) (pla : Nat) (p0 : Int32) (p1 : Int64)  : Met l yX3_grow wz_X3_grow ({ frames := 0, cells := 0, slots := 0, locals := 0 }) (va_Pc [.ref pl, .int p0, .long p1] (fun U => U.heap.size = sz ∧ va_P (dC, dI) vwCl [(pl, .inr (3, [.int plw, .int pld, .int plc, .int pls, .long plm, .ref plf, .ref plo, .ref plb, .ref pla]))] U.heap ∧ va_K (dC, dI) vwCl [] U ∧ va_D (fun _ => True) [(pl, .inr (3, [.int plw, .int pld, .int plc, .int pls, .long plm, .ref plf, .ref plo, .ref plb, .ref pla]))])) (va_Qi (fun (r : Int32) (u : Unit) => True) (fun (u : Unit) (t : State) => va_P (dC, dI) vwCl [(pl, .inr (3, [.int plw, .int pld, .int plc, .int pls, .long plm, .ref plf, .ref plo, .ref plb, .ref pla]))] t.heap ∧ va_K (dC, dI) vwCl [] t ∧ va_D (va_A [(pl, .inr (3, [.int plw, .int pld, .int plc, .int pls, .long plm, .ref plf, .ref plo, .ref plb, .ref pla]))] sz) [(pl, .inr (3, [.int plw, .int pld, .int plc, .int pls, .long plm, .ref plf, .ref plo, .ref plb, .ref pla]))]) (va_A [(pl, .inr (3, [.int plw, .int pld, .int plc, .int pls, .long plm, .ref plf, .ref plo, .ref plb, .ref pla]))] sz)) 0 0 (va_A [(pl, .inr (3, [.int plw, .int pld, .int plc, .int pls, .long plm, .ref plf, .ref plo, .ref plb, .ref pla]))] sz) := by
  refine Met.ofW (cc := cX3_grow) (maxL := 6) (ret := (some .int)) (by decide) rfl ?_
  intro p e s m args below meth c s₁ B hml hv
  obtain ⟨rfl, hsz, hP, hK, hD0⟩ := hv
  have hx := B.exec
  have hb := B.bytes
  have hr := B.returns
  have hts := atoms_spec (ws := wz_X3_grow) B.pre
  have hown : s.vm.findClass RX3 = some m.cls := findClass_of_methodNamed B.named
  have hlocks := B.notSynchronized
  subst hsz
  have hD := hD0.self (sz := s.heap.size)
  generalize hAe : va_A [(pl, .inr (3, [.int plw, .int pld, .int plc, .int pls, .long plm, .ref plf, .ref plo, .ref plb, .ref pla]))] s.heap.size = A at hD ⊢
  have hA : ∀ q : Nat, s.heap.size ≤ q → A q := fun q h => by rw [← hAe]; exact Or.inr h
  have hS : va_S A s.heap s.heap [] := va_S.rf
  have hP : va_P (dC, dI) vwCl [(pl, .inr (3, [.int plw, .int pld, .int plc, .int pls, .long plm, .ref plf, .ref plo, .ref plb, .ref pla]))] s.heap := hP
  have hl := lv_entry ([.ref pl, .int p0, .long p1]) (n := 6) (Nat.le_of_ble_eq_true rfl)
  rw [lg_entry_eq]
  generalize (lg_sl ([.ref pl, .int p0, .long p1]) ++ List.replicate (6 - (lg_sl ([.ref pl, .int p0, .long p1])).length) Slot.unset).toArray = ls at hl ⊢
  have hl : lv_has ls 6 [(0, .ref pl), (1, .int p0), (2, .long p1)] := hl
  refine lv_lload_n hx hb dX3_grow_0 rfl (lv_at hl 2 rfl) ?_
  refine lv_l2i (v := p1.toInt32) hx hb dX3_grow_1 rfl ?_
  refine lv_topi (fun x_1 ex_1 => ?_)
  refine lv_istore (lv' := [(4, .int x_1), (0, .ref pl), (1, .int p0), (2, .long p1)]) hx hb dX3_grow_2 hl (by decide) rfl (fun ls hl => ?_)
  refine lv_lload_n hx hb dX3_grow_4 rfl (lv_at hl 3 rfl) ?_
  refine lv_bipush (v := 32) hx hb dX3_grow_5 (by decide) ?_
  refine lv_lushr (v := (p1.toUInt64 >>> (((32 : Int32)).toInt64.toUInt64 &&& Int64.toUInt64 63)).toInt64) hx hb dX3_grow_7 rfl ?_
  refine lv_topl (fun y_2 ey_2 => ?_)
  refine lv_l2i (v := y_2.toInt32) hx hb dX3_grow_8 rfl ?_
  refine lv_topi (fun x_3 ex_3 => ?_)
  refine lv_istore (lv' := [(5, .int x_3), (4, .int x_1), (0, .ref pl), (1, .int p0), (2, .long p1)]) hx hb dX3_grow_9 hl (by decide) rfl (fun ls hl => ?_)
  refine lv_iload_n hx hb dX3_grow_11 rfl (lv_at hl 3 rfl) ?_
  refine lv_iload_n hx hb dX3_grow_12 rfl (lv_at hl 3 rfl) ?_
  refine lv_iload hx hb dX3_grow_13 (lv_at hl 1 rfl) ?_
  refine lv_iand hx hb dX3_grow_15 ?_
  refine lv_topi (fun x_4 ex_4 => ?_)
  refine lv_iconst (v := 1) hx hb dX3_grow_16 (by decide) ?_
  refine lv_ishl hx hb dX3_grow_17 ?_
  refine lv_topi (fun x_5 ex_5 => ?_)
  refine lv_ior hx hb dX3_grow_18 ?_
  refine lv_topi (fun x_6 ex_6 => ?_)
  refine lv_iload_n hx hb dX3_grow_19 rfl (lv_at hl 3 rfl) ?_
  refine lv_iconst (v := 1) hx hb dX3_grow_20 (by decide) ?_
  refine lv_ishr hx hb dX3_grow_21 ?_
  refine lv_topi (fun x_7 ex_7 => ?_)
  refine lv_iload hx hb dX3_grow_22 (lv_at hl 1 rfl) ?_
  refine lv_iand hx hb dX3_grow_24 ?_
  refine lv_topi (fun x_8 ex_8 => ?_)
  refine lv_ior hx hb dX3_grow_25 ?_
  refine lv_topi (fun x_9 ex_9 => ?_)
  refine lv_iload_n hx hb dX3_grow_26 rfl (lv_at hl 3 rfl) ?_
  refine lv_iload hx hb dX3_grow_27 (lv_at hl 0 rfl) ?_
  refine lv_iand hx hb dX3_grow_29 ?_
  refine lv_topi (fun x_10 ex_10 => ?_)
  refine lv_aload_n hx hb dX3_grow_30 rfl (lv_at hl 2 rfl) ?_
  refine va_get (D := (dC, dI)) (ci := 3) (v := .int plw) (C := RX3) (T := TX3) (N := 9) hx hb hts in_X3_grow_X3 hown hK hP 0 rfl rfl 0 (by decide) (hts _ wd_X3_grow_0) (fun _ h9 => h9) rfl dX3_grow_31 ?_
  refine lv_ishl hx hb dX3_grow_34 ?_
  refine lv_topi (fun x_11 ex_11 => ?_)
  refine lv_ior hx hb dX3_grow_35 ?_
  refine lv_topi (fun x_12 ex_12 => ?_)
  refine lv_iload_n hx hb dX3_grow_36 rfl (lv_at hl 3 rfl) ?_
  refine lv_aload_n hx hb dX3_grow_37 rfl (lv_at hl 2 rfl) ?_
  refine va_get (D := (dC, dI)) (ci := 3) (v := .int plw) (C := RX3) (T := TX3) (N := 9) hx hb hts in_X3_grow_X3 hown hK hP 0 rfl rfl 0 (by decide) (hts _ wd_X3_grow_0) (fun _ h9 => h9) rfl dX3_grow_38 ?_
  refine lv_ishr hx hb dX3_grow_41 ?_
  refine lv_topi (fun x_13 ex_13 => ?_)
  refine lv_iload hx hb dX3_grow_42 (lv_at hl 0 rfl) ?_
  refine lv_iand hx hb dX3_grow_44 ?_
  refine lv_topi (fun x_14 ex_14 => ?_)
  refine lv_ior hx hb dX3_grow_45 ?_
  refine lv_topi (fun x_15 ex_15 => ?_)
  have hP9 := hP.sub (ws' := [(pl, .inr (3, [.int plw, .int pld, .int plc, .int pls, .long plm, .ref plf, .ref plo, .ref plb, .ref pla]))]) [0] rfl
  have hD9 := hD.sub (ws' := [(pl, .inr (3, [.int plw, .int pld, .int plc, .int pls, .long plm, .ref plf, .ref plo, .ref plb, .ref pla]))]) [0] (by decide) rfl
  have hK9 := hK.sub (tys' := []) [] rfl
  refine W.widen (k := 0) (n := 0) (by omega) (by omega) ?_
  exact W.iret (v := x_15) hx hb hr (fun t ht hW => ⟨⟨x_15, (), rfl, trivial, by rw [ht]; exact hP9, va_K.moved hW.alike hK9, hD9⟩, hS.F ht⟩) hS.2.2 dX3_grow_46

theorem dX3_spread_0 : decode cX3_spread 0 = .ok (.iconst 0, 1) := by decide +kernel
theorem dX3_spread_1 : decode cX3_spread 1 = .ok (.istore 5, 2) := by decide +kernel
theorem dX3_spread_3 : decode cX3_spread 3 = .ok (.iload_n 1, 1) := by decide +kernel
theorem dX3_spread_4 : decode cX3_spread 4 = .ok (.istore 6, 2) := by decide +kernel
theorem dX3_spread_6 : decode cX3_spread 6 = .ok (.iload 4, 2) := by decide +kernel
theorem dX3_spread_8 : decode cX3_spread 8 = .ok (.bipush 25, 2) := by decide +kernel
theorem dX3_spread_10 : decode cX3_spread 10 = .ok (.invokestatic 42, 3) := by decide +kernel
theorem dX3_spread_13 : decode cX3_spread 13 = .ok (.istore 7, 2) := by decide +kernel
theorem dX3_spread_15 : decode cX3_spread 15 = .ok (.iconst 0, 1) := by decide +kernel
theorem dX3_spread_16 : decode cX3_spread 16 = .ok (.istore 8, 2) := by decide +kernel
theorem dX3_spread_18 : decode cX3_spread 18 = .ok (.iload 8, 2) := by decide +kernel
theorem dX3_spread_20 : decode cX3_spread 20 = .ok (.iload 7, 2) := by decide +kernel
theorem dX3_spread_22 : decode cX3_spread 22 = .ok (.if_icmp .ge 29, 3) := by decide +kernel
theorem dX3_spread_25 : decode cX3_spread 25 = .ok (.iload 6, 2) := by decide +kernel
theorem dX3_spread_27 : decode cX3_spread 27 = .ok (.iload 5, 2) := by decide +kernel
theorem dX3_spread_29 : decode cX3_spread 29 = .ok (.if_icmp .eq 22, 3) := by decide +kernel
theorem dX3_spread_32 : decode cX3_spread 32 = .ok (.iload 6, 2) := by decide +kernel
theorem dX3_spread_34 : decode cX3_spread 34 = .ok (.istore 5, 2) := by decide +kernel
theorem dX3_spread_36 : decode cX3_spread 36 = .ok (.aload_n 0, 1) := by decide +kernel
theorem dX3_spread_37 : decode cX3_spread 37 = .ok (.iload 6, 2) := by decide +kernel
theorem dX3_spread_39 : decode cX3_spread 39 = .ok (.lload_n 2, 1) := by decide +kernel
theorem dX3_spread_40 : decode cX3_spread 40 = .ok (.invokevirtual 71, 3) := by decide +kernel
theorem dX3_spread_43 : decode cX3_spread 43 = .ok (.istore 6, 2) := by decide +kernel
theorem dX3_spread_45 : decode cX3_spread 45 = .ok (.iinc 8 1, 3) := by decide +kernel
theorem dX3_spread_48 : decode cX3_spread 48 = .ok (.goto (-30), 3) := by decide +kernel
theorem dX3_spread_51 : decode cX3_spread 51 = .ok (.iload 6, 2) := by decide +kernel
theorem dX3_spread_53 : decode cX3_spread 53 = .ok (.ireturn, 1) := by decide +kernel
def wz_X3_spread : List Cond := .code yX3_spread cX3_spread 9 (some .int) :: ([Cond.methodLink RX3 42 Lib.Math.min.name, Cond.static Lib.Math.min.name, Cond.initialized "java/lang/Math", Cond.code Lib.Math.min.name Lib.Math.min.code 2 (some .int), Cond.methodLink RX3 71 yX3_grow, Cond.instanceMethod yX3_grow, Cond.selects RX3 yX3_grow yX3_grow, Cond.initialized RX3, Cond.code yX3_grow cX3_grow 6 (some .int), Cond.fieldLink RX3 9 "HedgeMaze$Plan" "wide" "I"] ++ wsX30)
theorem wd_X3_spread_0 : Cond.methodLink RX3 42 Lib.Math.min.name ∈ wz_X3_spread := List.mem_of_getElem? (i := 1) rfl
theorem wd_X3_spread_1 : Cond.static Lib.Math.min.name ∈ wz_X3_spread := List.mem_of_getElem? (i := 2) rfl
theorem wd_X3_spread_2 : Cond.initialized "java/lang/Math" ∈ wz_X3_spread := List.mem_of_getElem? (i := 3) rfl
theorem wd_X3_spread_3 : Cond.code Lib.Math.min.name Lib.Math.min.code 2 (some .int) ∈ wz_X3_spread := List.mem_of_getElem? (i := 4) rfl
set_option maxRecDepth 20000 in
theorem g_X3_spread_X3_grow : GoodIn wz_X3_spread (wsV RX3 71 RX3 yX3_grow wz_X3_grow) := goodIn_r _ [5, 6, 7, 8, 9, 10, 11, 12, 13, 14, 15, 16, 17, 18, 19] rfl (by decide +kernel)
set_option maxHeartbeats 4000000 in
set_option maxRecDepth 100000 in
theorem c_X3_spread (l : Launch) (dC : Nat → ClassId) (dI : Nat → Nat → Nat) (sz : Nat) (pl : Nat) (plw : Int32) (pld : Int32) (plc : Int32) (pls : Int32) (plm : Int64) (plf : Nat) (plo : Nat) (plb : Nat) (pla : Nat) (p0 : Int32) (p1 : Int64) (p2 : Int32)  : Met l yX3_spread wz_X3_spread ({ frames := 1, cells := 0, slots := 0, locals := 40 }) (va_Pc [.ref pl, .int p0, .long p1, .int p2] (fun U => U.heap.size = sz ∧ va_P (dC, dI) vwCl [(pl, .inr (3, [.int plw, .int pld, .int plc, .int pls, .long plm, .ref plf, .ref plo, .ref plb, .ref pla]))] U.heap ∧ va_K (dC, dI) vwCl [] U ∧ va_D (fun _ => True) [(pl, .inr (3, [.int plw, .int pld, .int plc, .int pls, .long plm, .ref plf, .ref plo, .ref plb, .ref pla]))])) (va_Qi (fun (r : Int32) (u : Unit) => True) (fun (u : Unit) (t : State) => va_P (dC, dI) vwCl [(pl, .inr (3, [.int plw, .int pld, .int plc, .int pls, .long plm, .ref plf, .ref plo, .ref plb, .ref pla]))] t.heap ∧ va_K (dC, dI) vwCl [] t ∧ va_D (va_A [(pl, .inr (3, [.int plw, .int pld, .int plc, .int pls, .long plm, .ref plf, .ref plo, .ref plb, .ref pla]))] sz) [(pl, .inr (3, [.int plw, .int pld, .int plc, .int pls, .long plm, .ref plf, .ref plo, .ref plb, .ref pla]))]) (va_A [(pl, .inr (3, [.int plw, .int pld, .int plc, .int pls, .long plm, .ref plf, .ref plo, .ref plb, .ref pla]))] sz)) 0 0 (va_A [(pl, .inr (3, [.int plw, .int pld, .int plc, .int pls, .long plm, .ref plf, .ref plo, .ref plb, .ref pla]))] sz) := by
  refine Met.ofW (cc := cX3_spread) (maxL := 9) (ret := (some .int)) (by decide) rfl ?_
  intro p e s m args below meth c s₁ B hml hv
  obtain ⟨rfl, hsz, hP, hK, hD0⟩ := hv
  have hx := B.exec
  have hb := B.bytes
  have hr := B.returns
  have hts := atoms_spec (ws := wz_X3_spread) B.pre
  have hown : s.vm.findClass RX3 = some m.cls := findClass_of_methodNamed B.named
  have hlocks := B.notSynchronized
  subst hsz
  have hD := hD0.self (sz := s.heap.size)
  generalize hAe : va_A [(pl, .inr (3, [.int plw, .int pld, .int plc, .int pls, .long plm, .ref plf, .ref plo, .ref plb, .ref pla]))] s.heap.size = A at hD ⊢
  have hA : ∀ q : Nat, s.heap.size ≤ q → A q := fun q h => by rw [← hAe]; exact Or.inr h
  have hS : va_S A s.heap s.heap [] := va_S.rf
  have hP : va_P (dC, dI) vwCl [(pl, .inr (3, [.int plw, .int pld, .int plc, .int pls, .long plm, .ref plf, .ref plo, .ref plb, .ref pla]))] s.heap := hP
  have hl := lv_entry ([.ref pl, .int p0, .long p1, .int p2]) (n := 9) (Nat.le_of_ble_eq_true rfl)
  rw [lg_entry_eq]
  generalize (lg_sl ([.ref pl, .int p0, .long p1, .int p2]) ++ List.replicate (9 - (lg_sl ([.ref pl, .int p0, .long p1, .int p2])).length) Slot.unset).toArray = ls at hl ⊢
  have hl : lv_has ls 9 [(0, .ref pl), (1, .int p0), (2, .long p1), (4, .int p2)] := hl
  refine lv_iconst (v := 0) hx hb dX3_spread_0 (by decide) ?_
  refine lv_istore (lv' := [(5, .int 0), (0, .ref pl), (1, .int p0), (2, .long p1), (4, .int p2)]) hx hb dX3_spread_1 hl (by decide) rfl (fun ls hl => ?_)
  refine lv_iload_n hx hb dX3_spread_3 rfl (lv_at hl 2 rfl) ?_
  refine lv_istore (lv' := [(6, .int p0), (5, .int 0), (0, .ref pl), (1, .int p0), (2, .long p1), (4, .int p2)]) hx hb dX3_spread_4 hl (by decide) rfl (fun ls hl => ?_)
  refine lv_iload hx hb dX3_spread_6 (lv_at hl 5 rfl) ?_
  refine lv_bipush (v := 25) hx hb dX3_spread_8 (by decide) ?_
  refine va_mmin hx hb (hml.trans hl.1.symm) hown (hts _ wd_X3_spread_0) (hts _ wd_X3_spread_1) (hts _ wd_X3_spread_2) (hts _ wd_X3_spread_3) (Nat.le_of_ble_eq_true rfl) (Nat.le_of_ble_eq_true rfl) (Nat.le_of_ble_eq_true rfl) (Nat.le_of_ble_eq_true rfl) dX3_spread_10 ?_
  refine lv_topi (fun x_1 ex_1 => ?_)
  have hx_1 : x_1.toInt ≤ p2.toInt ∧ x_1.toInt ≤ 25 ∧ (x_1.toInt = p2.toInt ∨ x_1.toInt = 25) := i_minz rfl (by decide) ex_1
  refine lv_istore (lv' := [(7, .int x_1), (6, .int p0), (5, .int 0), (0, .ref pl), (1, .int p0), (2, .long p1), (4, .int p2)]) hx hb dX3_spread_13 hl (by decide) rfl (fun ls hl => ?_)
  refine lv_iconst (v := 0) hx hb dX3_spread_15 (by decide) ?_
  refine lv_istore (lv' := [(8, .int 0), (7, .int x_1), (6, .int p0), (5, .int 0), (0, .ref pl), (1, .int p0), (2, .long p1), (4, .int p2)]) hx hb dX3_spread_16 hl (by decide) rfl (fun ls hl => ?_)
  refine lp_W (I := fun (a : Int32 × Int32 × Int32) H locs ls => (0 ≤ a.1.toInt ∧ (a.1.toInt ≤ 25)) ∧ va_P (dC, dI) vwCl [(pl, .inr (3, [.int plw, .int pld, .int plc, .int pls, .long plm, .ref plf, .ref plo, .ref plb, .ref pla]))] H ∧ va_D A [(pl, .inr (3, [.int plw, .int pld, .int plc, .int pls, .long plm, .ref plf, .ref plo, .ref plb, .ref pla]))] ∧ va_S A s.heap H locs ∧ lv_has ls 9 [(8, .int a.1), (7, .int x_1), (6, .int a.2.2), (5, .int a.2.1), (0, .ref pl), (1, .int p0), (2, .long p1), (4, .int p2)]) (μ := fun a => (26 - a.1.toInt).toNat) ?_ ((0 : Int32), (0 : Int32), p0) ⟨(by have k0 : (0 : Int32).toInt = 0 := (by decide); (try dsimp only); omega), hP.sub [0] rfl, hD.sub [0] (by decide) rfl, hS, lv_sub hl [0, 1, 2, 3, 4, 5, 6, 7] rfl⟩
  intro a H locs ls hI ih18
  obtain ⟨st, bf, re⟩ := a
  obtain ⟨h_st, hP, hD, hS, hl⟩ := hI
  have h_st : 0 ≤ st.toInt ∧ (st.toInt ≤ 25) := h_st
  have hP : va_P (dC, dI) vwCl [(pl, .inr (3, [.int plw, .int pld, .int plc, .int pls, .long plm, .ref plf, .ref plo, .ref plb, .ref pla]))] H := hP
  have hD : va_D A [(pl, .inr (3, [.int plw, .int pld, .int plc, .int pls, .long plm, .ref plf, .ref plo, .ref plb, .ref pla]))] := hD
  have hl : lv_has ls 9 [(8, .int st), (7, .int x_1), (6, .int re), (5, .int bf), (0, .ref pl), (1, .int p0), (2, .long p1), (4, .int p2)] := hl
  refine lv_iload hx hb dX3_spread_18 (lv_at hl 0 rfl) ?_
  refine lv_iload hx hb dX3_spread_20 (lv_at hl 1 rfl) ?_
  refine lv_icmp_ge (tgt := 51) hx hb dX3_spread_22 (by decide) (fun c_2 => ?_) (fun c_2 => ?_)
  · have c_2 : x_1.toInt ≤ st.toInt := i_le (a := x_1) (b := st) rfl rfl c_2
    refine lv_iload hx hb dX3_spread_51 (lv_at hl 2 rfl) ?_
    have hP9 := hP.sub (ws' := [(pl, .inr (3, [.int plw, .int pld, .int plc, .int pls, .long plm, .ref plf, .ref plo, .ref plb, .ref pla]))]) [0] rfl
    have hD9 := hD.sub (ws' := [(pl, .inr (3, [.int plw, .int pld, .int plc, .int pls, .long plm, .ref plf, .ref plo, .ref plb, .ref pla]))]) [0] (by decide) rfl
    have hK9 := hK.sub (tys' := []) [] rfl
    refine W.widen (k := 0) (n := 0) (by omega) (by omega) ?_
    exact W.iret (v := re) hx hb hr (fun t ht hW => ⟨⟨re, (), rfl, trivial, by rw [ht]; exact hP9, va_K.moved hW.alike hK9, hD9⟩, hS.F ht⟩) hS.2.2 dX3_spread_53
  · have c_2 : st.toInt < x_1.toInt := i_nle (a := x_1) (b := st) rfl rfl c_2
    refine lv_iload hx hb dX3_spread_25 (lv_at hl 2 rfl) ?_
    refine lv_iload hx hb dX3_spread_27 (lv_at hl 3 rfl) ?_
    refine lv_icmp_eq (tgt := 51) hx hb dX3_spread_29 (by decide) (fun c_3 => ?_) (fun c_3 => ?_)
    · have c_3 : re.toInt = bf.toInt := i_eq (a := re) (b := bf) rfl rfl c_3
      refine lv_iload hx hb dX3_spread_51 (lv_at hl 2 rfl) ?_
      have hP9 := hP.sub (ws' := [(pl, .inr (3, [.int plw, .int pld, .int plc, .int pls, .long plm, .ref plf, .ref plo, .ref plb, .ref pla]))]) [0] rfl
      have hD9 := hD.sub (ws' := [(pl, .inr (3, [.int plw, .int pld, .int plc, .int pls, .long plm, .ref plf, .ref plo, .ref plb, .ref pla]))]) [0] (by decide) rfl
      have hK9 := hK.sub (tys' := []) [] rfl
      refine W.widen (k := 0) (n := 0) (by omega) (by omega) ?_
      exact W.iret (v := re) hx hb hr (fun t ht hW => ⟨⟨re, (), rfl, trivial, by rw [ht]; exact hP9, va_K.moved hW.alike hK9, hD9⟩, hS.F ht⟩) hS.2.2 dX3_spread_53
    · have c_3 : re.toInt ≠ bf.toInt := i_ne (a := re) (b := bf) rfl rfl c_3
      refine lv_iload hx hb dX3_spread_32 (lv_at hl 2 rfl) ?_
      refine lv_istore (lv' := [(5, .int re), (8, .int st), (7, .int x_1), (6, .int re), (0, .ref pl), (1, .int p0), (2, .long p1), (4, .int p2)]) hx hb dX3_spread_34 hl (by decide) rfl (fun ls hl => ?_)
      refine lv_aload_n hx hb dX3_spread_36 rfl (lv_at hl 4 rfl) ?_
      refine lv_iload hx hb dX3_spread_37 (lv_at hl 3 rfl) ?_
      refine lv_lload_n hx hb dX3_spread_39 rfl (lv_at hl 6 rfl) ?_
      have hPc := hP.sub (ws' := [(pl, .inr (3, [.int plw, .int pld, .int plc, .int pls, .long plm, .ref plf, .ref plo, .ref plb, .ref pla]))]) [0] rfl
      have hDc := hD.sub (ws' := [(pl, .inr (3, [.int plw, .int pld, .int plc, .int pls, .long plm, .ref plf, .ref plo, .ref plb, .ref pla]))]) [0] (by decide) rfl
      have hKc := hK.sub (tys' := []) [] rfl
      have hFc := va_free (wc := [(pl, .inr (3, [.int plw, .int pld, .int plc, .int pls, .long plm, .ref plf, .ref plo, .ref plb, .ref pla]))]) hD hS hA [0] rfl
      refine va_calli (va_runV (As := [.int re, .long p1]) (rest := []) ⟨hx, hb, hml, hown, hts⟩ (c_X3_grow l dC dI H.size pl plw pld plc pls plm plf plo plb pla re p1 ) (cwV 2 hts g_X3_spread_X3_grow rfl rfl rfl (by decide +kernel) ⟨Nat.le_of_ble_eq_true rfl, Nat.le_of_ble_eq_true rfl⟩) ⟨fun a U g mk q => by obtain ⟨q0, q1, qP, qK, qD⟩ := q; exact ⟨q0, q1, qP, va_K.moved (u := U) (U := U.calling g mk a) (Vm.Alike.refl U.vm) qK, qD⟩, va_recv hKc hPc (ci := 3) (q0 := 0) rfl rfl, fun U hU hW => ⟨rfl, by rw [hU], by rw [hU]; exact hPc, va_K.moved hW.alike hKc, hDc.weaken (fun _ _ _ _ => trivial)⟩⟩ rfl rfl hl.1 rfl (lv_room (Nat.le_of_ble_eq_true rfl)) dX3_spread_40 ⟨Nat.le_of_ble_eq_true rfl, Nat.le_of_ble_eq_true rfl⟩) hS (fun q _ h => hFc q h) hFc (fun r_4 u t H1 locs ht hvm hw_5 hB hz1 hk1 hS => ?_)
      obtain ⟨hP1, hK1, hD1⟩ := hB
      have hP1 : va_P (dC, dI) vwCl [(pl, .inr (3, [.int plw, .int pld, .int plc, .int pls, .long plm, .ref plf, .ref plo, .ref plb, .ref pla]))] t.heap := hP1
      rw [ht] at hP1
      try dsimp only at hw_5
      obtain ⟨hP, hD⟩ := va_join (wr := []) (w1 := [(pl, .inr (3, [.int plw, .int pld, .int plc, .int pls, .long plm, .ref plf, .ref plo, .ref plb, .ref pla]))]) hP hD [0] [] rfl rfl (by decide) (by decide) hk1 hFc hP1 hD1
      generalize H1 = H at hP hS ⊢
      have hP : va_P (dC, dI) vwCl [(pl, .inr (3, [.int plw, .int pld, .int plc, .int pls, .long plm, .ref plf, .ref plo, .ref plb, .ref pla]))] H := hP
      have hD : va_D A [(pl, .inr (3, [.int plw, .int pld, .int plc, .int pls, .long plm, .ref plf, .ref plo, .ref plb, .ref pla]))] := hD
      refine lv_istore (lv' := [(6, .int r_4), (5, .int re), (8, .int st), (7, .int x_1), (0, .ref pl), (1, .int p0), (2, .long p1), (4, .int p2)]) hx hb dX3_spread_43 hl (by decide) rfl (fun ls hl => ?_)
      obtain ⟨x_6, ex_6⟩ : ∃ y9 : Int32, y9 = st + Int32.ofInt 1 := ⟨_, rfl⟩
      have zx_6 : x_6.toInt = st.toInt + 1 := by rw [ex_6]; exact i_add rfl (show (Int32.ofInt 1).toInt = 1 by decide) (by omega) (by omega)
      refine lv_iinc (v := x_6) (lv' := [(8, .int x_6), (6, .int r_4), (5, .int re), (7, .int x_1), (0, .ref pl), (1, .int p0), (2, .long p1), (4, .int p2)]) hx hb dX3_spread_45 hl (k := 2) rfl (by rw [ex_6]) (by decide) rfl (fun ls hl => ?_)
      refine lv_goto (tgt := 18) hx hb dX3_spread_48 (by decide) ?_
      exact ih18 (x_6, re, r_4) _ _ _ ⟨(by (try dsimp only); omega), hP.sub [0] rfl, hD.sub [0] (by decide) rfl, hS, lv_sub hl [0, 3, 1, 2, 4, 5, 6, 7] rfl⟩ (by (try dsimp only); omega)

theorem dX3_stepsBetween_0 : decode cX3_stepsBetween 0 = .ok (.iload_n 1, 1) := by decide +kernel
theorem dX3_stepsBetween_1 : decode cX3_stepsBetween 1 = .ok (.istore 5, 2) := by decide +kernel
theorem dX3_stepsBetween_3 : decode cX3_stepsBetween 3 = .ok (.iconst 0, 1) := by decide +kernel
theorem dX3_stepsBetween_4 : decode cX3_stepsBetween 4 = .ok (.istore 6, 2) := by decide +kernel
theorem dX3_stepsBetween_6 : decode cX3_stepsBetween 6 = .ok (.iload 6, 2) := by decide +kernel
theorem dX3_stepsBetween_8 : decode cX3_stepsBetween 8 = .ok (.bipush 25, 2) := by decide +kernel
theorem dX3_stepsBetween_10 : decode cX3_stepsBetween 10 = .ok (.if_icmp .ge 41, 3) := by decide +kernel
theorem dX3_stepsBetween_13 : decode cX3_stepsBetween 13 = .ok (.iload 5, 2) := by decide +kernel
theorem dX3_stepsBetween_15 : decode cX3_stepsBetween 15 = .ok (.iload_n 2, 1) := by decide +kernel
theorem dX3_stepsBetween_16 : decode cX3_stepsBetween 16 = .ok (.iand, 1) := by decide +kernel
theorem dX3_stepsBetween_17 : decode cX3_stepsBetween 17 = .ok (.ifCond .eq 6, 3) := by decide +kernel
theorem dX3_stepsBetween_20 : decode cX3_stepsBetween 20 = .ok (.iload 6, 2) := by decide +kernel
theorem dX3_stepsBetween_22 : decode cX3_stepsBetween 22 = .ok (.ireturn, 1) := by decide +kernel
theorem dX3_stepsBetween_23 : decode cX3_stepsBetween 23 = .ok (.aload_n 0, 1) := by decide +kernel
theorem dX3_stepsBetween_24 : decode cX3_stepsBetween 24 = .ok (.iload 5, 2) := by decide +kernel
theorem dX3_stepsBetween_26 : decode cX3_stepsBetween 26 = .ok (.lload_n 3, 1) := by decide +kernel
theorem dX3_stepsBetween_27 : decode cX3_stepsBetween 27 = .ok (.invokevirtual 71, 3) := by decide +kernel
theorem dX3_stepsBetween_30 : decode cX3_stepsBetween 30 = .ok (.istore 7, 2) := by decide +kernel
theorem dX3_stepsBetween_32 : decode cX3_stepsBetween 32 = .ok (.iload 7, 2) := by decide +kernel
theorem dX3_stepsBetween_34 : decode cX3_stepsBetween 34 = .ok (.iload 5, 2) := by decide +kernel
theorem dX3_stepsBetween_36 : decode cX3_stepsBetween 36 = .ok (.if_icmp .ne 5, 3) := by decide +kernel
theorem dX3_stepsBetween_39 : decode cX3_stepsBetween 39 = .ok (.iconst (-1), 1) := by decide +kernel
theorem dX3_stepsBetween_40 : decode cX3_stepsBetween 40 = .ok (.ireturn, 1) := by decide +kernel
theorem dX3_stepsBetween_41 : decode cX3_stepsBetween 41 = .ok (.iload 7, 2) := by decide +kernel
theorem dX3_stepsBetween_43 : decode cX3_stepsBetween 43 = .ok (.istore 5, 2) := by decide +kernel
theorem dX3_stepsBetween_45 : decode cX3_stepsBetween 45 = .ok (.iinc 6 1, 3) := by decide +kernel
theorem dX3_stepsBetween_48 : decode cX3_stepsBetween 48 = .ok (.goto (-42), 3) := by decide +kernel
theorem dX3_stepsBetween_51 : decode cX3_stepsBetween 51 = .ok (.iconst (-1), 1) := by decide +kernel
theorem dX3_stepsBetween_52 : decode cX3_stepsBetween 52 = .ok (.ireturn, 1) := by decide +kernel
def wz_X3_stepsBetween : List Cond := .code yX3_stepsBetween cX3_stepsBetween 8 (some .int) :: ([Cond.methodLink RX3 71 yX3_grow, Cond.instanceMethod yX3_grow, Cond.selects RX3 yX3_grow yX3_grow, Cond.initialized RX3, Cond.code yX3_grow cX3_grow 6 (some .int), Cond.fieldLink RX3 9 "HedgeMaze$Plan" "wide" "I"] ++ wsX30)
set_option maxRecDepth 20000 in
theorem g_X3_stepsBetween_X3_grow : GoodIn wz_X3_stepsBetween (wsV RX3 71 RX3 yX3_grow wz_X3_grow) := goodIn_r _ [1, 2, 3, 4, 5, 6, 7, 8, 9, 10, 11, 12, 13, 14, 15] rfl (by decide +kernel)
set_option maxHeartbeats 4000000 in
set_option maxRecDepth 100000 in
theorem c_X3_stepsBetween (l : Launch) (dC : Nat → ClassId) (dI : Nat → Nat → Nat) (sz : Nat) (pl : Nat) (plw : Int32) (pld : Int32) (plc : Int32) (pls : Int32) (plm : Int64) (plf : Nat) (plo : Nat) (plb : Nat) (pla : Nat) (p0 : Int32) (p1 : Int32) (p2 : Int64)  : Met l yX3_stepsBetween wz_X3_stepsBetween ({ frames := 1, cells := 0, slots := 0, locals := 25 }) (va_Pc [.ref pl, .int p0, .int p1, .long p2] (fun U => U.heap.size = sz ∧ va_P (dC, dI) vwCl [(pl, .inr (3, [.int plw, .int pld, .int plc, .int pls, .long plm, .ref plf, .ref plo, .ref plb, .ref pla]))] U.heap ∧ va_K (dC, dI) vwCl [] U ∧ va_D (fun _ => True) [(pl, .inr (3, [.int plw, .int pld, .int plc, .int pls, .long plm, .ref plf, .ref plo, .ref plb, .ref pla]))])) (va_Qi (fun (r : Int32) (u : Unit) => True) (fun (u : Unit) (t : State) => va_P (dC, dI) vwCl [(pl, .inr (3, [.int plw, .int pld, .int plc, .int pls, .long plm, .ref plf, .ref plo, .ref plb, .ref pla]))] t.heap ∧ va_K (dC, dI) vwCl [] t ∧ va_D (va_A [(pl, .inr (3, [.int plw, .int pld, .int plc, .int pls, .long plm, .ref plf, .ref plo, .ref plb, .ref pla]))] sz) [(pl, .inr (3, [.int plw, .int pld, .int plc, .int pls, .long plm, .ref plf, .ref plo, .ref plb, .ref pla]))]) (va_A [(pl, .inr (3, [.int plw, .int pld, .int plc, .int pls, .long plm, .ref plf, .ref plo, .ref plb, .ref pla]))] sz)) 0 0 (va_A [(pl, .inr (3, [.int plw, .int pld, .int plc, .int pls, .long plm, .ref plf, .ref plo, .ref plb, .ref pla]))] sz) := by
  refine Met.ofW (cc := cX3_stepsBetween) (maxL := 8) (ret := (some .int)) (by decide) rfl ?_
  intro p e s m args below meth c s₁ B hml hv
  obtain ⟨rfl, hsz, hP, hK, hD0⟩ := hv
  have hx := B.exec
  have hb := B.bytes
  have hr := B.returns
  have hts := atoms_spec (ws := wz_X3_stepsBetween) B.pre
  have hown : s.vm.findClass RX3 = some m.cls := findClass_of_methodNamed B.named
  have hlocks := B.notSynchronized
  subst hsz
  have hD := hD0.self (sz := s.heap.size)
  generalize hAe : va_A [(pl, .inr (3, [.int plw, .int pld, .int plc, .int pls, .long plm, .ref plf, .ref plo, .ref plb, .ref pla]))] s.heap.size = A at hD ⊢
  have hA : ∀ q : Nat, s.heap.size ≤ q → A q := fun q h => by rw [← hAe]; exact Or.inr h
  have hS : va_S A s.heap s.heap [] := va_S.rf
  have hP : va_P (dC, dI) vwCl [(pl, .inr (3, [.int plw, .int pld, .int plc, .int pls, .long plm, .ref plf, .ref plo, .ref plb, .ref pla]))] s.heap := hP
  have hl := lv_entry ([.ref pl, .int p0, .int p1, .long p2]) (n := 8) (Nat.le_of_ble_eq_true rfl)
  rw [lg_entry_eq]
  generalize (lg_sl ([.ref pl, .int p0, .int p1, .long p2]) ++ List.replicate (8 - (lg_sl ([.ref pl, .int p0, .int p1, .long p2])).length) Slot.unset).toArray = ls at hl ⊢
  have hl : lv_has ls 8 [(0, .ref pl), (1, .int p0), (2, .int p1), (3, .long p2)] := hl
  refine lv_iload_n hx hb dX3_stepsBetween_0 rfl (lv_at hl 1 rfl) ?_
  refine lv_istore (lv' := [(5, .int p0), (0, .ref pl), (1, .int p0), (2, .int p1), (3, .long p2)]) hx hb dX3_stepsBetween_1 hl (by decide) rfl (fun ls hl => ?_)
  refine lv_iconst (v := 0) hx hb dX3_stepsBetween_3 (by decide) ?_
  refine lv_istore (lv' := [(6, .int 0), (5, .int p0), (0, .ref pl), (1, .int p0), (2, .int p1), (3, .long p2)]) hx hb dX3_stepsBetween_4 hl (by decide) rfl (fun ls hl => ?_)
  refine lp_W (I := fun (a : Int32 × Int32) H locs ls => (0 ≤ a.1.toInt ∧ a.1.toInt ≤ 25) ∧ va_P (dC, dI) vwCl [(pl, .inr (3, [.int plw, .int pld, .int plc, .int pls, .long plm, .ref plf, .ref plo, .ref plb, .ref pla]))] H ∧ va_D A [(pl, .inr (3, [.int plw, .int pld, .int plc, .int pls, .long plm, .ref plf, .ref plo, .ref plb, .ref pla]))] ∧ va_S A s.heap H locs ∧ lv_has ls 8 [(6, .int a.1), (5, .int a.2), (0, .ref pl), (1, .int p0), (2, .int p1), (3, .long p2)]) (μ := fun a => (25 - a.1.toInt).toNat) ?_ ((0 : Int32), p0) ⟨(by have k0 : (0 : Int32).toInt = 0 := (by decide); (try dsimp only); omega), hP.sub [0] rfl, hD.sub [0] (by decide) rfl, hS, lv_sub hl [0, 1, 2, 3, 4, 5] rfl⟩
  intro a H locs ls hI ih6
  obtain ⟨st, re⟩ := a
  obtain ⟨h_st, hP, hD, hS, hl⟩ := hI
  have h_st : 0 ≤ st.toInt ∧ st.toInt ≤ 25 := h_st
  have hP : va_P (dC, dI) vwCl [(pl, .inr (3, [.int plw, .int pld, .int plc, .int pls, .long plm, .ref plf, .ref plo, .ref plb, .ref pla]))] H := hP
  have hD : va_D A [(pl, .inr (3, [.int plw, .int pld, .int plc, .int pls, .long plm, .ref plf, .ref plo, .ref plb, .ref pla]))] := hD
  have hl : lv_has ls 8 [(6, .int st), (5, .int re), (0, .ref pl), (1, .int p0), (2, .int p1), (3, .long p2)] := hl
  refine lv_iload hx hb dX3_stepsBetween_6 (lv_at hl 0 rfl) ?_
  refine lv_bipush (v := 25) hx hb dX3_stepsBetween_8 (by decide) ?_
  refine lv_icmp_ge (tgt := 51) hx hb dX3_stepsBetween_10 (by decide) (fun c_1 => ?_) (fun c_1 => ?_)
  · have c_1 : 25 ≤ st.toInt := i_le (a := 25) (b := st) (by decide) rfl c_1
    refine lv_iconst (v := -1) hx hb dX3_stepsBetween_51 (by decide) ?_
    have hP9 := hP.sub (ws' := [(pl, .inr (3, [.int plw, .int pld, .int plc, .int pls, .long plm, .ref plf, .ref plo, .ref plb, .ref pla]))]) [0] rfl
    have hD9 := hD.sub (ws' := [(pl, .inr (3, [.int plw, .int pld, .int plc, .int pls, .long plm, .ref plf, .ref plo, .ref plb, .ref pla]))]) [0] (by decide) rfl
    have hK9 := hK.sub (tys' := []) [] rfl
    refine W.widen (k := 0) (n := 0) (by omega) (by omega) ?_
    exact W.iret (v := -1) hx hb hr (fun t ht hW => ⟨⟨(-1), (), rfl, trivial, by rw [ht]; exact hP9, va_K.moved hW.alike hK9, hD9⟩, hS.F ht⟩) hS.2.2 dX3_stepsBetween_52
  · have c_1 : st.toInt < 25 := i_nle (a := 25) (b := st) (by decide) rfl c_1
    refine lv_iload hx hb dX3_stepsBetween_13 (lv_at hl 1 rfl) ?_
    refine lv_iload_n hx hb dX3_stepsBetween_15 rfl (lv_at hl 4 rfl) ?_
    refine lv_iand hx hb dX3_stepsBetween_16 ?_
    refine lv_topi (fun x_2 ex_2 => ?_)
    refine lv_if_eq (tgt := 23) hx hb dX3_stepsBetween_17 (by decide) (fun c_3 => ?_) (fun c_3 => ?_)
    · have c_3 : x_2.toInt = 0 := i_eq (a := x_2) (b := 0) rfl (by decide) c_3
      refine lv_aload_n hx hb dX3_stepsBetween_23 rfl (lv_at hl 2 rfl) ?_
      refine lv_iload hx hb dX3_stepsBetween_24 (lv_at hl 1 rfl) ?_
      refine lv_lload_n hx hb dX3_stepsBetween_26 rfl (lv_at hl 5 rfl) ?_
      have hPc := hP.sub (ws' := [(pl, .inr (3, [.int plw, .int pld, .int plc, .int pls, .long plm, .ref plf, .ref plo, .ref plb, .ref pla]))]) [0] rfl
      have hDc := hD.sub (ws' := [(pl, .inr (3, [.int plw, .int pld, .int plc, .int pls, .long plm, .ref plf, .ref plo, .ref plb, .ref pla]))]) [0] (by decide) rfl
      have hKc := hK.sub (tys' := []) [] rfl
      have hFc := va_free (wc := [(pl, .inr (3, [.int plw, .int pld, .int plc, .int pls, .long plm, .ref plf, .ref plo, .ref plb, .ref pla]))]) hD hS hA [0] rfl
      refine va_calli (va_runV (As := [.int re, .long p2]) (rest := []) ⟨hx, hb, hml, hown, hts⟩ (c_X3_grow l dC dI H.size pl plw pld plc pls plm plf plo plb pla re p2 ) (cwV 2 hts g_X3_stepsBetween_X3_grow rfl rfl rfl (by decide +kernel) ⟨Nat.le_of_ble_eq_true rfl, Nat.le_of_ble_eq_true rfl⟩) ⟨fun a U g mk q => by obtain ⟨q0, q1, qP, qK, qD⟩ := q; exact ⟨q0, q1, qP, va_K.moved (u := U) (U := U.calling g mk a) (Vm.Alike.refl U.vm) qK, qD⟩, va_recv hKc hPc (ci := 3) (q0 := 0) rfl rfl, fun U hU hW => ⟨rfl, by rw [hU], by rw [hU]; exact hPc, va_K.moved hW.alike hKc, hDc.weaken (fun _ _ _ _ => trivial)⟩⟩ rfl rfl hl.1 rfl (lv_room (Nat.le_of_ble_eq_true rfl)) dX3_stepsBetween_27 ⟨Nat.le_of_ble_eq_true rfl, Nat.le_of_ble_eq_true rfl⟩) hS (fun q _ h => hFc q h) hFc (fun r_4 u t H1 locs ht hvm hw_5 hB hz1 hk1 hS => ?_)
      obtain ⟨hP1, hK1, hD1⟩ := hB
      have hP1 : va_P (dC, dI) vwCl [(pl, .inr (3, [.int plw, .int pld, .int plc, .int pls, .long plm, .ref plf, .ref plo, .ref plb, .ref pla]))] t.heap := hP1
      rw [ht] at hP1
      try dsimp only at hw_5
      obtain ⟨hP, hD⟩ := va_join (wr := []) (w1 := [(pl, .inr (3, [.int plw, .int pld, .int plc, .int pls, .long plm, .ref plf, .ref plo, .ref plb, .ref pla]))]) hP hD [0] [] rfl rfl (by decide) (by decide) hk1 hFc hP1 hD1
      generalize H1 = H at hP hS ⊢
      have hP : va_P (dC, dI) vwCl [(pl, .inr (3, [.int plw, .int pld, .int plc, .int pls, .long plm, .ref plf, .ref plo, .ref plb, .ref pla]))] H := hP
      have hD : va_D A [(pl, .inr (3, [.int plw, .int pld, .int plc, .int pls, .long plm, .ref plf, .ref plo, .ref plb, .ref pla]))] := hD
      refine lv_istore (lv' := [(7, .int r_4), (6, .int st), (5, .int re), (0, .ref pl), (1, .int p0), (2, .int p1), (3, .long p2)]) hx hb dX3_stepsBetween_30 hl (by decide) rfl (fun ls hl => ?_)
      refine lv_iload hx hb dX3_stepsBetween_32 (lv_at hl 0 rfl) ?_
      refine lv_iload hx hb dX3_stepsBetween_34 (lv_at hl 2 rfl) ?_
      refine lv_icmp_ne (tgt := 41) hx hb dX3_stepsBetween_36 (by decide) (fun c_6 => ?_) (fun c_6 => ?_)
      · have c_6 : r_4.toInt ≠ re.toInt := i_ne (a := r_4) (b := re) rfl rfl c_6
        refine lv_iload hx hb dX3_stepsBetween_41 (lv_at hl 0 rfl) ?_
        refine lv_istore (lv' := [(5, .int r_4), (7, .int r_4), (6, .int st), (0, .ref pl), (1, .int p0), (2, .int p1), (3, .long p2)]) hx hb dX3_stepsBetween_43 hl (by decide) rfl (fun ls hl => ?_)
        obtain ⟨x_7, ex_7⟩ : ∃ y9 : Int32, y9 = st + Int32.ofInt 1 := ⟨_, rfl⟩
        have zx_7 : x_7.toInt = st.toInt + 1 := by rw [ex_7]; exact i_add rfl (show (Int32.ofInt 1).toInt = 1 by decide) (by omega) (by omega)
        refine lv_iinc (v := x_7) (lv' := [(6, .int x_7), (5, .int r_4), (7, .int r_4), (0, .ref pl), (1, .int p0), (2, .int p1), (3, .long p2)]) hx hb dX3_stepsBetween_45 hl (k := 2) rfl (by rw [ex_7]) (by decide) rfl (fun ls hl => ?_)
        refine lv_goto (tgt := 6) hx hb dX3_stepsBetween_48 (by decide) ?_
        exact ih6 (x_7, r_4) _ _ _ ⟨(by (try dsimp only); omega), hP.sub [0] rfl, hD.sub [0] (by decide) rfl, hS, lv_sub hl [0, 1, 3, 4, 5, 6] rfl⟩ (by (try dsimp only); omega)
      · have c_6 : r_4.toInt = re.toInt := i_eq (a := r_4) (b := re) rfl rfl c_6
        refine lv_iconst (v := -1) hx hb dX3_stepsBetween_39 (by decide) ?_
        have hP9 := hP.sub (ws' := [(pl, .inr (3, [.int plw, .int pld, .int plc, .int pls, .long plm, .ref plf, .ref plo, .ref plb, .ref pla]))]) [0] rfl
        have hD9 := hD.sub (ws' := [(pl, .inr (3, [.int plw, .int pld, .int plc, .int pls, .long plm, .ref plf, .ref plo, .ref plb, .ref pla]))]) [0] (by decide) rfl
        have hK9 := hK.sub (tys' := []) [] rfl
        refine W.widen (k := 0) (n := 0) (by omega) (by omega) ?_
        exact W.iret (v := -1) hx hb hr (fun t ht hW => ⟨⟨(-1), (), rfl, trivial, by rw [ht]; exact hP9, va_K.moved hW.alike hK9, hD9⟩, hS.F ht⟩) hS.2.2 dX3_stepsBetween_40
    · have c_3 : x_2.toInt ≠ 0 := i_ne (a := x_2) (b := 0) rfl (by decide) c_3
      refine lv_iload hx hb dX3_stepsBetween_20 (lv_at hl 0 rfl) ?_
      have hP9 := hP.sub (ws' := [(pl, .inr (3, [.int plw, .int pld, .int plc, .int pls, .long plm, .ref plf, .ref plo, .ref plb, .ref pla]))]) [0] rfl
      have hD9 := hD.sub (ws' := [(pl, .inr (3, [.int plw, .int pld, .int plc, .int pls, .long plm, .ref plf, .ref plo, .ref plb, .ref pla]))]) [0] (by decide) rfl
      have hK9 := hK.sub (tys' := []) [] rfl
      refine W.widen (k := 0) (n := 0) (by omega) (by omega) ?_
      exact W.iret (v := st) hx hb hr (fun t ht hW => ⟨⟨st, (), rfl, trivial, by rw [ht]; exact hP9, va_K.moved hW.alike hK9, hD9⟩, hS.F ht⟩) hS.2.2 dX3_stepsBetween_22

theorem dX3_hangsTogether_0 : decode cX3_hangsTogether 0 = .ok (.aload_n 0, 1) := by decide +kernel
theorem dX3_hangsTogether_1 : decode cX3_hangsTogether 1 = .ok (.iconst 1, 1) := by decide +kernel
theorem dX3_hangsTogether_2 : decode cX3_hangsTogether 2 = .ok (.lload_n 1, 1) := by decide +kernel
theorem dX3_hangsTogether_3 : decode cX3_hangsTogether 3 = .ok (.bipush 25, 2) := by decide +kernel
theorem dX3_hangsTogether_5 : decode cX3_hangsTogether 5 = .ok (.invokevirtual 75, 3) := by decide +kernel
theorem dX3_hangsTogether_8 : decode cX3_hangsTogether 8 = .ok (.aload_n 0, 1) := by decide +kernel
theorem dX3_hangsTogether_9 : decode cX3_hangsTogether 9 = .ok (.invokevirtual 79, 3) := by decide +kernel
theorem dX3_hangsTogether_12 : decode cX3_hangsTogether 12 = .ok (.if_icmp .ne 7, 3) := by decide +kernel
theorem dX3_hangsTogether_15 : decode cX3_hangsTogether 15 = .ok (.iconst 1, 1) := by decide +kernel
theorem dX3_hangsTogether_16 : decode cX3_hangsTogether 16 = .ok (.goto 4, 3) := by decide +kernel
theorem dX3_hangsTogether_19 : decode cX3_hangsTogether 19 = .ok (.iconst 0, 1) := by decide +kernel
theorem dX3_hangsTogether_20 : decode cX3_hangsTogether 20 = .ok (.ireturn, 1) := by decide +kernel
def wz_X3_hangsTogether : List Cond := .code yX3_hangsTogether cX3_hangsTogether 3 (some .boolean) :: ([Cond.methodLink RX3 75 yX3_spread, Cond.instanceMethod yX3_spread, Cond.selects RX3 yX3_spread yX3_spread, Cond.initialized RX3, Cond.code yX3_spread cX3_spread 9 (some .int), Cond.methodLink RX3 42 Lib.Math.min.name, Cond.static Lib.Math.min.name, Cond.initialized "java/lang/Math", Cond.code Lib.Math.min.name Lib.Math.min.code 2 (some .int), Cond.methodLink RX3 71 yX3_grow, Cond.instanceMethod yX3_grow, Cond.selects RX3 yX3_grow yX3_grow, Cond.code yX3_grow cX3_grow 6 (some .int), Cond.fieldLink RX3 9 "HedgeMaze$Plan" "wide" "I", Cond.methodLink RX3 79 yX3_allCells, Cond.instanceMethod yX3_allCells, Cond.selects RX3 yX3_allCells yX3_allCells, Cond.code yX3_allCells cX3_allCells 1 (some .int), Cond.fieldLink RX3 18 "HedgeMaze$Plan" "cellCount" "I"] ++ wsX30)
set_option maxRecDepth 20000 in
theorem g_X3_hangsTogether_X3_spread : GoodIn wz_X3_hangsTogether (wsV RX3 75 RX3 yX3_spread wz_X3_spread) := goodIn_r _ [1, 2, 3, 4, 5, 6, 7, 8, 9, 10, 11, 12, 4, 13, 14, 20, 21, 22, 23, 24, 25, 26, 27, 28] rfl (by decide +kernel)
set_option maxRecDepth 20000 in
theorem g_X3_hangsTogether_X3_allCells : GoodIn wz_X3_hangsTogether (wsV RX3 79 RX3 yX3_allCells wz_X3_allCells) := goodIn_r _ [15, 16, 17, 4, 18, 19, 20, 21, 22, 23, 24, 25, 26, 27, 28] rfl (by decide +kernel)
set_option maxHeartbeats 4000000 in
set_option maxRecDepth 100000 in
theorem c_X3_hangsTogether (l : Launch) (dC : Nat → ClassId) (dI : Nat → Nat → Nat) (sz : Nat) (pl : Nat) (plw : Int32) (pld : Int32) (plc : Int32) (pls : Int32) (plm : Int64) (plf : Nat) (plo : Nat) (plb : Nat) (pla : Nat) (p0 : Int64)  : Met l yX3_hangsTogether wz_X3_hangsTogether ({ frames := 2, cells := 0, slots := 0, locals := 68 }) (va_Pc [.ref pl, .long p0] (fun U => U.heap.size = sz ∧ va_P (dC, dI) vwCl [(pl, .inr (3, [.int plw, .int pld, .int plc, .int pls, .long plm, .ref plf, .ref plo, .ref plb, .ref pla]))] U.heap ∧ va_K (dC, dI) vwCl [] U ∧ va_D (fun _ => True) [(pl, .inr (3, [.int plw, .int pld, .int plc, .int pls, .long plm, .ref plf, .ref plo, .ref plb, .ref pla]))])) (va_Qi (fun (r : Int32) (u : Unit) => (r = 0 ∨ r = 1)) (fun (u : Unit) (t : State) => va_P (dC, dI) vwCl [(pl, .inr (3, [.int plw, .int pld, .int plc, .int pls, .long plm, .ref plf, .ref plo, .ref plb, .ref pla]))] t.heap ∧ va_K (dC, dI) vwCl [] t ∧ va_D (va_A [(pl, .inr (3, [.int plw, .int pld, .int plc, .int pls, .long plm, .ref plf, .ref plo, .ref plb, .ref pla]))] sz) [(pl, .inr (3, [.int plw, .int pld, .int plc, .int pls, .long plm, .ref plf, .ref plo, .ref plb, .ref pla]))]) (va_A [(pl, .inr (3, [.int plw, .int pld, .int plc, .int pls, .long plm, .ref plf, .ref plo, .ref plb, .ref pla]))] sz)) 0 0 (va_A [(pl, .inr (3, [.int plw, .int pld, .int plc, .int pls, .long plm, .ref plf, .ref plo, .ref plb, .ref pla]))] sz) := by
  refine Met.ofW (cc := cX3_hangsTogether) (maxL := 3) (ret := (some .boolean)) (by decide) rfl ?_
  intro p e s m args below meth c s₁ B hml hv
  obtain ⟨rfl, hsz, hP, hK, hD0⟩ := hv
  have hx := B.exec
  have hb := B.bytes
  have hr := B.returns
  have hts := atoms_spec (ws := wz_X3_hangsTogether) B.pre
  have hown : s.vm.findClass RX3 = some m.cls := findClass_of_methodNamed B.named
  have hlocks := B.notSynchronized
  subst hsz
  have hD := hD0.self (sz := s.heap.size)
  generalize hAe : va_A [(pl, .inr (3, [.int plw, .int pld, .int plc, .int pls, .long plm, .ref plf, .ref plo, .ref plb, .ref pla]))] s.heap.size = A at hD ⊢
  have hA : ∀ q : Nat, s.heap.size ≤ q → A q := fun q h => by rw [← hAe]; exact Or.inr h
  have hS : va_S A s.heap s.heap [] := va_S.rf
  have hP : va_P (dC, dI) vwCl [(pl, .inr (3, [.int plw, .int pld, .int plc, .int pls, .long plm, .ref plf, .ref plo, .ref plb, .ref pla]))] s.heap := hP
  have hl := lv_entry ([.ref pl, .long p0]) (n := 3) (Nat.le_of_ble_eq_true rfl)
  rw [lg_entry_eq]
  generalize (lg_sl ([.ref pl, .long p0]) ++ List.replicate (3 - (lg_sl ([.ref pl, .long p0])).length) Slot.unset).toArray = ls at hl ⊢
  have hl : lv_has ls 3 [(0, .ref pl), (1, .long p0)] := hl
  refine lv_aload_n hx hb dX3_hangsTogether_0 rfl (lv_at hl 0 rfl) ?_
  refine lv_iconst (v := 1) hx hb dX3_hangsTogether_1 (by decide) ?_
  refine lv_lload_n hx hb dX3_hangsTogether_2 rfl (lv_at hl 1 rfl) ?_
  refine lv_bipush (v := 25) hx hb dX3_hangsTogether_3 (by decide) ?_
  have hPc := hP.sub (ws' := [(pl, .inr (3, [.int plw, .int pld, .int plc, .int pls, .long plm, .ref plf, .ref plo, .ref plb, .ref pla]))]) [0] rfl
  have hDc := hD.sub (ws' := [(pl, .inr (3, [.int plw, .int pld, .int plc, .int pls, .long plm, .ref plf, .ref plo, .ref plb, .ref pla]))]) [0] (by decide) rfl
  have hKc := hK.sub (tys' := []) [] rfl
  have hFc := va_free (wc := [(pl, .inr (3, [.int plw, .int pld, .int plc, .int pls, .long plm, .ref plf, .ref plo, .ref plb, .ref pla]))]) hD hS hA [0] rfl
  refine va_calli (va_runV (As := [.int 1, .long p0, .int 25]) (rest := []) ⟨hx, hb, hml, hown, hts⟩ (c_X3_spread l dC dI s.heap.size pl plw pld plc pls plm plf plo plb pla ((1 : Int32)) p0 ((25 : Int32)) ) (cwV 3 hts g_X3_hangsTogether_X3_spread rfl rfl rfl (by decide +kernel) ⟨Nat.le_of_ble_eq_true rfl, Nat.le_of_ble_eq_true rfl⟩) ⟨fun a U g mk q => by obtain ⟨q0, q1, qP, qK, qD⟩ := q; exact ⟨q0, q1, qP, va_K.moved (u := U) (U := U.calling g mk a) (Vm.Alike.refl U.vm) qK, qD⟩, va_recv hKc hPc (ci := 3) (q0 := 0) rfl rfl, fun U hU hW => ⟨rfl, by rw [hU], by rw [hU]; exact hPc, va_K.moved hW.alike hKc, hDc.weaken (fun _ _ _ _ => trivial)⟩⟩ rfl rfl hl.1 rfl (lv_room (Nat.le_of_ble_eq_true rfl)) dX3_hangsTogether_5 ⟨Nat.le_of_ble_eq_true rfl, Nat.le_of_ble_eq_true rfl⟩) hS (fun q _ h => hFc q h) hFc (fun r_1 u t H1 locs ht hvm hw_2 hB hz1 hk1 hS => ?_)
  obtain ⟨hP1, hK1, hD1⟩ := hB
  have hP1 : va_P (dC, dI) vwCl [(pl, .inr (3, [.int plw, .int pld, .int plc, .int pls, .long plm, .ref plf, .ref plo, .ref plb, .ref pla]))] t.heap := hP1
  rw [ht] at hP1
  try dsimp only at hw_2
  obtain ⟨hP, hD⟩ := va_join (wr := []) (w1 := [(pl, .inr (3, [.int plw, .int pld, .int plc, .int pls, .long plm, .ref plf, .ref plo, .ref plb, .ref pla]))]) hP hD [0] [] rfl rfl (by decide) (by decide) hk1 hFc hP1 hD1
  generalize H1 = H at hP hS ⊢
  have hP : va_P (dC, dI) vwCl [(pl, .inr (3, [.int plw, .int pld, .int plc, .int pls, .long plm, .ref plf, .ref plo, .ref plb, .ref pla]))] H := hP
  have hD : va_D A [(pl, .inr (3, [.int plw, .int pld, .int plc, .int pls, .long plm, .ref plf, .ref plo, .ref plb, .ref pla]))] := hD
  refine lv_aload_n hx hb dX3_hangsTogether_8 rfl (lv_at hl 0 rfl) ?_
  have hPc := hP.sub (ws' := [(pl, .inr (3, [.int plw, .int pld, .int plc, .int pls, .long plm, .ref plf, .ref plo, .ref plb, .ref pla]))]) [0] rfl
  have hDc := hD.sub (ws' := [(pl, .inr (3, [.int plw, .int pld, .int plc, .int pls, .long plm, .ref plf, .ref plo, .ref plb, .ref pla]))]) [0] (by decide) rfl
  have hKc := hK.sub (tys' := []) [] rfl
  have hFc := va_free (wc := [(pl, .inr (3, [.int plw, .int pld, .int plc, .int pls, .long plm, .ref plf, .ref plo, .ref plb, .ref pla]))]) hD hS hA [0] rfl
  refine va_calli (va_runV (As := []) (rest := [.int r_1]) ⟨hx, hb, hml, hown, hts⟩ (c_X3_allCells l dC dI H.size pl plw pld plc pls plm plf plo plb pla ) (cwV 0 hts g_X3_hangsTogether_X3_allCells rfl rfl rfl (by decide +kernel) ⟨Nat.le_of_ble_eq_true rfl, Nat.le_of_ble_eq_true rfl⟩) ⟨fun a U g mk q => by obtain ⟨q0, q1, qP, qK, qD⟩ := q; exact ⟨q0, q1, qP, va_K.moved (u := U) (U := U.calling g mk a) (Vm.Alike.refl U.vm) qK, qD⟩, va_recv hKc hPc (ci := 3) (q0 := 0) rfl rfl, fun U hU hW => ⟨rfl, by rw [hU], by rw [hU]; exact hPc, va_K.moved hW.alike hKc, hDc.weaken (fun _ _ _ _ => trivial)⟩⟩ rfl rfl hl.1 rfl (lv_room (Nat.le_of_ble_eq_true rfl)) dX3_hangsTogether_9 ⟨Nat.le_of_ble_eq_true rfl, Nat.le_of_ble_eq_true rfl⟩) hS (fun q _ h => hFc q h) hFc (fun r_3 u t H1 locs ht hvm hw_4 hB hz1 hk1 hS => ?_)
  obtain ⟨hP1, hK1, hD1⟩ := hB
  have hP1 : va_P (dC, dI) vwCl [(pl, .inr (3, [.int plw, .int pld, .int plc, .int pls, .long plm, .ref plf, .ref plo, .ref plb, .ref pla]))] t.heap := hP1
  rw [ht] at hP1
  try dsimp only at hw_4
  obtain ⟨hP, hD⟩ := va_join (wr := []) (w1 := [(pl, .inr (3, [.int plw, .int pld, .int plc, .int pls, .long plm, .ref plf, .ref plo, .ref plb, .ref pla]))]) hP hD [0] [] rfl rfl (by decide) (by decide) hk1 hFc hP1 hD1
  generalize H1 = H at hP hS ⊢
  have hP : va_P (dC, dI) vwCl [(pl, .inr (3, [.int plw, .int pld, .int plc, .int pls, .long plm, .ref plf, .ref plo, .ref plb, .ref pla]))] H := hP
  have hD : va_D A [(pl, .inr (3, [.int plw, .int pld, .int plc, .int pls, .long plm, .ref plf, .ref plo, .ref plb, .ref pla]))] := hD
  refine lv_icmp_ne (tgt := 19) hx hb dX3_hangsTogether_12 (by decide) (fun c_5 => ?_) (fun c_5 => ?_)
  · have c_5 : r_1.toInt ≠ r_3.toInt := i_ne (a := r_1) (b := r_3) rfl rfl c_5
    refine lv_iconst (v := 0) hx hb dX3_hangsTogether_19 (by decide) ?_
    have hP9 := hP.sub (ws' := [(pl, .inr (3, [.int plw, .int pld, .int plc, .int pls, .long plm, .ref plf, .ref plo, .ref plb, .ref pla]))]) [0] rfl
    have hD9 := hD.sub (ws' := [(pl, .inr (3, [.int plw, .int pld, .int plc, .int pls, .long plm, .ref plf, .ref plo, .ref plb, .ref pla]))]) [0] (by decide) rfl
    have hK9 := hK.sub (tys' := []) [] rfl
    refine W.widen (k := 0) (n := 0) (by omega) (by omega) ?_
    exact W.zret (v := 0) hx hb hr (by decide) (fun t ht hW => ⟨⟨0, (), rfl, (by have k0 : (0 : Int32).toInt = 0 := (by decide); first | rfl | trivial | (dsimp only; omega) | omega | (left; rfl) | (right; rfl) | (dsimp only; first | (left; rfl) | (right; rfl))), by rw [ht]; exact hP9, va_K.moved hW.alike hK9, hD9⟩, hS.F ht⟩) hS.2.2 dX3_hangsTogether_20
  · have c_5 : r_1.toInt = r_3.toInt := i_eq (a := r_1) (b := r_3) rfl rfl c_5
    refine lv_iconst (v := 1) hx hb dX3_hangsTogether_15 (by decide) ?_
    refine lv_goto (tgt := 20) hx hb dX3_hangsTogether_16 (by decide) ?_
    have hP9 := hP.sub (ws' := [(pl, .inr (3, [.int plw, .int pld, .int plc, .int pls, .long plm, .ref plf, .ref plo, .ref plb, .ref pla]))]) [0] rfl
    have hD9 := hD.sub (ws' := [(pl, .inr (3, [.int plw, .int pld, .int plc, .int pls, .long plm, .ref plf, .ref plo, .ref plb, .ref pla]))]) [0] (by decide) rfl
    have hK9 := hK.sub (tys' := []) [] rfl
    refine W.widen (k := 0) (n := 0) (by omega) (by omega) ?_
    exact W.zret (v := 1) hx hb hr (by decide) (fun t ht hW => ⟨⟨1, (), rfl, (by have k0 : (1 : Int32).toInt = 1 := (by decide); first | rfl | trivial | (dsimp only; omega) | omega | (left; rfl) | (right; rfl) | (dsimp only; first | (left; rfl) | (right; rfl))), by rw [ht]; exact hP9, va_K.moved hW.alike hK9, hD9⟩, hS.F ht⟩) hS.2.2 dX3_hangsTogether_20

theorem dX3_partBeside_0 : decode cX3_partBeside 0 = .ok (.iload_n 1, 1) := by decide +kernel
theorem dX3_partBeside_1 : decode cX3_partBeside 1 = .ok (.ifCond .lt 11, 3) := by decide +kernel
theorem dX3_partBeside_4 : decode cX3_partBeside 4 = .ok (.iload_n 1, 1) := by decide +kernel
theorem dX3_partBeside_5 : decode cX3_partBeside 5 = .ok (.aload_n 0, 1) := by decide +kernel
theorem dX3_partBeside_6 : decode cX3_partBeside 6 = .ok (.getfield 21, 3) := by decide +kernel
theorem dX3_partBeside_9 : decode cX3_partBeside 9 = .ok (.if_icmp .lt 8, 3) := by decide +kernel
theorem dX3_partBeside_12 : decode cX3_partBeside 12 = .ok (.aload_n 0, 1) := by decide +kernel
theorem dX3_partBeside_13 : decode cX3_partBeside 13 = .ok (.invokevirtual 79, 3) := by decide +kernel
theorem dX3_partBeside_16 : decode cX3_partBeside 16 = .ok (.ireturn, 1) := by decide +kernel
theorem dX3_partBeside_17 : decode cX3_partBeside 17 = .ok (.aload_n 0, 1) := by decide +kernel
theorem dX3_partBeside_18 : decode cX3_partBeside 18 = .ok (.iconst 1, 1) := by decide +kernel
theorem dX3_partBeside_19 : decode cX3_partBeside 19 = .ok (.aload_n 0, 1) := by decide +kernel
theorem dX3_partBeside_20 : decode cX3_partBeside 20 = .ok (.getfield 28, 3) := by decide +kernel
theorem dX3_partBeside_23 : decode cX3_partBeside 23 = .ok (.iload_n 1, 1) := by decide +kernel
theorem dX3_partBeside_24 : decode cX3_partBeside 24 = .ok (.iaload, 1) := by decide +kernel
theorem dX3_partBeside_25 : decode cX3_partBeside 25 = .ok (.ishl, 1) := by decide +kernel
theorem dX3_partBeside_26 : decode cX3_partBeside 26 = .ok (.lload_n 2, 1) := by decide +kernel
theorem dX3_partBeside_27 : decode cX3_partBeside 27 = .ok (.aload_n 0, 1) := by decide +kernel
theorem dX3_partBeside_28 : decode cX3_partBeside 28 = .ok (.getfield 35, 3) := by decide +kernel
theorem dX3_partBeside_31 : decode cX3_partBeside 31 = .ok (.iload_n 1, 1) := by decide +kernel
theorem dX3_partBeside_32 : decode cX3_partBeside 32 = .ok (.laload, 1) := by decide +kernel
theorem dX3_partBeside_33 : decode cX3_partBeside 33 = .ok (.ldc2_w 65, 3) := by decide +kernel
theorem dX3_partBeside_36 : decode cX3_partBeside 36 = .ok (.lxor, 1) := by decide +kernel
theorem dX3_partBeside_37 : decode cX3_partBeside 37 = .ok (.land, 1) := by decide +kernel
theorem dX3_partBeside_38 : decode cX3_partBeside 38 = .ok (.bipush 25, 2) := by decide +kernel
theorem dX3_partBeside_40 : decode cX3_partBeside 40 = .ok (.invokevirtual 75, 3) := by decide +kernel
theorem dX3_partBeside_43 : decode cX3_partBeside 43 = .ok (.ireturn, 1) := by decide +kernel
def wz_X3_partBeside : List Cond := .code yX3_partBeside cX3_partBeside 4 (some .int) :: ([Cond.fieldLink RX3 21 "HedgeMaze$Plan" "sideCount" "I", Cond.fieldLink RX3 28 "HedgeMaze$Plan" "first" "[I", Cond.fieldLink RX3 35 "HedgeMaze$Plan" "bits" "[J", Cond.constantLong RX3 65 (-1), Cond.methodLink RX3 79 yX3_allCells, Cond.instanceMethod yX3_allCells, Cond.selects RX3 yX3_allCells yX3_allCells, Cond.initialized RX3, Cond.code yX3_allCells cX3_allCells 1 (some .int), Cond.fieldLink RX3 18 "HedgeMaze$Plan" "cellCount" "I", Cond.methodLink RX3 75 yX3_spread, Cond.instanceMethod yX3_spread, Cond.selects RX3 yX3_spread yX3_spread, Cond.code yX3_spread cX3_spread 9 (some .int), Cond.methodLink RX3 42 Lib.Math.min.name, Cond.static Lib.Math.min.name, Cond.initialized "java/lang/Math", Cond.code Lib.Math.min.name Lib.Math.min.code 2 (some .int), Cond.methodLink RX3 71 yX3_grow, Cond.instanceMethod yX3_grow, Cond.selects RX3 yX3_grow yX3_grow, Cond.code yX3_grow cX3_grow 6 (some .int), Cond.fieldLink RX3 9 "HedgeMaze$Plan" "wide" "I"] ++ wsX30)
theorem wd_X3_partBeside_0 : Cond.fieldLink RX3 21 "HedgeMaze$Plan" "sideCount" "I" ∈ wz_X3_partBeside := List.mem_of_getElem? (i := 1) rfl
theorem wd_X3_partBeside_1 : Cond.fieldLink RX3 28 "HedgeMaze$Plan" "first" "[I" ∈ wz_X3_partBeside := List.mem_of_getElem? (i := 2) rfl
theorem wd_X3_partBeside_2 : Cond.fieldLink RX3 35 "HedgeMaze$Plan" "bits" "[J" ∈ wz_X3_partBeside := List.mem_of_getElem? (i := 3) rfl
theorem wd_X3_partBeside_3 : Cond.constantLong RX3 65 (-1) ∈ wz_X3_partBeside := List.mem_of_getElem? (i := 4) rfl
theorem in_X3_partBeside_X3 : ∀ w ∈ wsX30, w ∈ wz_X3_partBeside := fun _ h => List.mem_cons_of_mem _ (List.mem_append_right _ h)
set_option maxRecDepth 20000 in
theorem g_X3_partBeside_X3_allCells : GoodIn wz_X3_partBeside (wsV RX3 79 RX3 yX3_allCells wz_X3_allCells) := goodIn_r _ [5, 6, 7, 8, 9, 10, 24, 25, 26, 27, 28, 29, 30, 31, 32] rfl (by decide +kernel)
set_option maxRecDepth 20000 in
theorem g_X3_partBeside_X3_spread : GoodIn wz_X3_partBeside (wsV RX3 75 RX3 yX3_spread wz_X3_spread) := goodIn_r _ [11, 12, 13, 8, 14, 15, 16, 17, 18, 19, 20, 21, 8, 22, 23, 24, 25, 26, 27, 28, 29, 30, 31, 32] rfl (by decide +kernel)
set_option maxHeartbeats 4000000 in
set_option maxRecDepth 100000 in
theorem c_X3_partBeside (l : Launch) (dC : Nat → ClassId) (dI : Nat → Nat → Nat) (sz : Nat) (pl : Nat) (plw : Int32) (pld : Int32) (plc : Int32) (pls : Int32) (plm : Int64) (plf : Nat) (plo : Nat) (plb : Nat) (pla : Nat) (plkf : ClassId) (plF : Nat → Int32) (plkb : ClassId) (plB : Nat → Int64) (p0 : Int32) (p1 : Int64) (h_pls : 0 ≤ pls.toInt ∧ pls.toInt ≤ 40) (hR_plf : RG plF 40 0 24) : Met l yX3_partBeside wz_X3_partBeside ({ frames := 2, cells := 0, slots := 0, locals := 68 }) (va_Pc [.ref pl, .int p0, .long p1] (fun U => U.heap.size = sz ∧ va_P (dC, dI) vwCl [(pl, .inr (3, [.int plw, .int pld, .int plc, .int pls, .long plm, .ref plf, .ref plo, .ref plb, .ref pla])), (plf, .inl (plkf, 40, .inl plF)), (plb, .inl (plkb, 40, .inr (.inl plB)))] U.heap ∧ va_K (dC, dI) vwCl [(plkf, .int), (plkb, .long)] U ∧ va_D (fun _ => True) [(pl, .inr (3, [.int plw, .int pld, .int plc, .int pls, .long plm, .ref plf, .ref plo, .ref plb, .ref pla])), (plf, .inl (plkf, 40, .inl plF)), (plb, .inl (plkb, 40, .inr (.inl plB)))])) (va_Qi (fun (r : Int32) (u : Unit) => True) (fun (u : Unit) (t : State) => va_P (dC, dI) vwCl [(pl, .inr (3, [.int plw, .int pld, .int plc, .int pls, .long plm, .ref plf, .ref plo, .ref plb, .ref pla])), (plf, .inl (plkf, 40, .inl plF)), (plb, .inl (plkb, 40, .inr (.inl plB)))] t.heap ∧ va_K (dC, dI) vwCl [] t ∧ va_D (va_A [(pl, .inr (3, [.int plw, .int pld, .int plc, .int pls, .long plm, .ref plf, .ref plo, .ref plb, .ref pla])), (plf, .inl (plkf, 40, .inl plF)), (plb, .inl (plkb, 40, .inr (.inl plB)))] sz) [(pl, .inr (3, [.int plw, .int pld, .int plc, .int pls, .long plm, .ref plf, .ref plo, .ref plb, .ref pla])), (plf, .inl (plkf, 40, .inl plF)), (plb, .inl (plkb, 40, .inr (.inl plB)))]) (va_A [(pl, .inr (3, [.int plw, .int pld, .int plc, .int pls, .long plm, .ref plf, .ref plo, .ref plb, .ref pla])), (plf, .inl (plkf, 40, .inl plF)), (plb, .inl (plkb, 40, .inr (.inl plB)))] sz)) 0 0 (va_A [(pl, .inr (3, [.int plw, .int pld, .int plc, .int pls, .long plm, .ref plf, .ref plo, .ref plb, .ref pla])), (plf, .inl (plkf, 40, .inl plF)), (plb, .inl (plkb, 40, .inr (.inl plB)))] sz) := by
  refine Met.ofW (cc := cX3_partBeside) (maxL := 4) (ret := (some .int)) (by decide) rfl ?_
  intro p e s m args below meth c s₁ B hml hv
  obtain ⟨rfl, hsz, hP, hK, hD0⟩ := hv
  have hx := B.exec
  have hb := B.bytes
  have hr := B.returns
  have hts := atoms_spec (ws := wz_X3_partBeside) B.pre
  have hown : s.vm.findClass RX3 = some m.cls := findClass_of_methodNamed B.named
  have hlocks := B.notSynchronized
  subst hsz
  have hD := hD0.self (sz := s.heap.size)
  generalize hAe : va_A [(pl, .inr (3, [.int plw, .int pld, .int plc, .int pls, .long plm, .ref plf, .ref plo, .ref plb, .ref pla])), (plf, .inl (plkf, 40, .inl plF)), (plb, .inl (plkb, 40, .inr (.inl plB)))] s.heap.size = A at hD ⊢
  have hA : ∀ q : Nat, s.heap.size ≤ q → A q := fun q h => by rw [← hAe]; exact Or.inr h
  have hS : va_S A s.heap s.heap [] := va_S.rf
  have hP : va_P (dC, dI) vwCl [(pl, .inr (3, [.int plw, .int pld, .int plc, .int pls, .long plm, .ref plf, .ref plo, .ref plb, .ref pla])), (plf, .inl (plkf, 40, .inl plF)), (plb, .inl (plkb, 40, .inr (.inl plB)))] s.heap := hP
  have hl := lv_entry ([.ref pl, .int p0, .long p1]) (n := 4) (Nat.le_of_ble_eq_true rfl)
  rw [lg_entry_eq]
  generalize (lg_sl ([.ref pl, .int p0, .long p1]) ++ List.replicate (4 - (lg_sl ([.ref pl, .int p0, .long p1])).length) Slot.unset).toArray = ls at hl ⊢
  have hl : lv_has ls 4 [(0, .ref pl), (1, .int p0), (2, .long p1)] := hl
  refine lv_iload_n hx hb dX3_partBeside_0 rfl (lv_at hl 1 rfl) ?_
  refine lv_if_lt (tgt := 12) hx hb dX3_partBeside_1 (by decide) (fun c_1 => ?_) (fun c_1 => ?_)
  · have c_1 : p0.toInt < 0 := i_lt (a := p0) (b := 0) rfl (by decide) c_1
    refine lv_aload_n hx hb dX3_partBeside_12 rfl (lv_at hl 0 rfl) ?_
    have hPc := hP.sub (ws' := [(pl, .inr (3, [.int plw, .int pld, .int plc, .int pls, .long plm, .ref plf, .ref plo, .ref plb, .ref pla]))]) [0] rfl
    have hDc := hD.sub (ws' := [(pl, .inr (3, [.int plw, .int pld, .int plc, .int pls, .long plm, .ref plf, .ref plo, .ref plb, .ref pla]))]) [0] (by decide) rfl
    have hKc := hK.sub (tys' := []) [] rfl
    have hFc := va_free (wc := [(pl, .inr (3, [.int plw, .int pld, .int plc, .int pls, .long plm, .ref plf, .ref plo, .ref plb, .ref pla]))]) hD hS hA [0] rfl
    refine va_calli (va_runV (As := []) (rest := []) ⟨hx, hb, hml, hown, hts⟩ (c_X3_allCells l dC dI s.heap.size pl plw pld plc pls plm plf plo plb pla ) (cwV 0 hts g_X3_partBeside_X3_allCells rfl rfl rfl (by decide +kernel) ⟨Nat.le_of_ble_eq_true rfl, Nat.le_of_ble_eq_true rfl⟩) ⟨fun a U g mk q => by obtain ⟨q0, q1, qP, qK, qD⟩ := q; exact ⟨q0, q1, qP, va_K.moved (u := U) (U := U.calling g mk a) (Vm.Alike.refl U.vm) qK, qD⟩, va_recv hKc hPc (ci := 3) (q0 := 0) rfl rfl, fun U hU hW => ⟨rfl, by rw [hU], by rw [hU]; exact hPc, va_K.moved hW.alike hKc, hDc.weaken (fun _ _ _ _ => trivial)⟩⟩ rfl rfl hl.1 rfl (lv_room (Nat.le_of_ble_eq_true rfl)) dX3_partBeside_13 ⟨Nat.le_of_ble_eq_true rfl, Nat.le_of_ble_eq_true rfl⟩) hS (fun q _ h => hFc q h) hFc (fun r_2 u t H1 locs ht hvm hw_3 hB hz1 hk1 hS => ?_)
    obtain ⟨hP1, hK1, hD1⟩ := hB
    have hP1 : va_P (dC, dI) vwCl [(pl, .inr (3, [.int plw, .int pld, .int plc, .int pls, .long plm, .ref plf, .ref plo, .ref plb, .ref pla]))] t.heap := hP1
    rw [ht] at hP1
    try dsimp only at hw_3
    obtain ⟨hP, hD⟩ := va_join (wr := [(plf, .inl (plkf, 40, .inl plF)), (plb, .inl (plkb, 40, .inr (.inl plB)))]) (w1 := [(pl, .inr (3, [.int plw, .int pld, .int plc, .int pls, .long plm, .ref plf, .ref plo, .ref plb, .ref pla]))]) hP hD [0] [1, 2] rfl rfl (by decide) (by decide) hk1 hFc hP1 hD1
    generalize H1 = H at hP hS ⊢
    have hP : va_P (dC, dI) vwCl [(plf, .inl (plkf, 40, .inl plF)), (plb, .inl (plkb, 40, .inr (.inl plB))), (pl, .inr (3, [.int plw, .int pld, .int plc, .int pls, .long plm, .ref plf, .ref plo, .ref plb, .ref pla]))] H := hP
    have hD : va_D A [(plf, .inl (plkf, 40, .inl plF)), (plb, .inl (plkb, 40, .inr (.inl plB))), (pl, .inr (3, [.int plw, .int pld, .int plc, .int pls, .long plm, .ref plf, .ref plo, .ref plb, .ref pla]))] := hD
    have hP9 := hP.sub (ws' := [(pl, .inr (3, [.int plw, .int pld, .int plc, .int pls, .long plm, .ref plf, .ref plo, .ref plb, .ref pla])), (plf, .inl (plkf, 40, .inl plF)), (plb, .inl (plkb, 40, .inr (.inl plB)))]) [2, 0, 1] rfl
    have hD9 := hD.sub (ws' := [(pl, .inr (3, [.int plw, .int pld, .int plc, .int pls, .long plm, .ref plf, .ref plo, .ref plb, .ref pla])), (plf, .inl (plkf, 40, .inl plF)), (plb, .inl (plkb, 40, .inr (.inl plB)))]) [2, 0, 1] (by decide) rfl
    have hK9 := hK.sub (tys' := []) [] rfl
    refine W.widen (k := 0) (n := 0) (by omega) (by omega) ?_
    exact W.iret (v := r_2) hx hb hr (fun t ht hW => ⟨⟨r_2, (), rfl, trivial, by rw [ht]; exact hP9, va_K.moved hW.alike hK9, hD9⟩, hS.F ht⟩) hS.2.2 dX3_partBeside_16
  · have c_1 : 0 ≤ p0.toInt := i_nlt (a := p0) (b := 0) rfl (by decide) c_1
    refine lv_iload_n hx hb dX3_partBeside_4 rfl (lv_at hl 1 rfl) ?_
    refine lv_aload_n hx hb dX3_partBeside_5 rfl (lv_at hl 0 rfl) ?_
    refine va_get (D := (dC, dI)) (ci := 3) (v := .int pls) (C := RX3) (T := TX3) (N := 9) hx hb hts in_X3_partBeside_X3 hown hK hP 0 rfl rfl 3 (by decide) (hts _ wd_X3_partBeside_0) (fun _ h9 => h9) rfl dX3_partBeside_6 ?_
    refine lv_icmp_lt (tgt := 17) hx hb dX3_partBeside_9 (by decide) (fun c_4 => ?_) (fun c_4 => ?_)
    · have c_4 : p0.toInt < pls.toInt := i_lt (a := p0) (b := pls) rfl rfl c_4
      refine lv_aload_n hx hb dX3_partBeside_17 rfl (lv_at hl 0 rfl) ?_
      refine lv_iconst (v := 1) hx hb dX3_partBeside_18 (by decide) ?_
      refine lv_aload_n hx hb dX3_partBeside_19 rfl (lv_at hl 0 rfl) ?_
      refine va_get (D := (dC, dI)) (ci := 3) (v := .ref plf) (C := RX3) (T := TX3) (N := 9) hx hb hts in_X3_partBeside_X3 hown hK hP 0 rfl rfl 5 (by decide) (hts _ wd_X3_partBeside_1) (fun _ h9 => h9) rfl dX3_partBeside_20 ?_
      refine lv_iload_n hx hb dX3_partBeside_23 rfl (lv_at hl 1 rfl) ?_
      have hin_5 : vp_in p0 40 := (i_in rfl (by omega) (by omega))
      refine va_iald hx hb hK hP 1 0 rfl rfl hin_5 dX3_partBeside_24 ?_
      refine lv_topi (fun v_6 ev_6 => ?_)
      have hv_6 := RG.at hR_plf hin_5 ev_6
      refine lv_ishl hx hb dX3_partBeside_25 ?_
      refine lv_topi (fun x_7 ex_7 => ?_)
      refine lv_lload_n hx hb dX3_partBeside_26 rfl (lv_at hl 2 rfl) ?_
      refine lv_aload_n hx hb dX3_partBeside_27 rfl (lv_at hl 0 rfl) ?_
      refine va_get (D := (dC, dI)) (ci := 3) (v := .ref plb) (C := RX3) (T := TX3) (N := 9) hx hb hts in_X3_partBeside_X3 hown hK hP 0 rfl rfl 7 (by decide) (hts _ wd_X3_partBeside_2) (fun _ h9 => h9) rfl dX3_partBeside_28 ?_
      refine lv_iload_n hx hb dX3_partBeside_31 rfl (lv_at hl 1 rfl) ?_
      refine va_lald hx hb hK hP 2 1 rfl rfl (i_in rfl (by omega) (by omega)) dX3_partBeside_32 ?_
      refine lv_topl (fun y_8 ey_8 => ?_)
      refine lv_ldc2 hx hb hown (hts _ wd_X3_partBeside_3) dX3_partBeside_33 ?_
      refine lv_lxor hx hb dX3_partBeside_36 ?_
      refine lv_topl (fun y_9 ey_9 => ?_)
      refine lv_land hx hb dX3_partBeside_37 ?_
      refine lv_topl (fun y_10 ey_10 => ?_)
      refine lv_bipush (v := 25) hx hb dX3_partBeside_38 (by decide) ?_
      have hPc := hP.sub (ws' := [(pl, .inr (3, [.int plw, .int pld, .int plc, .int pls, .long plm, .ref plf, .ref plo, .ref plb, .ref pla]))]) [0] rfl
      have hDc := hD.sub (ws' := [(pl, .inr (3, [.int plw, .int pld, .int plc, .int pls, .long plm, .ref plf, .ref plo, .ref plb, .ref pla]))]) [0] (by decide) rfl
      have hKc := hK.sub (tys' := []) [] rfl
      have hFc := va_free (wc := [(pl, .inr (3, [.int plw, .int pld, .int plc, .int pls, .long plm, .ref plf, .ref plo, .ref plb, .ref pla]))]) hD hS hA [0] rfl
      refine va_calli (va_runV (As := [.int x_7, .long y_10, .int 25]) (rest := []) ⟨hx, hb, hml, hown, hts⟩ (c_X3_spread l dC dI s.heap.size pl plw pld plc pls plm plf plo plb pla x_7 y_10 ((25 : Int32)) ) (cwV 3 hts g_X3_partBeside_X3_spread rfl rfl rfl (by decide +kernel) ⟨Nat.le_of_ble_eq_true rfl, Nat.le_of_ble_eq_true rfl⟩) ⟨fun a U g mk q => by obtain ⟨q0, q1, qP, qK, qD⟩ := q; exact ⟨q0, q1, qP, va_K.moved (u := U) (U := U.calling g mk a) (Vm.Alike.refl U.vm) qK, qD⟩, va_recv hKc hPc (ci := 3) (q0 := 0) rfl rfl, fun U hU hW => ⟨rfl, by rw [hU], by rw [hU]; exact hPc, va_K.moved hW.alike hKc, hDc.weaken (fun _ _ _ _ => trivial)⟩⟩ rfl rfl hl.1 rfl (lv_room (Nat.le_of_ble_eq_true rfl)) dX3_partBeside_40 ⟨Nat.le_of_ble_eq_true rfl, Nat.le_of_ble_eq_true rfl⟩) hS (fun q _ h => hFc q h) hFc (fun r_11 u t H1 locs ht hvm hw_12 hB hz1 hk1 hS => ?_)
      obtain ⟨hP1, hK1, hD1⟩ := hB
      have hP1 : va_P (dC, dI) vwCl [(pl, .inr (3, [.int plw, .int pld, .int plc, .int pls, .long plm, .ref plf, .ref plo, .ref plb, .ref pla]))] t.heap := hP1
      rw [ht] at hP1
      try dsimp only at hw_12
      obtain ⟨hP, hD⟩ := va_join (wr := [(plf, .inl (plkf, 40, .inl plF)), (plb, .inl (plkb, 40, .inr (.inl plB)))]) (w1 := [(pl, .inr (3, [.int plw, .int pld, .int plc, .int pls, .long plm, .ref plf, .ref plo, .ref plb, .ref pla]))]) hP hD [0] [1, 2] rfl rfl (by decide) (by decide) hk1 hFc hP1 hD1
      generalize H1 = H at hP hS ⊢
      have hP : va_P (dC, dI) vwCl [(plf, .inl (plkf, 40, .inl plF)), (plb, .inl (plkb, 40, .inr (.inl plB))), (pl, .inr (3, [.int plw, .int pld, .int plc, .int pls, .long plm, .ref plf, .ref plo, .ref plb, .ref pla]))] H := hP
      have hD : va_D A [(plf, .inl (plkf, 40, .inl plF)), (plb, .inl (plkb, 40, .inr (.inl plB))), (pl, .inr (3, [.int plw, .int pld, .int plc, .int pls, .long plm, .ref plf, .ref plo, .ref plb, .ref pla]))] := hD
      have hP9 := hP.sub (ws' := [(pl, .inr (3, [.int plw, .int pld, .int plc, .int pls, .long plm, .ref plf, .ref plo, .ref plb, .ref pla])), (plf, .inl (plkf, 40, .inl plF)), (plb, .inl (plkb, 40, .inr (.inl plB)))]) [2, 0, 1] rfl
      have hD9 := hD.sub (ws' := [(pl, .inr (3, [.int plw, .int pld, .int plc, .int pls, .long plm, .ref plf, .ref plo, .ref plb, .ref pla])), (plf, .inl (plkf, 40, .inl plF)), (plb, .inl (plkb, 40, .inr (.inl plB)))]) [2, 0, 1] (by decide) rfl
      have hK9 := hK.sub (tys' := []) [] rfl
      refine W.widen (k := 0) (n := 0) (by omega) (by omega) ?_
      exact W.iret (v := r_11) hx hb hr (fun t ht hW => ⟨⟨r_11, (), rfl, trivial, by rw [ht]; exact hP9, va_K.moved hW.alike hK9, hD9⟩, hS.F ht⟩) hS.2.2 dX3_partBeside_43
    · have c_4 : pls.toInt ≤ p0.toInt := i_nlt (a := p0) (b := pls) rfl rfl c_4
      refine lv_aload_n hx hb dX3_partBeside_12 rfl (lv_at hl 0 rfl) ?_
      have hPc := hP.sub (ws' := [(pl, .inr (3, [.int plw, .int pld, .int plc, .int pls, .long plm, .ref plf, .ref plo, .ref plb, .ref pla]))]) [0] rfl
      have hDc := hD.sub (ws' := [(pl, .inr (3, [.int plw, .int pld, .int plc, .int pls, .long plm, .ref plf, .ref plo, .ref plb, .ref pla]))]) [0] (by decide) rfl
      have hKc := hK.sub (tys' := []) [] rfl
      have hFc := va_free (wc := [(pl, .inr (3, [.int plw, .int pld, .int plc, .int pls, .long plm, .ref plf, .ref plo, .ref plb, .ref pla]))]) hD hS hA [0] rfl
      refine va_calli (va_runV (As := []) (rest := []) ⟨hx, hb, hml, hown, hts⟩ (c_X3_allCells l dC dI s.heap.size pl plw pld plc pls plm plf plo plb pla ) (cwV 0 hts g_X3_partBeside_X3_allCells rfl rfl rfl (by decide +kernel) ⟨Nat.le_of_ble_eq_true rfl, Nat.le_of_ble_eq_true rfl⟩) ⟨fun a U g mk q => by obtain ⟨q0, q1, qP, qK, qD⟩ := q; exact ⟨q0, q1, qP, va_K.moved (u := U) (U := U.calling g mk a) (Vm.Alike.refl U.vm) qK, qD⟩, va_recv hKc hPc (ci := 3) (q0 := 0) rfl rfl, fun U hU hW => ⟨rfl, by rw [hU], by rw [hU]; exact hPc, va_K.moved hW.alike hKc, hDc.weaken (fun _ _ _ _ => trivial)⟩⟩ rfl rfl hl.1 rfl (lv_room (Nat.le_of_ble_eq_true rfl)) dX3_partBeside_13 ⟨Nat.le_of_ble_eq_true rfl, Nat.le_of_ble_eq_true rfl⟩) hS (fun q _ h => hFc q h) hFc (fun r_13 u t H1 locs ht hvm hw_14 hB hz1 hk1 hS => ?_)
      obtain ⟨hP1, hK1, hD1⟩ := hB
      have hP1 : va_P (dC, dI) vwCl [(pl, .inr (3, [.int plw, .int pld, .int plc, .int pls, .long plm, .ref plf, .ref plo, .ref plb, .ref pla]))] t.heap := hP1
      rw [ht] at hP1
      try dsimp only at hw_14
      obtain ⟨hP, hD⟩ := va_join (wr := [(plf, .inl (plkf, 40, .inl plF)), (plb, .inl (plkb, 40, .inr (.inl plB)))]) (w1 := [(pl, .inr (3, [.int plw, .int pld, .int plc, .int pls, .long plm, .ref plf, .ref plo, .ref plb, .ref pla]))]) hP hD [0] [1, 2] rfl rfl (by decide) (by decide) hk1 hFc hP1 hD1
      generalize H1 = H at hP hS ⊢
      have hP : va_P (dC, dI) vwCl [(plf, .inl (plkf, 40, .inl plF)), (plb, .inl (plkb, 40, .inr (.inl plB))), (pl, .inr (3, [.int plw, .int pld, .int plc, .int pls, .long plm, .ref plf, .ref plo, .ref plb, .ref pla]))] H := hP
      have hD : va_D A [(plf, .inl (plkf, 40, .inl plF)), (plb, .inl (plkb, 40, .inr (.inl plB))), (pl, .inr (3, [.int plw, .int pld, .int plc, .int pls, .long plm, .ref plf, .ref plo, .ref plb, .ref pla]))] := hD
      have hP9 := hP.sub (ws' := [(pl, .inr (3, [.int plw, .int pld, .int plc, .int pls, .long plm, .ref plf, .ref plo, .ref plb, .ref pla])), (plf, .inl (plkf, 40, .inl plF)), (plb, .inl (plkb, 40, .inr (.inl plB)))]) [2, 0, 1] rfl
      have hD9 := hD.sub (ws' := [(pl, .inr (3, [.int plw, .int pld, .int plc, .int pls, .long plm, .ref plf, .ref plo, .ref plb, .ref pla])), (plf, .inl (plkf, 40, .inl plF)), (plb, .inl (plkb, 40, .inr (.inl plB)))]) [2, 0, 1] (by decide) rfl
      have hK9 := hK.sub (tys' := []) [] rfl
      refine W.widen (k := 0) (n := 0) (by omega) (by omega) ?_
      exact W.iret (v := r_13) hx hb hr (fun t ht hW => ⟨⟨r_13, (), rfl, trivial, by rw [ht]; exact hP9, va_K.moved hW.alike hK9, hD9⟩, hS.F ht⟩) hS.2.2 dX3_partBeside_16

theorem dX3_joins_0 : decode cX3_joins 0 = .ok (.iload_n 2, 1) := by decide +kernel
theorem dX3_joins_1 : decode cX3_joins 1 = .ok (.aload_n 0, 1) := by decide +kernel
theorem dX3_joins_2 : decode cX3_joins 2 = .ok (.invokevirtual 79, 3) := by decide +kernel
theorem dX3_joins_5 : decode cX3_joins 5 = .ok (.if_icmp .eq 15, 3) := by decide +kernel
theorem dX3_joins_8 : decode cX3_joins 8 = .ok (.iload_n 1, 1) := by decide +kernel
theorem dX3_joins_9 : decode cX3_joins 9 = .ok (.ifCond .lt 11, 3) := by decide +kernel
theorem dX3_joins_12 : decode cX3_joins 12 = .ok (.iload_n 1, 1) := by decide +kernel
theorem dX3_joins_13 : decode cX3_joins 13 = .ok (.aload_n 0, 1) := by decide +kernel
theorem dX3_joins_14 : decode cX3_joins 14 = .ok (.getfield 21, 3) := by decide +kernel
theorem dX3_joins_17 : decode cX3_joins 17 = .ok (.if_icmp .lt 17, 3) := by decide +kernel
theorem dX3_joins_20 : decode cX3_joins 20 = .ok (.iload_n 2, 1) := by decide +kernel
theorem dX3_joins_21 : decode cX3_joins 21 = .ok (.aload_n 0, 1) := by decide +kernel
theorem dX3_joins_22 : decode cX3_joins 22 = .ok (.invokevirtual 79, 3) := by decide +kernel
theorem dX3_joins_25 : decode cX3_joins 25 = .ok (.if_icmp .ne 7, 3) := by decide +kernel
theorem dX3_joins_28 : decode cX3_joins 28 = .ok (.iconst 1, 1) := by decide +kernel
theorem dX3_joins_29 : decode cX3_joins 29 = .ok (.goto 4, 3) := by decide +kernel
theorem dX3_joins_32 : decode cX3_joins 32 = .ok (.iconst 0, 1) := by decide +kernel
theorem dX3_joins_33 : decode cX3_joins 33 = .ok (.ireturn, 1) := by decide +kernel
theorem dX3_joins_34 : decode cX3_joins 34 = .ok (.iload_n 2, 1) := by decide +kernel
theorem dX3_joins_35 : decode cX3_joins 35 = .ok (.aload_n 0, 1) := by decide +kernel
theorem dX3_joins_36 : decode cX3_joins 36 = .ok (.getfield 28, 3) := by decide +kernel
theorem dX3_joins_39 : decode cX3_joins 39 = .ok (.iload_n 1, 1) := by decide +kernel
theorem dX3_joins_40 : decode cX3_joins 40 = .ok (.iaload, 1) := by decide +kernel
theorem dX3_joins_41 : decode cX3_joins 41 = .ok (.ishr, 1) := by decide +kernel
theorem dX3_joins_42 : decode cX3_joins 42 = .ok (.iconst 1, 1) := by decide +kernel
theorem dX3_joins_43 : decode cX3_joins 43 = .ok (.iand, 1) := by decide +kernel
theorem dX3_joins_44 : decode cX3_joins 44 = .ok (.iload_n 2, 1) := by decide +kernel
theorem dX3_joins_45 : decode cX3_joins 45 = .ok (.aload_n 0, 1) := by decide +kernel
theorem dX3_joins_46 : decode cX3_joins 46 = .ok (.getfield 32, 3) := by decide +kernel
theorem dX3_joins_49 : decode cX3_joins 49 = .ok (.iload_n 1, 1) := by decide +kernel
theorem dX3_joins_50 : decode cX3_joins 50 = .ok (.iaload, 1) := by decide +kernel
theorem dX3_joins_51 : decode cX3_joins 51 = .ok (.ishr, 1) := by decide +kernel
theorem dX3_joins_52 : decode cX3_joins 52 = .ok (.iconst 1, 1) := by decide +kernel
theorem dX3_joins_53 : decode cX3_joins 53 = .ok (.iand, 1) := by decide +kernel
theorem dX3_joins_54 : decode cX3_joins 54 = .ok (.if_icmp .eq 7, 3) := by decide +kernel
theorem dX3_joins_57 : decode cX3_joins 57 = .ok (.iconst 1, 1) := by decide +kernel
theorem dX3_joins_58 : decode cX3_joins 58 = .ok (.goto 4, 3) := by decide +kernel
theorem dX3_joins_61 : decode cX3_joins 61 = .ok (.iconst 0, 1) := by decide +kernel
theorem dX3_joins_62 : decode cX3_joins 62 = .ok (.ireturn, 1) := by decide +kernel
def wz_X3_joins : List Cond := .code yX3_joins cX3_joins 3 (some .boolean) :: ([Cond.fieldLink RX3 21 "HedgeMaze$Plan" "sideCount" "I", Cond.fieldLink RX3 28 "HedgeMaze$Plan" "first" "[I", Cond.fieldLink RX3 32 "HedgeMaze$Plan" "other" "[I", Cond.methodLink RX3 79 yX3_allCells, Cond.instanceMethod yX3_allCells, Cond.selects RX3 yX3_allCells yX3_allCells, Cond.initialized RX3, Cond.code yX3_allCells cX3_allCells 1 (some .int), Cond.fieldLink RX3 18 "HedgeMaze$Plan" "cellCount" "I"] ++ wsX30)
theorem wd_X3_joins_0 : Cond.fieldLink RX3 21 "HedgeMaze$Plan" "sideCount" "I" ∈ wz_X3_joins := List.mem_of_getElem? (i := 1) rfl
theorem wd_X3_joins_1 : Cond.fieldLink RX3 28 "HedgeMaze$Plan" "first" "[I" ∈ wz_X3_joins := List.mem_of_getElem? (i := 2) rfl
theorem wd_X3_joins_2 : Cond.fieldLink RX3 32 "HedgeMaze$Plan" "other" "[I" ∈ wz_X3_joins := List.mem_of_getElem? (i := 3) rfl
theorem in_X3_joins_X3 : ∀ w ∈ wsX30, w ∈ wz_X3_joins := fun _ h => List.mem_cons_of_mem _ (List.mem_append_right _ h)
set_option maxRecDepth 20000 in
theorem g_X3_joins_X3_allCells : GoodIn wz_X3_joins (wsV RX3 79 RX3 yX3_allCells wz_X3_allCells) := goodIn_r _ [4, 5, 6, 7, 8, 9, 10, 11, 12, 13, 14, 15, 16, 17, 18] rfl (by decide +kernel)
set_option maxHeartbeats 4000000 in
set_option maxRecDepth 100000 in
theorem c_X3_joins (l : Launch) (dC : Nat → ClassId) (dI : Nat → Nat → Nat) (sz : Nat) (pl : Nat) (plw : Int32) (pld : Int32) (plc : Int32) (pls : Int32) (plm : Int64) (plf : Nat) (plo : Nat) (plb : Nat) (pla : Nat) (plkf : ClassId) (plF : Nat → Int32) (plko : ClassId) (plO : Nat → Int32) (p0 : Int32) (p1 : Int32) (h_pls : 0 ≤ pls.toInt ∧ pls.toInt ≤ 40) (hR_plf : RG plF 40 0 24) (hR_plo : RG plO 40 0 24) : Met l yX3_joins wz_X3_joins ({ frames := 1, cells := 0, slots := 0, locals := 20 }) (va_Pc [.ref pl, .int p0, .int p1] (fun U => U.heap.size = sz ∧ va_P (dC, dI) vwCl [(pl, .inr (3, [.int plw, .int pld, .int plc, .int pls, .long plm, .ref plf, .ref plo, .ref plb, .ref pla])), (plf, .inl (plkf, 40, .inl plF)), (plo, .inl (plko, 40, .inl plO))] U.heap ∧ va_K (dC, dI) vwCl [(plkf, .int), (plko, .int)] U ∧ va_D (fun _ => True) [(pl, .inr (3, [.int plw, .int pld, .int plc, .int pls, .long plm, .ref plf, .ref plo, .ref plb, .ref pla])), (plf, .inl (plkf, 40, .inl plF)), (plo, .inl (plko, 40, .inl plO))])) (va_Qi (fun (r : Int32) (u : Unit) => (r = 0 ∨ r = 1)) (fun (u : Unit) (t : State) => va_P (dC, dI) vwCl [(pl, .inr (3, [.int plw, .int pld, .int plc, .int pls, .long plm, .ref plf, .ref plo, .ref plb, .ref pla])), (plf, .inl (plkf, 40, .inl plF)), (plo, .inl (plko, 40, .inl plO))] t.heap ∧ va_K (dC, dI) vwCl [] t ∧ va_D (va_A [(pl, .inr (3, [.int plw, .int pld, .int plc, .int pls, .long plm, .ref plf, .ref plo, .ref plb, .ref pla])), (plf, .inl (plkf, 40, .inl plF)), (plo, .inl (plko, 40, .inl plO))] sz) [(pl, .inr (3, [.int plw, .int pld, .int plc, .int pls, .long plm, .ref plf, .ref plo, .ref plb, .ref pla])), (plf, .inl (plkf, 40, .inl plF)), (plo, .inl (plko, 40, .inl plO))]) (va_A [(pl, .inr (3, [.int plw, .int pld, .int plc, .int pls, .long plm, .ref plf, .ref plo, .ref plb, .ref pla])), (plf, .inl (plkf, 40, .inl plF)), (plo, .inl (plko, 40, .inl plO))] sz)) 0 0 (va_A [(pl, .inr (3, [.int plw, .int pld, .int plc, .int pls, .long plm, .ref plf, .ref plo, .ref plb, .ref pla])), (plf, .inl (plkf, 40, .inl plF)), (plo, .inl (plko, 40, .inl plO))] sz) := by
  refine Met.ofW (cc := cX3_joins) (maxL := 3) (ret := (some .boolean)) (by decide) rfl ?_
  intro p e s m args below meth c s₁ B hml hv
  obtain ⟨rfl, hsz, hP, hK, hD0⟩ := hv
  have hx := B.exec
  have hb := B.bytes
  have hr := B.returns
  have hts := atoms_spec (ws := wz_X3_joins) B.pre
  have hown : s.vm.findClass RX3 = some m.cls := findClass_of_methodNamed B.named
  have hlocks := B.notSynchronized
  subst hsz
  have hD := hD0.self (sz := s.heap.size)
  generalize hAe : va_A [(pl, .inr (3, [.int plw, .int pld, .int plc, .int pls, .long plm, .ref plf, .ref plo, .ref plb, .ref pla])), (plf, .inl (plkf, 40, .inl plF)), (plo, .inl (plko, 40, .inl plO))] s.heap.size = A at hD ⊢
  have hA : ∀ q : Nat, s.heap.size ≤ q → A q := fun q h => by rw [← hAe]; exact Or.inr h
  have hS : va_S A s.heap s.heap [] := va_S.rf
  have hP : va_P (dC, dI) vwCl [(pl, .inr (3, [.int plw, .int pld, .int plc, .int pls, .long plm, .ref plf, .ref plo, .ref plb, .ref pla])), (plf, .inl (plkf, 40, .inl plF)), (plo, .inl (plko, 40, .inl plO))] s.heap := hP
  have hl := lv_entry ([.ref pl, .int p0, .int p1]) (n := 3) (Nat.le_of_ble_eq_true rfl)
  rw [lg_entry_eq]
  generalize (lg_sl ([.ref pl, .int p0, .int p1]) ++ List.replicate (3 - (lg_sl ([.ref pl, .int p0, .int p1])).length) Slot.unset).toArray = ls at hl ⊢
  have hl : lv_has ls 3 [(0, .ref pl), (1, .int p0), (2, .int p1)] := hl
  refine lv_iload_n hx hb dX3_joins_0 rfl (lv_at hl 2 rfl) ?_
  refine lv_aload_n hx hb dX3_joins_1 rfl (lv_at hl 0 rfl) ?_
  have hPc := hP.sub (ws' := [(pl, .inr (3, [.int plw, .int pld, .int plc, .int pls, .long plm, .ref plf, .ref plo, .ref plb, .ref pla]))]) [0] rfl
  have hDc := hD.sub (ws' := [(pl, .inr (3, [.int plw, .int pld, .int plc, .int pls, .long plm, .ref plf, .ref plo, .ref plb, .ref pla]))]) [0] (by decide) rfl
  have hKc := hK.sub (tys' := []) [] rfl
  have hFc := va_free (wc := [(pl, .inr (3, [.int plw, .int pld, .int plc, .int pls, .long plm, .ref plf, .ref plo, .ref plb, .ref pla]))]) hD hS hA [0] rfl
  refine va_calli (va_runV (As := []) (rest := [.int p1]) ⟨hx, hb, hml, hown, hts⟩ (c_X3_allCells l dC dI s.heap.size pl plw pld plc pls plm plf plo plb pla ) (cwV 0 hts g_X3_joins_X3_allCells rfl rfl rfl (by decide +kernel) ⟨Nat.le_of_ble_eq_true rfl, Nat.le_of_ble_eq_true rfl⟩) ⟨fun a U g mk q => by obtain ⟨q0, q1, qP, qK, qD⟩ := q; exact ⟨q0, q1, qP, va_K.moved (u := U) (U := U.calling g mk a) (Vm.Alike.refl U.vm) qK, qD⟩, va_recv hKc hPc (ci := 3) (q0 := 0) rfl rfl, fun U hU hW => ⟨rfl, by rw [hU], by rw [hU]; exact hPc, va_K.moved hW.alike hKc, hDc.weaken (fun _ _ _ _ => trivial)⟩⟩ rfl rfl hl.1 rfl (lv_room (Nat.le_of_ble_eq_true rfl)) dX3_joins_2 ⟨Nat.le_of_ble_eq_true rfl, Nat.le_of_ble_eq_true rfl⟩) hS (fun q _ h => hFc q h) hFc (fun r_1 u t H1 locs ht hvm hw_2 hB hz1 hk1 hS => ?_)
  obtain ⟨hP1, hK1, hD1⟩ := hB
  have hP1 : va_P (dC, dI) vwCl [(pl, .inr (3, [.int plw, .int pld, .int plc, .int pls, .long plm, .ref plf, .ref plo, .ref plb, .ref pla]))] t.heap := hP1
  rw [ht] at hP1
  try dsimp only at hw_2
  obtain ⟨hP, hD⟩ := va_join (wr := [(plf, .inl (plkf, 40, .inl plF)), (plo, .inl (plko, 40, .inl plO))]) (w1 := [(pl, .inr (3, [.int plw, .int pld, .int plc, .int pls, .long plm, .ref plf, .ref plo, .ref plb, .ref pla]))]) hP hD [0] [1, 2] rfl rfl (by decide) (by decide) hk1 hFc hP1 hD1
  generalize H1 = H at hP hS ⊢
  have hP : va_P (dC, dI) vwCl [(plf, .inl (plkf, 40, .inl plF)), (plo, .inl (plko, 40, .inl plO)), (pl, .inr (3, [.int plw, .int pld, .int plc, .int pls, .long plm, .ref plf, .ref plo, .ref plb, .ref pla]))] H := hP
  have hD : va_D A [(plf, .inl (plkf, 40, .inl plF)), (plo, .inl (plko, 40, .inl plO)), (pl, .inr (3, [.int plw, .int pld, .int plc, .int pls, .long plm, .ref plf, .ref plo, .ref plb, .ref pla]))] := hD
  refine lv_icmp_eq (tgt := 20) hx hb dX3_joins_5 (by decide) (fun c_3 => ?_) (fun c_3 => ?_)
  · have c_3 : p1.toInt = r_1.toInt := i_eq (a := p1) (b := r_1) rfl rfl c_3
    refine lv_iload_n hx hb dX3_joins_20 rfl (lv_at hl 2 rfl) ?_
    refine lv_aload_n hx hb dX3_joins_21 rfl (lv_at hl 0 rfl) ?_
    have hPc := hP.sub (ws' := [(pl, .inr (3, [.int plw, .int pld, .int plc, .int pls, .long plm, .ref plf, .ref plo, .ref plb, .ref pla]))]) [2] rfl
    have hDc := hD.sub (ws' := [(pl, .inr (3, [.int plw, .int pld, .int plc, .int pls, .long plm, .ref plf, .ref plo, .ref plb, .ref pla]))]) [2] (by decide) rfl
    have hKc := hK.sub (tys' := []) [] rfl
    have hFc := va_free (wc := [(pl, .inr (3, [.int plw, .int pld, .int plc, .int pls, .long plm, .ref plf, .ref plo, .ref plb, .ref pla]))]) hD hS hA [2] rfl
    refine va_calli (va_runV (As := []) (rest := [.int p1]) ⟨hx, hb, hml, hown, hts⟩ (c_X3_allCells l dC dI H.size pl plw pld plc pls plm plf plo plb pla ) (cwV 0 hts g_X3_joins_X3_allCells rfl rfl rfl (by decide +kernel) ⟨Nat.le_of_ble_eq_true rfl, Nat.le_of_ble_eq_true rfl⟩) ⟨fun a U g mk q => by obtain ⟨q0, q1, qP, qK, qD⟩ := q; exact ⟨q0, q1, qP, va_K.moved (u := U) (U := U.calling g mk a) (Vm.Alike.refl U.vm) qK, qD⟩, va_recv hKc hPc (ci := 3) (q0 := 0) rfl rfl, fun U hU hW => ⟨rfl, by rw [hU], by rw [hU]; exact hPc, va_K.moved hW.alike hKc, hDc.weaken (fun _ _ _ _ => trivial)⟩⟩ rfl rfl hl.1 rfl (lv_room (Nat.le_of_ble_eq_true rfl)) dX3_joins_22 ⟨Nat.le_of_ble_eq_true rfl, Nat.le_of_ble_eq_true rfl⟩) hS (fun q _ h => hFc q h) hFc (fun r_4 u t H1 locs ht hvm hw_5 hB hz1 hk1 hS => ?_)
    obtain ⟨hP1, hK1, hD1⟩ := hB
    have hP1 : va_P (dC, dI) vwCl [(pl, .inr (3, [.int plw, .int pld, .int plc, .int pls, .long plm, .ref plf, .ref plo, .ref plb, .ref pla]))] t.heap := hP1
    rw [ht] at hP1
    try dsimp only at hw_5
    obtain ⟨hP, hD⟩ := va_join (wr := [(plf, .inl (plkf, 40, .inl plF)), (plo, .inl (plko, 40, .inl plO))]) (w1 := [(pl, .inr (3, [.int plw, .int pld, .int plc, .int pls, .long plm, .ref plf, .ref plo, .ref plb, .ref pla]))]) hP hD [2] [0, 1] rfl rfl (by decide) (by decide) hk1 hFc hP1 hD1
    generalize H1 = H at hP hS ⊢
    have hP : va_P (dC, dI) vwCl [(plf, .inl (plkf, 40, .inl plF)), (plo, .inl (plko, 40, .inl plO)), (pl, .inr (3, [.int plw, .int pld, .int plc, .int pls, .long plm, .ref plf, .ref plo, .ref plb, .ref pla]))] H := hP
    have hD : va_D A [(plf, .inl (plkf, 40, .inl plF)), (plo, .inl (plko, 40, .inl plO)), (pl, .inr (3, [.int plw, .int pld, .int plc, .int pls, .long plm, .ref plf, .ref plo, .ref plb, .ref pla]))] := hD
    refine lv_icmp_ne (tgt := 32) hx hb dX3_joins_25 (by decide) (fun c_6 => ?_) (fun c_6 => ?_)
    · have c_6 : p1.toInt ≠ r_4.toInt := i_ne (a := p1) (b := r_4) rfl rfl c_6
      refine lv_iconst (v := 0) hx hb dX3_joins_32 (by decide) ?_
      have hP9 := hP.sub (ws' := [(pl, .inr (3, [.int plw, .int pld, .int plc, .int pls, .long plm, .ref plf, .ref plo, .ref plb, .ref pla])), (plf, .inl (plkf, 40, .inl plF)), (plo, .inl (plko, 40, .inl plO))]) [2, 0, 1] rfl
      have hD9 := hD.sub (ws' := [(pl, .inr (3, [.int plw, .int pld, .int plc, .int pls, .long plm, .ref plf, .ref plo, .ref plb, .ref pla])), (plf, .inl (plkf, 40, .inl plF)), (plo, .inl (plko, 40, .inl plO))]) [2, 0, 1] (by decide) rfl
      have hK9 := hK.sub (tys' := []) [] rfl
      refine W.widen (k := 0) (n := 0) (by omega) (by omega) ?_
      exact W.zret (v := 0) hx hb hr (by decide) (fun t ht hW => ⟨⟨0, (), rfl, (by have k0 : (0 : Int32).toInt = 0 := (by decide); first | rfl | trivial | (dsimp only; omega) | omega | (left; rfl) | (right; rfl) | (dsimp only; first | (left; rfl) | (right; rfl))), by rw [ht]; exact hP9, va_K.moved hW.alike hK9, hD9⟩, hS.F ht⟩) hS.2.2 dX3_joins_33
    · have c_6 : p1.toInt = r_4.toInt := i_eq (a := p1) (b := r_4) rfl rfl c_6
      refine lv_iconst (v := 1) hx hb dX3_joins_28 (by decide) ?_
      refine lv_goto (tgt := 33) hx hb dX3_joins_29 (by decide) ?_
      have hP9 := hP.sub (ws' := [(pl, .inr (3, [.int plw, .int pld, .int plc, .int pls, .long plm, .ref plf, .ref plo, .ref plb, .ref pla])), (plf, .inl (plkf, 40, .inl plF)), (plo, .inl (plko, 40, .inl plO))]) [2, 0, 1] rfl
      have hD9 := hD.sub (ws' := [(pl, .inr (3, [.int plw, .int pld, .int plc, .int pls, .long plm, .ref plf, .ref plo, .ref plb, .ref pla])), (plf, .inl (plkf, 40, .inl plF)), (plo, .inl (plko, 40, .inl plO))]) [2, 0, 1] (by decide) rfl
      have hK9 := hK.sub (tys' := []) [] rfl
      refine W.widen (k := 0) (n := 0) (by omega) (by omega) ?_
      exact W.zret (v := 1) hx hb hr (by decide) (fun t ht hW => ⟨⟨1, (), rfl, (by have k0 : (1 : Int32).toInt = 1 := (by decide); first | rfl | trivial | (dsimp only; omega) | omega | (left; rfl) | (right; rfl) | (dsimp only; first | (left; rfl) | (right; rfl))), by rw [ht]; exact hP9, va_K.moved hW.alike hK9, hD9⟩, hS.F ht⟩) hS.2.2 dX3_joins_33
  · have c_3 : p1.toInt ≠ r_1.toInt := i_ne (a := p1) (b := r_1) rfl rfl c_3
    refine lv_iload_n hx hb dX3_joins_8 rfl (lv_at hl 1 rfl) ?_
    refine lv_if_lt (tgt := 20) hx hb dX3_joins_9 (by decide) (fun c_7 => ?_) (fun c_7 => ?_)
    · have c_7 : p0.toInt < 0 := i_lt (a := p0) (b := 0) rfl (by decide) c_7
      refine lv_iload_n hx hb dX3_joins_20 rfl (lv_at hl 2 rfl) ?_
      refine lv_aload_n hx hb dX3_joins_21 rfl (lv_at hl 0 rfl) ?_
      have hPc := hP.sub (ws' := [(pl, .inr (3, [.int plw, .int pld, .int plc, .int pls, .long plm, .ref plf, .ref plo, .ref plb, .ref pla]))]) [2] rfl
      have hDc := hD.sub (ws' := [(pl, .inr (3, [.int plw, .int pld, .int plc, .int pls, .long plm, .ref plf, .ref plo, .ref plb, .ref pla]))]) [2] (by decide) rfl
      have hKc := hK.sub (tys' := []) [] rfl
      have hFc := va_free (wc := [(pl, .inr (3, [.int plw, .int pld, .int plc, .int pls, .long plm, .ref plf, .ref plo, .ref plb, .ref pla]))]) hD hS hA [2] rfl
      refine va_calli (va_runV (As := []) (rest := [.int p1]) ⟨hx, hb, hml, hown, hts⟩ (c_X3_allCells l dC dI H.size pl plw pld plc pls plm plf plo plb pla ) (cwV 0 hts g_X3_joins_X3_allCells rfl rfl rfl (by decide +kernel) ⟨Nat.le_of_ble_eq_true rfl, Nat.le_of_ble_eq_true rfl⟩) ⟨fun a U g mk q => by obtain ⟨q0, q1, qP, qK, qD⟩ := q; exact ⟨q0, q1, qP, va_K.moved (u := U) (U := U.calling g mk a) (Vm.Alike.refl U.vm) qK, qD⟩, va_recv hKc hPc (ci := 3) (q0 := 0) rfl rfl, fun U hU hW => ⟨rfl, by rw [hU], by rw [hU]; exact hPc, va_K.moved hW.alike hKc, hDc.weaken (fun _ _ _ _ => trivial)⟩⟩ rfl rfl hl.1 rfl (lv_room (Nat.le_of_ble_eq_true rfl)) dX3_joins_22 ⟨Nat.le_of_ble_eq_true rfl, Nat.le_of_ble_eq_true rfl⟩) hS (fun q _ h => hFc q h) hFc (fun r_8 u t H1 locs ht hvm hw_9 hB hz1 hk1 hS => ?_)
      obtain ⟨hP1, hK1, hD1⟩ := hB
      have hP1 : va_P (dC, dI) vwCl [(pl, .inr (3, [.int plw, .int pld, .int plc, .int pls, .long plm, .ref plf, .ref plo, .ref plb, .ref pla]))] t.heap := hP1
      rw [ht] at hP1
      try dsimp only at hw_9
      obtain ⟨hP, hD⟩ := va_join (wr := [(plf, .inl (plkf, 40, .inl plF)), (plo, .inl (plko, 40, .inl plO))]) (w1 := [(pl, .inr (3, [.int plw, .int pld, .int plc, .int pls, .long plm, .ref plf, .ref plo, .ref plb, .ref pla]))]) hP hD [2] [0, 1] rfl rfl (by decide) (by decide) hk1 hFc hP1 hD1
      generalize H1 = H at hP hS ⊢
      have hP : va_P (dC, dI) vwCl [(plf, .inl (plkf, 40, .inl plF)), (plo, .inl (plko, 40, .inl plO)), (pl, .inr (3, [.int plw, .int pld, .int plc, .int pls, .long plm, .ref plf, .ref plo, .ref plb, .ref pla]))] H := hP
      have hD : va_D A [(plf, .inl (plkf, 40, .inl plF)), (plo, .inl (plko, 40, .inl plO)), (pl, .inr (3, [.int plw, .int pld, .int plc, .int pls, .long plm, .ref plf, .ref plo, .ref plb, .ref pla]))] := hD
      refine lv_icmp_ne (tgt := 32) hx hb dX3_joins_25 (by decide) (fun c_10 => ?_) (fun c_10 => ?_)
      · have c_10 : p1.toInt ≠ r_8.toInt := i_ne (a := p1) (b := r_8) rfl rfl c_10
        refine lv_iconst (v := 0) hx hb dX3_joins_32 (by decide) ?_
        have hP9 := hP.sub (ws' := [(pl, .inr (3, [.int plw, .int pld, .int plc, .int pls, .long plm, .ref plf, .ref plo, .ref plb, .ref pla])), (plf, .inl (plkf, 40, .inl plF)), (plo, .inl (plko, 40, .inl plO))]) [2, 0, 1] rfl
        have hD9 := hD.sub (ws' := [(pl, .inr (3, [.int plw, .int pld, .int plc, .int pls, .long plm, .ref plf, .ref plo, .ref plb, .ref pla])), (plf, .inl (plkf, 40, .inl plF)), (plo, .inl (plko, 40, .inl plO))]) [2, 0, 1] (by decide) rfl
        have hK9 := hK.sub (tys' := []) [] rfl
        refine W.widen (k := 0) (n := 0) (by omega) (by omega) ?_
        exact W.zret (v := 0) hx hb hr (by decide) (fun t ht hW => ⟨⟨0, (), rfl, (by have k0 : (0 : Int32).toInt = 0 := (by decide); first | rfl | trivial | (dsimp only; omega) | omega | (left; rfl) | (right; rfl) | (dsimp only; first | (left; rfl) | (right; rfl))), by rw [ht]; exact hP9, va_K.moved hW.alike hK9, hD9⟩, hS.F ht⟩) hS.2.2 dX3_joins_33
      · have c_10 : p1.toInt = r_8.toInt := i_eq (a := p1) (b := r_8) rfl rfl c_10
        refine lv_iconst (v := 1) hx hb dX3_joins_28 (by decide) ?_
        refine lv_goto (tgt := 33) hx hb dX3_joins_29 (by decide) ?_
        have hP9 := hP.sub (ws' := [(pl, .inr (3, [.int plw, .int pld, .int plc, .int pls, .long plm, .ref plf, .ref plo, .ref plb, .ref pla])), (plf, .inl (plkf, 40, .inl plF)), (plo, .inl (plko, 40, .inl plO))]) [2, 0, 1] rfl
        have hD9 := hD.sub (ws' := [(pl, .inr (3, [.int plw, .int pld, .int plc, .int pls, .long plm, .ref plf, .ref plo, .ref plb, .ref pla])), (plf, .inl (plkf, 40, .inl plF)), (plo, .inl (plko, 40, .inl plO))]) [2, 0, 1] (by decide) rfl
        have hK9 := hK.sub (tys' := []) [] rfl
        refine W.widen (k := 0) (n := 0) (by omega) (by omega) ?_
        exact W.zret (v := 1) hx hb hr (by decide) (fun t ht hW => ⟨⟨1, (), rfl, (by have k0 : (1 : Int32).toInt = 1 := (by decide); first | rfl | trivial | (dsimp only; omega) | omega | (left; rfl) | (right; rfl) | (dsimp only; first | (left; rfl) | (right; rfl))), by rw [ht]; exact hP9, va_K.moved hW.alike hK9, hD9⟩, hS.F ht⟩) hS.2.2 dX3_joins_33
    · have c_7 : 0 ≤ p0.toInt := i_nlt (a := p0) (b := 0) rfl (by decide) c_7
      refine lv_iload_n hx hb dX3_joins_12 rfl (lv_at hl 1 rfl) ?_
      refine lv_aload_n hx hb dX3_joins_13 rfl (lv_at hl 0 rfl) ?_
      refine va_get (D := (dC, dI)) (ci := 3) (v := .int pls) (C := RX3) (T := TX3) (N := 9) hx hb hts in_X3_joins_X3 hown hK hP 2 rfl rfl 3 (by decide) (hts _ wd_X3_joins_0) (fun _ h9 => h9) rfl dX3_joins_14 ?_
      refine lv_icmp_lt (tgt := 34) hx hb dX3_joins_17 (by decide) (fun c_11 => ?_) (fun c_11 => ?_)
      · have c_11 : p0.toInt < pls.toInt := i_lt (a := p0) (b := pls) rfl rfl c_11
        refine lv_iload_n hx hb dX3_joins_34 rfl (lv_at hl 2 rfl) ?_
        refine lv_aload_n hx hb dX3_joins_35 rfl (lv_at hl 0 rfl) ?_
        refine va_get (D := (dC, dI)) (ci := 3) (v := .ref plf) (C := RX3) (T := TX3) (N := 9) hx hb hts in_X3_joins_X3 hown hK hP 2 rfl rfl 5 (by decide) (hts _ wd_X3_joins_1) (fun _ h9 => h9) rfl dX3_joins_36 ?_
        refine lv_iload_n hx hb dX3_joins_39 rfl (lv_at hl 1 rfl) ?_
        have hin_12 : vp_in p0 40 := (i_in rfl (by omega) (by omega))
        refine va_iald hx hb hK hP 0 0 rfl rfl hin_12 dX3_joins_40 ?_
        refine lv_topi (fun v_13 ev_13 => ?_)
        have hv_13 := RG.at hR_plf hin_12 ev_13
        refine lv_ishr hx hb dX3_joins_41 ?_
        refine lv_topi (fun x_14 ex_14 => ?_)
        refine lv_iconst (v := 1) hx hb dX3_joins_42 (by decide) ?_
        refine lv_iand hx hb dX3_joins_43 ?_
        refine lv_topi (fun x_15 ex_15 => ?_)
        refine lv_iload_n hx hb dX3_joins_44 rfl (lv_at hl 2 rfl) ?_
        refine lv_aload_n hx hb dX3_joins_45 rfl (lv_at hl 0 rfl) ?_
        refine va_get (D := (dC, dI)) (ci := 3) (v := .ref plo) (C := RX3) (T := TX3) (N := 9) hx hb hts in_X3_joins_X3 hown hK hP 2 rfl rfl 6 (by decide) (hts _ wd_X3_joins_2) (fun _ h9 => h9) rfl dX3_joins_46 ?_
        refine lv_iload_n hx hb dX3_joins_49 rfl (lv_at hl 1 rfl) ?_
        have hin_16 : vp_in p0 40 := (i_in rfl (by omega) (by omega))
        refine va_iald hx hb hK hP 1 1 rfl rfl hin_16 dX3_joins_50 ?_
        refine lv_topi (fun v_17 ev_17 => ?_)
        have hv_17 := RG.at hR_plo hin_16 ev_17
        refine lv_ishr hx hb dX3_joins_51 ?_
        refine lv_topi (fun x_18 ex_18 => ?_)
        refine lv_iconst (v := 1) hx hb dX3_joins_52 (by decide) ?_
        refine lv_iand hx hb dX3_joins_53 ?_
        refine lv_topi (fun x_19 ex_19 => ?_)
        refine lv_icmp_eq (tgt := 61) hx hb dX3_joins_54 (by decide) (fun c_20 => ?_) (fun c_20 => ?_)
        · have c_20 : x_15.toInt = x_19.toInt := i_eq (a := x_15) (b := x_19) rfl rfl c_20
          refine lv_iconst (v := 0) hx hb dX3_joins_61 (by decide) ?_
          have hP9 := hP.sub (ws' := [(pl, .inr (3, [.int plw, .int pld, .int plc, .int pls, .long plm, .ref plf, .ref plo, .ref plb, .ref pla])), (plf, .inl (plkf, 40, .inl plF)), (plo, .inl (plko, 40, .inl plO))]) [2, 0, 1] rfl
          have hD9 := hD.sub (ws' := [(pl, .inr (3, [.int plw, .int pld, .int plc, .int pls, .long plm, .ref plf, .ref plo, .ref plb, .ref pla])), (plf, .inl (plkf, 40, .inl plF)), (plo, .inl (plko, 40, .inl plO))]) [2, 0, 1] (by decide) rfl
          have hK9 := hK.sub (tys' := []) [] rfl
          refine W.widen (k := 0) (n := 0) (by omega) (by omega) ?_
          exact W.zret (v := 0) hx hb hr (by decide) (fun t ht hW => ⟨⟨0, (), rfl, (by have k0 : (0 : Int32).toInt = 0 := (by decide); first | rfl | trivial | (dsimp only; omega) | omega | (left; rfl) | (right; rfl) | (dsimp only; first | (left; rfl) | (right; rfl))), by rw [ht]; exact hP9, va_K.moved hW.alike hK9, hD9⟩, hS.F ht⟩) hS.2.2 dX3_joins_62
        · have c_20 : x_15.toInt ≠ x_19.toInt := i_ne (a := x_15) (b := x_19) rfl rfl c_20
          refine lv_iconst (v := 1) hx hb dX3_joins_57 (by decide) ?_
          refine lv_goto (tgt := 62) hx hb dX3_joins_58 (by decide) ?_
          have hP9 := hP.sub (ws' := [(pl, .inr (3, [.int plw, .int pld, .int plc, .int pls, .long plm, .ref plf, .ref plo, .ref plb, .ref pla])), (plf, .inl (plkf, 40, .inl plF)), (plo, .inl (plko, 40, .inl plO))]) [2, 0, 1] rfl
          have hD9 := hD.sub (ws' := [(pl, .inr (3, [.int plw, .int pld, .int plc, .int pls, .long plm, .ref plf, .ref plo, .ref plb, .ref pla])), (plf, .inl (plkf, 40, .inl plF)), (plo, .inl (plko, 40, .inl plO))]) [2, 0, 1] (by decide) rfl
          have hK9 := hK.sub (tys' := []) [] rfl
          refine W.widen (k := 0) (n := 0) (by omega) (by omega) ?_
          exact W.zret (v := 1) hx hb hr (by decide) (fun t ht hW => ⟨⟨1, (), rfl, (by have k0 : (1 : Int32).toInt = 1 := (by decide); first | rfl | trivial | (dsimp only; omega) | omega | (left; rfl) | (right; rfl) | (dsimp only; first | (left; rfl) | (right; rfl))), by rw [ht]; exact hP9, va_K.moved hW.alike hK9, hD9⟩, hS.F ht⟩) hS.2.2 dX3_joins_62
      · have c_11 : pls.toInt ≤ p0.toInt := i_nlt (a := p0) (b := pls) rfl rfl c_11
        refine lv_iload_n hx hb dX3_joins_20 rfl (lv_at hl 2 rfl) ?_
        refine lv_aload_n hx hb dX3_joins_21 rfl (lv_at hl 0 rfl) ?_
        have hPc := hP.sub (ws' := [(pl, .inr (3, [.int plw, .int pld, .int plc, .int pls, .long plm, .ref plf, .ref plo, .ref plb, .ref pla]))]) [2] rfl
        have hDc := hD.sub (ws' := [(pl, .inr (3, [.int plw, .int pld, .int plc, .int pls, .long plm, .ref plf, .ref plo, .ref plb, .ref pla]))]) [2] (by decide) rfl
        have hKc := hK.sub (tys' := []) [] rfl
        have hFc := va_free (wc := [(pl, .inr (3, [.int plw, .int pld, .int plc, .int pls, .long plm, .ref plf, .ref plo, .ref plb, .ref pla]))]) hD hS hA [2] rfl
        refine va_calli (va_runV (As := []) (rest := [.int p1]) ⟨hx, hb, hml, hown, hts⟩ (c_X3_allCells l dC dI H.size pl plw pld plc pls plm plf plo plb pla ) (cwV 0 hts g_X3_joins_X3_allCells rfl rfl rfl (by decide +kernel) ⟨Nat.le_of_ble_eq_true rfl, Nat.le_of_ble_eq_true rfl⟩) ⟨fun a U g mk q => by obtain ⟨q0, q1, qP, qK, qD⟩ := q; exact ⟨q0, q1, qP, va_K.moved (u := U) (U := U.calling g mk a) (Vm.Alike.refl U.vm) qK, qD⟩, va_recv hKc hPc (ci := 3) (q0 := 0) rfl rfl, fun U hU hW => ⟨rfl, by rw [hU], by rw [hU]; exact hPc, va_K.moved hW.alike hKc, hDc.weaken (fun _ _ _ _ => trivial)⟩⟩ rfl rfl hl.1 rfl (lv_room (Nat.le_of_ble_eq_true rfl)) dX3_joins_22 ⟨Nat.le_of_ble_eq_true rfl, Nat.le_of_ble_eq_true rfl⟩) hS (fun q _ h => hFc q h) hFc (fun r_21 u t H1 locs ht hvm hw_22 hB hz1 hk1 hS => ?_)
        obtain ⟨hP1, hK1, hD1⟩ := hB
        have hP1 : va_P (dC, dI) vwCl [(pl, .inr (3, [.int plw, .int pld, .int plc, .int pls, .long plm, .ref plf, .ref plo, .ref plb, .ref pla]))] t.heap := hP1
        rw [ht] at hP1
        try dsimp only at hw_22
        obtain ⟨hP, hD⟩ := va_join (wr := [(plf, .inl (plkf, 40, .inl plF)), (plo, .inl (plko, 40, .inl plO))]) (w1 := [(pl, .inr (3, [.int plw, .int pld, .int plc, .int pls, .long plm, .ref plf, .ref plo, .ref plb, .ref pla]))]) hP hD [2] [0, 1] rfl rfl (by decide) (by decide) hk1 hFc hP1 hD1
        generalize H1 = H at hP hS ⊢
        have hP : va_P (dC, dI) vwCl [(plf, .inl (plkf, 40, .inl plF)), (plo, .inl (plko, 40, .inl plO)), (pl, .inr (3, [.int plw, .int pld, .int plc, .int pls, .long plm, .ref plf, .ref plo, .ref plb, .ref pla]))] H := hP
        have hD : va_D A [(plf, .inl (plkf, 40, .inl plF)), (plo, .inl (plko, 40, .inl plO)), (pl, .inr (3, [.int plw, .int pld, .int plc, .int pls, .long plm, .ref plf, .ref plo, .ref plb, .ref pla]))] := hD
        refine lv_icmp_ne (tgt := 32) hx hb dX3_joins_25 (by decide) (fun c_23 => ?_) (fun c_23 => ?_)
        · have c_23 : p1.toInt ≠ r_21.toInt := i_ne (a := p1) (b := r_21) rfl rfl c_23
          refine lv_iconst (v := 0) hx hb dX3_joins_32 (by decide) ?_
          have hP9 := hP.sub (ws' := [(pl, .inr (3, [.int plw, .int pld, .int plc, .int pls, .long plm, .ref plf, .ref plo, .ref plb, .ref pla])), (plf, .inl (plkf, 40, .inl plF)), (plo, .inl (plko, 40, .inl plO))]) [2, 0, 1] rfl
          have hD9 := hD.sub (ws' := [(pl, .inr (3, [.int plw, .int pld, .int plc, .int pls, .long plm, .ref plf, .ref plo, .ref plb, .ref pla])), (plf, .inl (plkf, 40, .inl plF)), (plo, .inl (plko, 40, .inl plO))]) [2, 0, 1] (by decide) rfl
          have hK9 := hK.sub (tys' := []) [] rfl
          refine W.widen (k := 0) (n := 0) (by omega) (by omega) ?_
          exact W.zret (v := 0) hx hb hr (by decide) (fun t ht hW => ⟨⟨0, (), rfl, (by have k0 : (0 : Int32).toInt = 0 := (by decide); first | rfl | trivial | (dsimp only; omega) | omega | (left; rfl) | (right; rfl) | (dsimp only; first | (left; rfl) | (right; rfl))), by rw [ht]; exact hP9, va_K.moved hW.alike hK9, hD9⟩, hS.F ht⟩) hS.2.2 dX3_joins_33
        · have c_23 : p1.toInt = r_21.toInt := i_eq (a := p1) (b := r_21) rfl rfl c_23
          refine lv_iconst (v := 1) hx hb dX3_joins_28 (by decide) ?_
          refine lv_goto (tgt := 33) hx hb dX3_joins_29 (by decide) ?_
          have hP9 := hP.sub (ws' := [(pl, .inr (3, [.int plw, .int pld, .int plc, .int pls, .long plm, .ref plf, .ref plo, .ref plb, .ref pla])), (plf, .inl (plkf, 40, .inl plF)), (plo, .inl (plko, 40, .inl plO))]) [2, 0, 1] rfl
          have hD9 := hD.sub (ws' := [(pl, .inr (3, [.int plw, .int pld, .int plc, .int pls, .long plm, .ref plf, .ref plo, .ref plb, .ref pla])), (plf, .inl (plkf, 40, .inl plF)), (plo, .inl (plko, 40, .inl plO))]) [2, 0, 1] (by decide) rfl
          have hK9 := hK.sub (tys' := []) [] rfl
          refine W.widen (k := 0) (n := 0) (by omega) (by omega) ?_
          exact W.zret (v := 1) hx hb hr (by decide) (fun t ht hW => ⟨⟨1, (), rfl, (by have k0 : (1 : Int32).toInt = 1 := (by decide); first | rfl | trivial | (dsimp only; omega) | omega | (left; rfl) | (right; rfl) | (dsimp only; first | (left; rfl) | (right; rfl))), by rw [ht]; exact hP9, va_K.moved hW.alike hK9, hD9⟩, hS.F ht⟩) hS.2.2 dX3_joins_33

theorem dX3_bridges_0 : decode cX3_bridges 0 = .ok (.lconst 0, 1) := by decide +kernel
theorem dX3_bridges_1 : decode cX3_bridges 1 = .ok (.lstore_n 3, 1) := by decide +kernel
theorem dX3_bridges_2 : decode cX3_bridges 2 = .ok (.iconst 0, 1) := by decide +kernel
theorem dX3_bridges_3 : decode cX3_bridges 3 = .ok (.istore 5, 2) := by decide +kernel
theorem dX3_bridges_5 : decode cX3_bridges 5 = .ok (.iload 5, 2) := by decide +kernel
theorem dX3_bridges_7 : decode cX3_bridges 7 = .ok (.aload_n 0, 1) := by decide +kernel
theorem dX3_bridges_8 : decode cX3_bridges 8 = .ok (.getfield 21, 3) := by decide +kernel
theorem dX3_bridges_11 : decode cX3_bridges 11 = .ok (.if_icmp .ge 43, 3) := by decide +kernel
theorem dX3_bridges_14 : decode cX3_bridges 14 = .ok (.aload_n 0, 1) := by decide +kernel
theorem dX3_bridges_15 : decode cX3_bridges 15 = .ok (.lload_n 1, 1) := by decide +kernel
theorem dX3_bridges_16 : decode cX3_bridges 16 = .ok (.iload 5, 2) := by decide +kernel
theorem dX3_bridges_18 : decode cX3_bridges 18 = .ok (.invokevirtual 67, 3) := by decide +kernel
theorem dX3_bridges_21 : decode cX3_bridges 21 = .ok (.ifCond .eq 27, 3) := by decide +kernel
theorem dX3_bridges_24 : decode cX3_bridges 24 = .ok (.aload_n 0, 1) := by decide +kernel
theorem dX3_bridges_25 : decode cX3_bridges 25 = .ok (.iload 5, 2) := by decide +kernel
theorem dX3_bridges_27 : decode cX3_bridges 27 = .ok (.lload_n 1, 1) := by decide +kernel
theorem dX3_bridges_28 : decode cX3_bridges 28 = .ok (.invokevirtual 83, 3) := by decide +kernel
theorem dX3_bridges_31 : decode cX3_bridges 31 = .ok (.aload_n 0, 1) := by decide +kernel
theorem dX3_bridges_32 : decode cX3_bridges 32 = .ok (.invokevirtual 79, 3) := by decide +kernel
theorem dX3_bridges_35 : decode cX3_bridges 35 = .ok (.if_icmp .eq 13, 3) := by decide +kernel
theorem dX3_bridges_38 : decode cX3_bridges 38 = .ok (.lload_n 3, 1) := by decide +kernel
theorem dX3_bridges_39 : decode cX3_bridges 39 = .ok (.aload_n 0, 1) := by decide +kernel
theorem dX3_bridges_40 : decode cX3_bridges 40 = .ok (.getfield 35, 3) := by decide +kernel
theorem dX3_bridges_43 : decode cX3_bridges 43 = .ok (.iload 5, 2) := by decide +kernel
theorem dX3_bridges_45 : decode cX3_bridges 45 = .ok (.laload, 1) := by decide +kernel
theorem dX3_bridges_46 : decode cX3_bridges 46 = .ok (.lor, 1) := by decide +kernel
theorem dX3_bridges_47 : decode cX3_bridges 47 = .ok (.lstore_n 3, 1) := by decide +kernel
theorem dX3_bridges_48 : decode cX3_bridges 48 = .ok (.iinc 5 1, 3) := by decide +kernel
theorem dX3_bridges_51 : decode cX3_bridges 51 = .ok (.goto (-46), 3) := by decide +kernel
theorem dX3_bridges_54 : decode cX3_bridges 54 = .ok (.lload_n 3, 1) := by decide +kernel
theorem dX3_bridges_55 : decode cX3_bridges 55 = .ok (.lreturn, 1) := by decide +kernel
def wz_X3_bridges : List Cond := .code yX3_bridges cX3_bridges 6 (some .long) :: ([Cond.fieldLink RX3 21 "HedgeMaze$Plan" "sideCount" "I", Cond.fieldLink RX3 35 "HedgeMaze$Plan" "bits" "[J", Cond.methodLink RX3 67 yX3_has, Cond.instanceMethod yX3_has, Cond.selects RX3 yX3_has yX3_has, Cond.initialized RX3, Cond.code yX3_has cX3_has 4 (some .boolean), Cond.methodLink RX3 58 yX3_bitOf, Cond.instanceMethod yX3_bitOf, Cond.selects RX3 yX3_bitOf yX3_bitOf, Cond.code yX3_bitOf cX3_bitOf 3 (some .long), Cond.methodLink RX3 83 yX3_partBeside, Cond.instanceMethod yX3_partBeside, Cond.selects RX3 yX3_partBeside yX3_partBeside, Cond.code yX3_partBeside cX3_partBeside 4 (some .int), Cond.fieldLink RX3 28 "HedgeMaze$Plan" "first" "[I", Cond.constantLong RX3 65 (-1), Cond.methodLink RX3 79 yX3_allCells, Cond.instanceMethod yX3_allCells, Cond.selects RX3 yX3_allCells yX3_allCells, Cond.code yX3_allCells cX3_allCells 1 (some .int), Cond.fieldLink RX3 18 "HedgeMaze$Plan" "cellCount" "I", Cond.methodLink RX3 75 yX3_spread, Cond.instanceMethod yX3_spread, Cond.selects RX3 yX3_spread yX3_spread, Cond.code yX3_spread cX3_spread 9 (some .int), Cond.methodLink RX3 42 Lib.Math.min.name, Cond.static Lib.Math.min.name, Cond.initialized "java/lang/Math", Cond.code Lib.Math.min.name Lib.Math.min.code 2 (some .int), Cond.methodLink RX3 71 yX3_grow, Cond.instanceMethod yX3_grow, Cond.selects RX3 yX3_grow yX3_grow, Cond.code yX3_grow cX3_grow 6 (some .int), Cond.fieldLink RX3 9 "HedgeMaze$Plan" "wide" "I"] ++ wsX30)
theorem wd_X3_bridges_0 : Cond.fieldLink RX3 21 "HedgeMaze$Plan" "sideCount" "I" ∈ wz_X3_bridges := List.mem_of_getElem? (i := 1) rfl
theorem wd_X3_bridges_1 : Cond.fieldLink RX3 35 "HedgeMaze$Plan" "bits" "[J" ∈ wz_X3_bridges := List.mem_of_getElem? (i := 2) rfl
theorem in_X3_bridges_X3 : ∀ w ∈ wsX30, w ∈ wz_X3_bridges := fun _ h => List.mem_cons_of_mem _ (List.mem_append_right _ h)
set_option maxRecDepth 20000 in
theorem g_X3_bridges_X3_has : GoodIn wz_X3_bridges (wsV RX3 67 RX3 yX3_has wz_X3_has) := goodIn_r _ [3, 4, 5, 6, 7, 8, 9, 10, 6, 11, 1, 2, 36, 37, 38, 39, 40, 41, 42, 43, 44] rfl (by decide +kernel)
set_option maxRecDepth 20000 in
theorem g_X3_bridges_X3_partBeside : GoodIn wz_X3_bridges (wsV RX3 83 RX3 yX3_partBeside wz_X3_partBeside) := goodIn_r _ [12, 13, 14, 6, 15, 1, 16, 2, 17, 18, 19, 20, 6, 21, 22, 23, 24, 25, 26, 27, 28, 29, 30, 31, 32, 33, 34, 35, 36, 37, 38, 39, 40, 41, 42, 43, 44] rfl (by decide +kernel)
set_option maxRecDepth 20000 in
theorem g_X3_bridges_X3_allCells : GoodIn wz_X3_bridges (wsV RX3 79 RX3 yX3_allCells wz_X3_allCells) := goodIn_r _ [18, 19, 20, 6, 21, 22, 36, 37, 38, 39, 40, 41, 42, 43, 44] rfl (by decide +kernel)
set_option maxHeartbeats 4000000 in
set_option maxRecDepth 100000 in
theorem c_X3_bridges (l : Launch) (dC : Nat → ClassId) (dI : Nat → Nat → Nat) (sz : Nat) (pl : Nat) (plw : Int32) (pld : Int32) (plc : Int32) (pls : Int32) (plm : Int64) (plf : Nat) (plo : Nat) (plb : Nat) (pla : Nat) (plkf : ClassId) (plF : Nat → Int32) (plkb : ClassId) (plB : Nat → Int64) (p0 : Int64) (h_pls : 0 ≤ pls.toInt ∧ pls.toInt ≤ 40) (hR_plf : RG plF 40 0 24) : Met l yX3_bridges wz_X3_bridges ({ frames := 3, cells := 0, slots := 0, locals := 91 }) (va_Pc [.ref pl, .long p0] (fun U => U.heap.size = sz ∧ va_P (dC, dI) vwCl [(pl, .inr (3, [.int plw, .int pld, .int plc, .int pls, .long plm, .ref plf, .ref plo, .ref plb, .ref pla])), (plf, .inl (plkf, 40, .inl plF)), (plb, .inl (plkb, 40, .inr (.inl plB)))] U.heap ∧ va_K (dC, dI) vwCl [(plkf, .int), (plkb, .long)] U ∧ va_D (fun _ => True) [(pl, .inr (3, [.int plw, .int pld, .int plc, .int pls, .long plm, .ref plf, .ref plo, .ref plb, .ref pla])), (plf, .inl (plkf, 40, .inl plF)), (plb, .inl (plkb, 40, .inr (.inl plB)))])) (va_Ql (fun (r : Int64) (u : Unit) => True) (fun (u : Unit) (t : State) => va_P (dC, dI) vwCl [(pl, .inr (3, [.int plw, .int pld, .int plc, .int pls, .long plm, .ref plf, .ref plo, .ref plb, .ref pla])), (plf, .inl (plkf, 40, .inl plF)), (plb, .inl (plkb, 40, .inr (.inl plB)))] t.heap ∧ va_K (dC, dI) vwCl [] t ∧ va_D (va_A [(pl, .inr (3, [.int plw, .int pld, .int plc, .int pls, .long plm, .ref plf, .ref plo, .ref plb, .ref pla])), (plf, .inl (plkf, 40, .inl plF)), (plb, .inl (plkb, 40, .inr (.inl plB)))] sz) [(pl, .inr (3, [.int plw, .int pld, .int plc, .int pls, .long plm, .ref plf, .ref plo, .ref plb, .ref pla])), (plf, .inl (plkf, 40, .inl plF)), (plb, .inl (plkb, 40, .inr (.inl plB)))]) (va_A [(pl, .inr (3, [.int plw, .int pld, .int plc, .int pls, .long plm, .ref plf, .ref plo, .ref plb, .ref pla])), (plf, .inl (plkf, 40, .inl plF)), (plb, .inl (plkb, 40, .inr (.inl plB)))] sz)) 0 0 (va_A [(pl, .inr (3, [.int plw, .int pld, .int plc, .int pls, .long plm, .ref plf, .ref plo, .ref plb, .ref pla])), (plf, .inl (plkf, 40, .inl plF)), (plb, .inl (plkb, 40, .inr (.inl plB)))] sz) := by
  refine Met.ofW (cc := cX3_bridges) (maxL := 6) (ret := (some .long)) (by decide) rfl ?_
  intro p e s m args below meth c s₁ B hml hv
  obtain ⟨rfl, hsz, hP, hK, hD0⟩ := hv
  have hx := B.exec
  have hb := B.bytes
  have hr := B.returns
  have hts := atoms_spec (ws := wz_X3_bridges) B.pre
  have hown : s.vm.findClass RX3 = some m.cls := findClass_of_methodNamed B.named
  have hlocks := B.notSynchronized
  subst hsz
  have hD := hD0.self (sz := s.heap.size)
  generalize hAe : va_A [(pl, .inr (3, [.int plw, .int pld, .int plc, .int pls, .long plm, .ref plf, .ref plo, .ref plb, .ref pla])), (plf, .inl (plkf, 40, .inl plF)), (plb, .inl (plkb, 40, .inr (.inl plB)))] s.heap.size = A at hD ⊢
  have hA : ∀ q : Nat, s.heap.size ≤ q → A q := fun q h => by rw [← hAe]; exact Or.inr h
  have hS : va_S A s.heap s.heap [] := va_S.rf
  have hP : va_P (dC, dI) vwCl [(pl, .inr (3, [.int plw, .int pld, .int plc, .int pls, .long plm, .ref plf, .ref plo, .ref plb, .ref pla])), (plf, .inl (plkf, 40, .inl plF)), (plb, .inl (plkb, 40, .inr (.inl plB)))] s.heap := hP
  have hl := lv_entry ([.ref pl, .long p0]) (n := 6) (Nat.le_of_ble_eq_true rfl)
  rw [lg_entry_eq]
  generalize (lg_sl ([.ref pl, .long p0]) ++ List.replicate (6 - (lg_sl ([.ref pl, .long p0])).length) Slot.unset).toArray = ls at hl ⊢
  have hl : lv_has ls 6 [(0, .ref pl), (1, .long p0)] := hl
  refine lv_lconst (v := 0) hx hb dX3_bridges_0 (by decide) ?_
  refine lv_lstore_n (lv' := [(3, .long 0), (0, .ref pl), (1, .long p0)]) hx hb dX3_bridges_1 rfl hl (by decide) rfl (fun ls hl => ?_)
  refine lv_iconst (v := 0) hx hb dX3_bridges_2 (by decide) ?_
  refine lv_istore (lv' := [(5, .int 0), (3, .long 0), (0, .ref pl), (1, .long p0)]) hx hb dX3_bridges_3 hl (by decide) rfl (fun ls hl => ?_)
  refine lp_W (I := fun (a : Int32 × Int64) H locs ls => (0 ≤ a.1.toInt ∧ a.1.toInt ≤ pls.toInt) ∧ va_P (dC, dI) vwCl [(pl, .inr (3, [.int plw, .int pld, .int plc, .int pls, .long plm, .ref plf, .ref plo, .ref plb, .ref pla])), (plf, .inl (plkf, 40, .inl plF)), (plb, .inl (plkb, 40, .inr (.inl plB)))] H ∧ va_D A [(pl, .inr (3, [.int plw, .int pld, .int plc, .int pls, .long plm, .ref plf, .ref plo, .ref plb, .ref pla])), (plf, .inl (plkf, 40, .inl plF)), (plb, .inl (plkb, 40, .inr (.inl plB)))] ∧ va_S A s.heap H locs ∧ lv_has ls 6 [(5, .int a.1), (3, .long a.2), (0, .ref pl), (1, .long p0)]) (μ := fun a => (pls.toInt - a.1.toInt).toNat) ?_ ((0 : Int32), (0 : Int64)) ⟨(by have k0 : (0 : Int32).toInt = 0 := (by decide); (try dsimp only); omega), hP.sub [0, 1, 2] rfl, hD.sub [0, 1, 2] (by decide) rfl, hS, lv_sub hl [0, 1, 2, 3] rfl⟩
  intro a H locs ls hI ih5
  obtain ⟨sd, fd⟩ := a
  obtain ⟨h_sd, hP, hD, hS, hl⟩ := hI
  have h_sd : 0 ≤ sd.toInt ∧ sd.toInt ≤ pls.toInt := h_sd
  have hP : va_P (dC, dI) vwCl [(pl, .inr (3, [.int plw, .int pld, .int plc, .int pls, .long plm, .ref plf, .ref plo, .ref plb, .ref pla])), (plf, .inl (plkf, 40, .inl plF)), (plb, .inl (plkb, 40, .inr (.inl plB)))] H := hP
  have hD : va_D A [(pl, .inr (3, [.int plw, .int pld, .int plc, .int pls, .long plm, .ref plf, .ref plo, .ref plb, .ref pla])), (plf, .inl (plkf, 40, .inl plF)), (plb, .inl (plkb, 40, .inr (.inl plB)))] := hD
  have hl : lv_has ls 6 [(5, .int sd), (3, .long fd), (0, .ref pl), (1, .long p0)] := hl
  refine lv_iload hx hb dX3_bridges_5 (lv_at hl 0 rfl) ?_
  refine lv_aload_n hx hb dX3_bridges_7 rfl (lv_at hl 2 rfl) ?_
  refine va_get (D := (dC, dI)) (ci := 3) (v := .int pls) (C := RX3) (T := TX3) (N := 9) hx hb hts in_X3_bridges_X3 hown hK hP 0 rfl rfl 3 (by decide) (hts _ wd_X3_bridges_0) (fun _ h9 => h9) rfl dX3_bridges_8 ?_
  refine lv_icmp_ge (tgt := 54) hx hb dX3_bridges_11 (by decide) (fun c_1 => ?_) (fun c_1 => ?_)
  · have c_1 : pls.toInt ≤ sd.toInt := i_le (a := pls) (b := sd) rfl rfl c_1
    refine lv_lload_n hx hb dX3_bridges_54 rfl (lv_at hl 1 rfl) ?_
    have hP9 := hP.sub (ws' := [(pl, .inr (3, [.int plw, .int pld, .int plc, .int pls, .long plm, .ref plf, .ref plo, .ref plb, .ref pla])), (plf, .inl (plkf, 40, .inl plF)), (plb, .inl (plkb, 40, .inr (.inl plB)))]) [0, 1, 2] rfl
    have hD9 := hD.sub (ws' := [(pl, .inr (3, [.int plw, .int pld, .int plc, .int pls, .long plm, .ref plf, .ref plo, .ref plb, .ref pla])), (plf, .inl (plkf, 40, .inl plF)), (plb, .inl (plkb, 40, .inr (.inl plB)))]) [0, 1, 2] (by decide) rfl
    have hK9 := hK.sub (tys' := []) [] rfl
    refine W.widen (k := 0) (n := 0) (by omega) (by omega) ?_
    exact W.lret (v := fd) hx hb hr (fun t ht hW => ⟨⟨fd, (), rfl, trivial, by rw [ht]; exact hP9, va_K.moved hW.alike hK9, hD9⟩, hS.F ht⟩) hS.2.2 dX3_bridges_55
  · have c_1 : sd.toInt < pls.toInt := i_nle (a := pls) (b := sd) rfl rfl c_1
    refine lv_aload_n hx hb dX3_bridges_14 rfl (lv_at hl 2 rfl) ?_
    refine lv_lload_n hx hb dX3_bridges_15 rfl (lv_at hl 3 rfl) ?_
    refine lv_iload hx hb dX3_bridges_16 (lv_at hl 0 rfl) ?_
    have hPc := hP.sub (ws' := [(pl, .inr (3, [.int plw, .int pld, .int plc, .int pls, .long plm, .ref plf, .ref plo, .ref plb, .ref pla])), (plb, .inl (plkb, 40, .inr (.inl plB)))]) [0, 2] rfl
    have hDc := hD.sub (ws' := [(pl, .inr (3, [.int plw, .int pld, .int plc, .int pls, .long plm, .ref plf, .ref plo, .ref plb, .ref pla])), (plb, .inl (plkb, 40, .inr (.inl plB)))]) [0, 2] (by decide) rfl
    have hKc := hK.sub (tys' := [(plkb, .long)]) [1] rfl
    have hFc := va_free (wc := [(pl, .inr (3, [.int plw, .int pld, .int plc, .int pls, .long plm, .ref plf, .ref plo, .ref plb, .ref pla])), (plb, .inl (plkb, 40, .inr (.inl plB)))]) hD hS hA [0, 2] rfl
    refine va_calli (va_runV (As := [.long p0, .int sd]) (rest := []) ⟨hx, hb, hml, hown, hts⟩ (c_X3_has l dC dI H.size pl plw pld plc pls plm plf plo plb pla plkb plB p0 sd (by omega)) (cwV 2 hts g_X3_bridges_X3_has rfl rfl rfl (by decide +kernel) ⟨Nat.le_of_ble_eq_true rfl, Nat.le_of_ble_eq_true rfl⟩) ⟨fun a U g mk q => by obtain ⟨q0, q1, qP, qK, qD⟩ := q; exact ⟨q0, q1, qP, va_K.moved (u := U) (U := U.calling g mk a) (Vm.Alike.refl U.vm) qK, qD⟩, va_recv hKc hPc (ci := 3) (q0 := 0) rfl rfl, fun U hU hW => ⟨rfl, by rw [hU], by rw [hU]; exact hPc, va_K.moved hW.alike hKc, hDc.weaken (fun _ _ _ _ => trivial)⟩⟩ rfl rfl hl.1 rfl (lv_room (Nat.le_of_ble_eq_true rfl)) dX3_bridges_18 ⟨Nat.le_of_ble_eq_true rfl, Nat.le_of_ble_eq_true rfl⟩) hS (fun q _ h => hFc q h) hFc (fun r_2 u t H1 locs ht hvm hw_3 hB hz1 hk1 hS => ?_)
    obtain ⟨hP1, hK1, hD1⟩ := hB
    have hP1 : va_P (dC, dI) vwCl [(pl, .inr (3, [.int plw, .int pld, .int plc, .int pls, .long plm, .ref plf, .ref plo, .ref plb, .ref pla])), (plb, .inl (plkb, 40, .inr (.inl plB)))] t.heap := hP1
    rw [ht] at hP1
    try dsimp only at hw_3
    obtain ⟨hP, hD⟩ := va_join (wr := [(plf, .inl (plkf, 40, .inl plF))]) (w1 := [(pl, .inr (3, [.int plw, .int pld, .int plc, .int pls, .long plm, .ref plf, .ref plo, .ref plb, .ref pla])), (plb, .inl (plkb, 40, .inr (.inl plB)))]) hP hD [0, 2] [1] rfl rfl (by decide) (by decide) hk1 hFc hP1 hD1
    generalize H1 = H at hP hS ⊢
    have hP : va_P (dC, dI) vwCl [(plf, .inl (plkf, 40, .inl plF)), (pl, .inr (3, [.int plw, .int pld, .int plc, .int pls, .long plm, .ref plf, .ref plo, .ref plb, .ref pla])), (plb, .inl (plkb, 40, .inr (.inl plB)))] H := hP
    have hD : va_D A [(plf, .inl (plkf, 40, .inl plF)), (pl, .inr (3, [.int plw, .int pld, .int plc, .int pls, .long plm, .ref plf, .ref plo, .ref plb, .ref pla])), (plb, .inl (plkb, 40, .inr (.inl plB)))] := hD
    refine lv_if_eq (tgt := 48) hx hb dX3_bridges_21 (by decide) (fun c_4 => ?_) (fun c_4 => ?_)
    · have c_4 : r_2.toInt = 0 := i_eq (a := r_2) (b := 0) rfl (by decide) c_4
      obtain ⟨x_5, ex_5⟩ : ∃ y9 : Int32, y9 = sd + Int32.ofInt 1 := ⟨_, rfl⟩
      have zx_5 : x_5.toInt = sd.toInt + 1 := by rw [ex_5]; exact i_add rfl (show (Int32.ofInt 1).toInt = 1 by decide) (by omega) (by omega)
      refine lv_iinc (v := x_5) (lv' := [(5, .int x_5), (3, .long fd), (0, .ref pl), (1, .long p0)]) hx hb dX3_bridges_48 hl (k := 0) rfl (by rw [ex_5]) (by decide) rfl (fun ls hl => ?_)
      refine lv_goto (tgt := 5) hx hb dX3_bridges_51 (by decide) ?_
      exact ih5 (x_5, fd) _ _ _ ⟨(by (try dsimp only); omega), hP.sub [1, 0, 2] rfl, hD.sub [1, 0, 2] (by decide) rfl, hS, lv_sub hl [0, 1, 2, 3] rfl⟩ (by (try dsimp only); omega)
    · have c_4 : r_2.toInt ≠ 0 := i_ne (a := r_2) (b := 0) rfl (by decide) c_4
      refine lv_aload_n hx hb dX3_bridges_24 rfl (lv_at hl 2 rfl) ?_
      refine lv_iload hx hb dX3_bridges_25 (lv_at hl 0 rfl) ?_
      refine lv_lload_n hx hb dX3_bridges_27 rfl (lv_at hl 3 rfl) ?_
      have hPc := hP.sub (ws' := [(pl, .inr (3, [.int plw, .int pld, .int plc, .int pls, .long plm, .ref plf, .ref plo, .ref plb, .ref pla])), (plf, .inl (plkf, 40, .inl plF)), (plb, .inl (plkb, 40, .inr (.inl plB)))]) [1, 0, 2] rfl
      have hDc := hD.sub (ws' := [(pl, .inr (3, [.int plw, .int pld, .int plc, .int pls, .long plm, .ref plf, .ref plo, .ref plb, .ref pla])), (plf, .inl (plkf, 40, .inl plF)), (plb, .inl (plkb, 40, .inr (.inl plB)))]) [1, 0, 2] (by decide) rfl
      have hKc := hK.sub (tys' := [(plkf, .int), (plkb, .long)]) [0, 1] rfl
      have hFc := va_free (wc := [(pl, .inr (3, [.int plw, .int pld, .int plc, .int pls, .long plm, .ref plf, .ref plo, .ref plb, .ref pla])), (plf, .inl (plkf, 40, .inl plF)), (plb, .inl (plkb, 40, .inr (.inl plB)))]) hD hS hA [1, 0, 2] rfl
      refine va_calli (va_runV (As := [.int sd, .long p0]) (rest := []) ⟨hx, hb, hml, hown, hts⟩ (c_X3_partBeside l dC dI H.size pl plw pld plc pls plm plf plo plb pla plkf plF plkb plB sd p0 (by omega) hR_plf) (cwV 2 hts g_X3_bridges_X3_partBeside rfl rfl rfl (by decide +kernel) ⟨Nat.le_of_ble_eq_true rfl, Nat.le_of_ble_eq_true rfl⟩) ⟨fun a U g mk q => by obtain ⟨q0, q1, qP, qK, qD⟩ := q; exact ⟨q0, q1, qP, va_K.moved (u := U) (U := U.calling g mk a) (Vm.Alike.refl U.vm) qK, qD⟩, va_recv hKc hPc (ci := 3) (q0 := 0) rfl rfl, fun U hU hW => ⟨rfl, by rw [hU], by rw [hU]; exact hPc, va_K.moved hW.alike hKc, hDc.weaken (fun _ _ _ _ => trivial)⟩⟩ rfl rfl hl.1 rfl (lv_room (Nat.le_of_ble_eq_true rfl)) dX3_bridges_28 ⟨Nat.le_of_ble_eq_true rfl, Nat.le_of_ble_eq_true rfl⟩) hS (fun q _ h => hFc q h) hFc (fun r_6 u t H1 locs ht hvm hw_7 hB hz1 hk1 hS => ?_)
      obtain ⟨hP1, hK1, hD1⟩ := hB
      have hP1 : va_P (dC, dI) vwCl [(pl, .inr (3, [.int plw, .int pld, .int plc, .int pls, .long plm, .ref plf, .ref plo, .ref plb, .ref pla])), (plf, .inl (plkf, 40, .inl plF)), (plb, .inl (plkb, 40, .inr (.inl plB)))] t.heap := hP1
      rw [ht] at hP1
      try dsimp only at hw_7
      obtain ⟨hP, hD⟩ := va_join (wr := []) (w1 := [(pl, .inr (3, [.int plw, .int pld, .int plc, .int pls, .long plm, .ref plf, .ref plo, .ref plb, .ref pla])), (plf, .inl (plkf, 40, .inl plF)), (plb, .inl (plkb, 40, .inr (.inl plB)))]) hP hD [1, 0, 2] [] rfl rfl (by decide) (by decide) hk1 hFc hP1 hD1
      generalize H1 = H at hP hS ⊢
      have hP : va_P (dC, dI) vwCl [(pl, .inr (3, [.int plw, .int pld, .int plc, .int pls, .long plm, .ref plf, .ref plo, .ref plb, .ref pla])), (plf, .inl (plkf, 40, .inl plF)), (plb, .inl (plkb, 40, .inr (.inl plB)))] H := hP
      have hD : va_D A [(pl, .inr (3, [.int plw, .int pld, .int plc, .int pls, .long plm, .ref plf, .ref plo, .ref plb, .ref pla])), (plf, .inl (plkf, 40, .inl plF)), (plb, .inl (plkb, 40, .inr (.inl plB)))] := hD
      refine lv_aload_n hx hb dX3_bridges_31 rfl (lv_at hl 2 rfl) ?_
      have hPc := hP.sub (ws' := [(pl, .inr (3, [.int plw, .int pld, .int plc, .int pls, .long plm, .ref plf, .ref plo, .ref plb, .ref pla]))]) [0] rfl
      have hDc := hD.sub (ws' := [(pl, .inr (3, [.int plw, .int pld, .int plc, .int pls, .long plm, .ref plf, .ref plo, .ref plb, .ref pla]))]) [0] (by decide) rfl
      have hKc := hK.sub (tys' := []) [] rfl
      have hFc := va_free (wc := [(pl, .inr (3, [.int plw, .int pld, .int plc, .int pls, .long plm, .ref plf, .ref plo, .ref plb, .ref pla]))]) hD hS hA [0] rfl
      refine va_calli (va_runV (As := []) (rest := [.int r_6]) ⟨hx, hb, hml, hown, hts⟩ (c_X3_allCells l dC dI H.size pl plw pld plc pls plm plf plo plb pla ) (cwV 0 hts g_X3_bridges_X3_allCells rfl rfl rfl (by decide +kernel) ⟨Nat.le_of_ble_eq_true rfl, Nat.le_of_ble_eq_true rfl⟩) ⟨fun a U g mk q => by obtain ⟨q0, q1, qP, qK, qD⟩ := q; exact ⟨q0, q1, qP, va_K.moved (u := U) (U := U.calling g mk a) (Vm.Alike.refl U.vm) qK, qD⟩, va_recv hKc hPc (ci := 3) (q0 := 0) rfl rfl, fun U hU hW => ⟨rfl, by rw [hU], by rw [hU]; exact hPc, va_K.moved hW.alike hKc, hDc.weaken (fun _ _ _ _ => trivial)⟩⟩ rfl rfl hl.1 rfl (lv_room (Nat.le_of_ble_eq_true rfl)) dX3_bridges_32 ⟨Nat.le_of_ble_eq_true rfl, Nat.le_of_ble_eq_true rfl⟩) hS (fun q _ h => hFc q h) hFc (fun r_8 u t H1 locs ht hvm hw_9 hB hz1 hk1 hS => ?_)
      obtain ⟨hP1, hK1, hD1⟩ := hB
      have hP1 : va_P (dC, dI) vwCl [(pl, .inr (3, [.int plw, .int pld, .int plc, .int pls, .long plm, .ref plf, .ref plo, .ref plb, .ref pla]))] t.heap := hP1
      rw [ht] at hP1
      try dsimp only at hw_9
      obtain ⟨hP, hD⟩ := va_join (wr := [(plf, .inl (plkf, 40, .inl plF)), (plb, .inl (plkb, 40, .inr (.inl plB)))]) (w1 := [(pl, .inr (3, [.int plw, .int pld, .int plc, .int pls, .long plm, .ref plf, .ref plo, .ref plb, .ref pla]))]) hP hD [0] [1, 2] rfl rfl (by decide) (by decide) hk1 hFc hP1 hD1
      generalize H1 = H at hP hS ⊢
      have hP : va_P (dC, dI) vwCl [(plf, .inl (plkf, 40, .inl plF)), (plb, .inl (plkb, 40, .inr (.inl plB))), (pl, .inr (3, [.int plw, .int pld, .int plc, .int pls, .long plm, .ref plf, .ref plo, .ref plb, .ref pla]))] H := hP
      have hD : va_D A [(plf, .inl (plkf, 40, .inl plF)), (plb, .inl (plkb, 40, .inr (.inl plB))), (pl, .inr (3, [.int plw, .int pld, .int plc, .int pls, .long plm, .ref plf, .ref plo, .ref plb, .ref pla]))] := hD
      refine lv_icmp_eq (tgt := 48) hx hb dX3_bridges_35 (by decide) (fun c_10 => ?_) (fun c_10 => ?_)
      · have c_10 : r_6.toInt = r_8.toInt := i_eq (a := r_6) (b := r_8) rfl rfl c_10
        obtain ⟨x_11, ex_11⟩ : ∃ y9 : Int32, y9 = sd + Int32.ofInt 1 := ⟨_, rfl⟩
        have zx_11 : x_11.toInt = sd.toInt + 1 := by rw [ex_11]; exact i_add rfl (show (Int32.ofInt 1).toInt = 1 by decide) (by omega) (by omega)
        refine lv_iinc (v := x_11) (lv' := [(5, .int x_11), (3, .long fd), (0, .ref pl), (1, .long p0)]) hx hb dX3_bridges_48 hl (k := 0) rfl (by rw [ex_11]) (by decide) rfl (fun ls hl => ?_)
        refine lv_goto (tgt := 5) hx hb dX3_bridges_51 (by decide) ?_
        exact ih5 (x_11, fd) _ _ _ ⟨(by (try dsimp only); omega), hP.sub [2, 0, 1] rfl, hD.sub [2, 0, 1] (by decide) rfl, hS, lv_sub hl [0, 1, 2, 3] rfl⟩ (by (try dsimp only); omega)
      · have c_10 : r_6.toInt ≠ r_8.toInt := i_ne (a := r_6) (b := r_8) rfl rfl c_10
        refine lv_lload_n hx hb dX3_bridges_38 rfl (lv_at hl 1 rfl) ?_
        refine lv_aload_n hx hb dX3_bridges_39 rfl (lv_at hl 2 rfl) ?_
        refine va_get (D := (dC, dI)) (ci := 3) (v := .ref plb) (C := RX3) (T := TX3) (N := 9) hx hb hts in_X3_bridges_X3 hown hK hP 2 rfl rfl 7 (by decide) (hts _ wd_X3_bridges_1) (fun _ h9 => h9) rfl dX3_bridges_40 ?_
        refine lv_iload hx hb dX3_bridges_43 (lv_at hl 0 rfl) ?_
        refine va_lald hx hb hK hP 1 1 rfl rfl (i_in rfl (by omega) (by omega)) dX3_bridges_45 ?_
        refine lv_topl (fun y_12 ey_12 => ?_)
        refine lv_lor hx hb dX3_bridges_46 ?_
        refine lv_topl (fun y_13 ey_13 => ?_)
        refine lv_lstore_n (lv' := [(3, .long y_13), (5, .int sd), (0, .ref pl), (1, .long p0)]) hx hb dX3_bridges_47 rfl hl (by decide) rfl (fun ls hl => ?_)
        obtain ⟨x_14, ex_14⟩ : ∃ y9 : Int32, y9 = sd + Int32.ofInt 1 := ⟨_, rfl⟩
        have zx_14 : x_14.toInt = sd.toInt + 1 := by rw [ex_14]; exact i_add rfl (show (Int32.ofInt 1).toInt = 1 by decide) (by omega) (by omega)
        refine lv_iinc (v := x_14) (lv' := [(5, .int x_14), (3, .long y_13), (0, .ref pl), (1, .long p0)]) hx hb dX3_bridges_48 hl (k := 1) rfl (by rw [ex_14]) (by decide) rfl (fun ls hl => ?_)
        refine lv_goto (tgt := 5) hx hb dX3_bridges_51 (by decide) ?_
        exact ih5 (x_14, y_13) _ _ _ ⟨(by (try dsimp only); omega), hP.sub [2, 0, 1] rfl, hD.sub [2, 0, 1] (by decide) rfl, hS, lv_sub hl [0, 1, 2, 3] rfl⟩ (by (try dsimp only); omega)

theorem dX3_countDeadEnds_0 : decode cX3_countDeadEnds 0 = .ok (.iconst 0, 1) := by decide +kernel
theorem dX3_countDeadEnds_1 : decode cX3_countDeadEnds 1 = .ok (.istore_n 3, 1) := by decide +kernel
theorem dX3_countDeadEnds_2 : decode cX3_countDeadEnds 2 = .ok (.iconst 0, 1) := by decide +kernel
theorem dX3_countDeadEnds_3 : decode cX3_countDeadEnds 3 = .ok (.istore 4, 2) := by decide +kernel
theorem dX3_countDeadEnds_5 : decode cX3_countDeadEnds 5 = .ok (.iload 4, 2) := by decide +kernel
theorem dX3_countDeadEnds_7 : decode cX3_countDeadEnds 7 = .ok (.aload_n 0, 1) := by decide +kernel
theorem dX3_countDeadEnds_8 : decode cX3_countDeadEnds 8 = .ok (.getfield 18, 3) := by decide +kernel
theorem dX3_countDeadEnds_11 : decode cX3_countDeadEnds 11 = .ok (.if_icmp .ge 55, 3) := by decide +kernel
theorem dX3_countDeadEnds_14 : decode cX3_countDeadEnds 14 = .ok (.iconst 0, 1) := by decide +kernel
theorem dX3_countDeadEnds_15 : decode cX3_countDeadEnds 15 = .ok (.istore 5, 2) := by decide +kernel
theorem dX3_countDeadEnds_17 : decode cX3_countDeadEnds 17 = .ok (.iconst 0, 1) := by decide +kernel
theorem dX3_countDeadEnds_18 : decode cX3_countDeadEnds 18 = .ok (.istore 6, 2) := by decide +kernel
theorem dX3_countDeadEnds_20 : decode cX3_countDeadEnds 20 = .ok (.iload 6, 2) := by decide +kernel
theorem dX3_countDeadEnds_22 : decode cX3_countDeadEnds 22 = .ok (.iconst 4, 1) := by decide +kernel
theorem dX3_countDeadEnds_23 : decode cX3_countDeadEnds 23 = .ok (.if_icmp .ge 28, 3) := by decide +kernel
theorem dX3_countDeadEnds_26 : decode cX3_countDeadEnds 26 = .ok (.aload_n 0, 1) := by decide +kernel
theorem dX3_countDeadEnds_27 : decode cX3_countDeadEnds 27 = .ok (.lload_n 1, 1) := by decide +kernel
theorem dX3_countDeadEnds_28 : decode cX3_countDeadEnds 28 = .ok (.aload_n 0, 1) := by decide +kernel
theorem dX3_countDeadEnds_29 : decode cX3_countDeadEnds 29 = .ok (.iload 4, 2) := by decide +kernel
theorem dX3_countDeadEnds_31 : decode cX3_countDeadEnds 31 = .ok (.iload 6, 2) := by decide +kernel
theorem dX3_countDeadEnds_33 : decode cX3_countDeadEnds 33 = .ok (.invokevirtual 62, 3) := by decide +kernel
theorem dX3_countDeadEnds_36 : decode cX3_countDeadEnds 36 = .ok (.invokevirtual 67, 3) := by decide +kernel
theorem dX3_countDeadEnds_39 : decode cX3_countDeadEnds 39 = .ok (.ifCond .eq 6, 3) := by decide +kernel
theorem dX3_countDeadEnds_42 : decode cX3_countDeadEnds 42 = .ok (.iinc 5 1, 3) := by decide +kernel
theorem dX3_countDeadEnds_45 : decode cX3_countDeadEnds 45 = .ok (.iinc 6 1, 3) := by decide +kernel
theorem dX3_countDeadEnds_48 : decode cX3_countDeadEnds 48 = .ok (.goto (-28), 3) := by decide +kernel
theorem dX3_countDeadEnds_51 : decode cX3_countDeadEnds 51 = .ok (.iload 5, 2) := by decide +kernel
theorem dX3_countDeadEnds_53 : decode cX3_countDeadEnds 53 = .ok (.iconst 1, 1) := by decide +kernel
theorem dX3_countDeadEnds_54 : decode cX3_countDeadEnds 54 = .ok (.if_icmp .ne 6, 3) := by decide +kernel
theorem dX3_countDeadEnds_57 : decode cX3_countDeadEnds 57 = .ok (.iinc 3 1, 3) := by decide +kernel
theorem dX3_countDeadEnds_60 : decode cX3_countDeadEnds 60 = .ok (.iinc 4 1, 3) := by decide +kernel
theorem dX3_countDeadEnds_63 : decode cX3_countDeadEnds 63 = .ok (.goto (-58), 3) := by decide +kernel
theorem dX3_countDeadEnds_66 : decode cX3_countDeadEnds 66 = .ok (.iload_n 3, 1) := by decide +kernel
theorem dX3_countDeadEnds_67 : decode cX3_countDeadEnds 67 = .ok (.ireturn, 1) := by decide +kernel
def wz_X3_countDeadEnds : List Cond := .code yX3_countDeadEnds cX3_countDeadEnds 7 (some .int) :: ([Cond.fieldLink RX3 18 "HedgeMaze$Plan" "cellCount" "I", Cond.methodLink RX3 62 yX3_sideAt, Cond.instanceMethod yX3_sideAt, Cond.selects RX3 yX3_sideAt yX3_sideAt, Cond.initialized RX3, Cond.code yX3_sideAt cX3_sideAt 4 (some .int), Cond.fieldLink RX3 39 "HedgeMaze$Plan" "around" "[I", Cond.methodLink RX3 67 yX3_has, Cond.instanceMethod yX3_has, Cond.selects RX3 yX3_has yX3_has, Cond.code yX3_has cX3_has 4 (some .boolean), Cond.methodLink RX3 58 yX3_bitOf, Cond.instanceMethod yX3_bitOf, Cond.selects RX3 yX3_bitOf yX3_bitOf, Cond.code yX3_bitOf cX3_bitOf 3 (some .long), Cond.fieldLink RX3 21 "HedgeMaze$Plan" "sideCount" "I", Cond.fieldLink RX3 35 "HedgeMaze$Plan" "bits" "[J"] ++ wsX30)
theorem wd_X3_countDeadEnds_0 : Cond.fieldLink RX3 18 "HedgeMaze$Plan" "cellCount" "I" ∈ wz_X3_countDeadEnds := List.mem_of_getElem? (i := 1) rfl
theorem in_X3_countDeadEnds_X3 : ∀ w ∈ wsX30, w ∈ wz_X3_countDeadEnds := fun _ h => List.mem_cons_of_mem _ (List.mem_append_right _ h)
set_option maxRecDepth 20000 in
theorem g_X3_countDeadEnds_X3_sideAt : GoodIn wz_X3_countDeadEnds (wsV RX3 62 RX3 yX3_sideAt wz_X3_sideAt) := goodIn_r _ [2, 3, 4, 5, 6, 7, 18, 19, 20, 21, 22, 23, 24, 25, 26] rfl (by decide +kernel)
set_option maxRecDepth 20000 in
theorem g_X3_countDeadEnds_X3_has : GoodIn wz_X3_countDeadEnds (wsV RX3 67 RX3 yX3_has wz_X3_has) := goodIn_r _ [8, 9, 10, 5, 11, 12, 13, 14, 5, 15, 16, 17, 18, 19, 20, 21, 22, 23, 24, 25, 26] rfl (by decide +kernel)
set_option maxHeartbeats 4000000 in
set_option maxRecDepth 100000 in
theorem c_X3_countDeadEnds (l : Launch) (dC : Nat → ClassId) (dI : Nat → Nat → Nat) (sz : Nat) (pl : Nat) (plw : Int32) (pld : Int32) (plc : Int32) (pls : Int32) (plm : Int64) (plf : Nat) (plo : Nat) (plb : Nat) (pla : Nat) (plkb : ClassId) (plB : Nat → Int64) (plka : ClassId) (plA : Nat → Int32) (p0 : Int64) (h_pls : 0 ≤ pls.toInt ∧ pls.toInt ≤ 40) (h_plc : 0 ≤ plc.toInt ∧ plc.toInt ≤ 25) : Met l yX3_countDeadEnds wz_X3_countDeadEnds ({ frames := 2, cells := 0, slots := 0, locals := 45 }) (va_Pc [.ref pl, .long p0] (fun U => U.heap.size = sz ∧ va_P (dC, dI) vwCl [(pl, .inr (3, [.int plw, .int pld, .int plc, .int pls, .long plm, .ref plf, .ref plo, .ref plb, .ref pla])), (plb, .inl (plkb, 40, .inr (.inl plB))), (pla, .inl (plka, 100, .inl plA))] U.heap ∧ va_K (dC, dI) vwCl [(plkb, .long), (plka, .int)] U ∧ va_D (fun _ => True) [(pl, .inr (3, [.int plw, .int pld, .int plc, .int pls, .long plm, .ref plf, .ref plo, .ref plb, .ref pla])), (plb, .inl (plkb, 40, .inr (.inl plB))), (pla, .inl (plka, 100, .inl plA))])) (va_Qi (fun (r : Int32) (u : Unit) => True) (fun (u : Unit) (t : State) => va_P (dC, dI) vwCl [(pl, .inr (3, [.int plw, .int pld, .int plc, .int pls, .long plm, .ref plf, .ref plo, .ref plb, .ref pla])), (plb, .inl (plkb, 40, .inr (.inl plB))), (pla, .inl (plka, 100, .inl plA))] t.heap ∧ va_K (dC, dI) vwCl [] t ∧ va_D (va_A [(pl, .inr (3, [.int plw, .int pld, .int plc, .int pls, .long plm, .ref plf, .ref plo, .ref plb, .ref pla])), (plb, .inl (plkb, 40, .inr (.inl plB))), (pla, .inl (plka, 100, .inl plA))] sz) [(pl, .inr (3, [.int plw, .int pld, .int plc, .int pls, .long plm, .ref plf, .ref plo, .ref plb, .ref pla])), (plb, .inl (plkb, 40, .inr (.inl plB))), (pla, .inl (plka, 100, .inl plA))]) (va_A [(pl, .inr (3, [.int plw, .int pld, .int plc, .int pls, .long plm, .ref plf, .ref plo, .ref plb, .ref pla])), (plb, .inl (plkb, 40, .inr (.inl plB))), (pla, .inl (plka, 100, .inl plA))] sz)) 0 0 (va_A [(pl, .inr (3, [.int plw, .int pld, .int plc, .int pls, .long plm, .ref plf, .ref plo, .ref plb, .ref pla])), (plb, .inl (plkb, 40, .inr (.inl plB))), (pla, .inl (plka, 100, .inl plA))] sz) := by
  refine Met.ofW (cc := cX3_countDeadEnds) (maxL := 7) (ret := (some .int)) (by decide) rfl ?_
  intro p e s m args below meth c s₁ B hml hv
  obtain ⟨rfl, hsz, hP, hK, hD0⟩ := hv
  have hx := B.exec
  have hb := B.bytes
  have hr := B.returns
  have hts := atoms_spec (ws := wz_X3_countDeadEnds) B.pre
  have hown : s.vm.findClass RX3 = some m.cls := findClass_of_methodNamed B.named
  have hlocks := B.notSynchronized
  subst hsz
  have hD := hD0.self (sz := s.heap.size)
  generalize hAe : va_A [(pl, .inr (3, [.int plw, .int pld, .int plc, .int pls, .long plm, .ref plf, .ref plo, .ref plb, .ref pla])), (plb, .inl (plkb, 40, .inr (.inl plB))), (pla, .inl (plka, 100, .inl plA))] s.heap.size = A at hD ⊢
  have hA : ∀ q : Nat, s.heap.size ≤ q → A q := fun q h => by rw [← hAe]; exact Or.inr h
  have hS : va_S A s.heap s.heap [] := va_S.rf
  have hP : va_P (dC, dI) vwCl [(pl, .inr (3, [.int plw, .int pld, .int plc, .int pls, .long plm, .ref plf, .ref plo, .ref plb, .ref pla])), (plb, .inl (plkb, 40, .inr (.inl plB))), (pla, .inl (plka, 100, .inl plA))] s.heap := hP
  have hl := lv_entry ([.ref pl, .long p0]) (n := 7) (Nat.le_of_ble_eq_true rfl)
  rw [lg_entry_eq]
  generalize (lg_sl ([.ref pl, .long p0]) ++ List.replicate (7 - (lg_sl ([.ref pl, .long p0])).length) Slot.unset).toArray = ls at hl ⊢
  have hl : lv_has ls 7 [(0, .ref pl), (1, .long p0)] := hl
  refine lv_iconst (v := 0) hx hb dX3_countDeadEnds_0 (by decide) ?_
  refine lv_istore_n (lv' := [(3, .int 0), (0, .ref pl), (1, .long p0)]) hx hb dX3_countDeadEnds_1 rfl hl (by decide) rfl (fun ls hl => ?_)
  refine lv_iconst (v := 0) hx hb dX3_countDeadEnds_2 (by decide) ?_
  refine lv_istore (lv' := [(4, .int 0), (3, .int 0), (0, .ref pl), (1, .long p0)]) hx hb dX3_countDeadEnds_3 hl (by decide) rfl (fun ls hl => ?_)
  refine lp_W (I := fun (a : Int32 × Int32) H locs ls => (0 ≤ a.1.toInt ∧ a.1.toInt ≤ plc.toInt) ∧ va_P (dC, dI) vwCl [(pl, .inr (3, [.int plw, .int pld, .int plc, .int pls, .long plm, .ref plf, .ref plo, .ref plb, .ref pla])), (plb, .inl (plkb, 40, .inr (.inl plB))), (pla, .inl (plka, 100, .inl plA))] H ∧ va_D A [(pl, .inr (3, [.int plw, .int pld, .int plc, .int pls, .long plm, .ref plf, .ref plo, .ref plb, .ref pla])), (plb, .inl (plkb, 40, .inr (.inl plB))), (pla, .inl (plka, 100, .inl plA))] ∧ va_S A s.heap H locs ∧ lv_has ls 7 [(4, .int a.1), (3, .int a.2), (0, .ref pl), (1, .long p0)]) (μ := fun a => (plc.toInt - a.1.toInt).toNat) ?_ ((0 : Int32), (0 : Int32)) ⟨(by have k0 : (0 : Int32).toInt = 0 := (by decide); (try dsimp only); omega), hP.sub [0, 1, 2] rfl, hD.sub [0, 1, 2] (by decide) rfl, hS, lv_sub hl [0, 1, 2, 3] rfl⟩
  intro a H locs ls hI ih5
  obtain ⟨ce, fd⟩ := a
  obtain ⟨h_ce, hP, hD, hS, hl⟩ := hI
  have h_ce : 0 ≤ ce.toInt ∧ ce.toInt ≤ plc.toInt := h_ce
  have hP : va_P (dC, dI) vwCl [(pl, .inr (3, [.int plw, .int pld, .int plc, .int pls, .long plm, .ref plf, .ref plo, .ref plb, .ref pla])), (plb, .inl (plkb, 40, .inr (.inl plB))), (pla, .inl (plka, 100, .inl plA))] H := hP
  have hD : va_D A [(pl, .inr (3, [.int plw, .int pld, .int plc, .int pls, .long plm, .ref plf, .ref plo, .ref plb, .ref pla])), (plb, .inl (plkb, 40, .inr (.inl plB))), (pla, .inl (plka, 100, .inl plA))] := hD
  have hl : lv_has ls 7 [(4, .int ce), (3, .int fd), (0, .ref pl), (1, .long p0)] := hl
  refine lv_iload hx hb dX3_countDeadEnds_5 (lv_at hl 0 rfl) ?_
  refine lv_aload_n hx hb dX3_countDeadEnds_7 rfl (lv_at hl 2 rfl) ?_
  refine va_get (D := (dC, dI)) (ci := 3) (v := .int plc) (C := RX3) (T := TX3) (N := 9) hx hb hts in_X3_countDeadEnds_X3 hown hK hP 0 rfl rfl 2 (by decide) (hts _ wd_X3_countDeadEnds_0) (fun _ h9 => h9) rfl dX3_countDeadEnds_8 ?_
  refine lv_icmp_ge (tgt := 66) hx hb dX3_countDeadEnds_11 (by decide) (fun c_1 => ?_) (fun c_1 => ?_)
  · have c_1 : plc.toInt ≤ ce.toInt := i_le (a := plc) (b := ce) rfl rfl c_1
    refine lv_iload_n hx hb dX3_countDeadEnds_66 rfl (lv_at hl 1 rfl) ?_
    have hP9 := hP.sub (ws' := [(pl, .inr (3, [.int plw, .int pld, .int plc, .int pls, .long plm, .ref plf, .ref plo, .ref plb, .ref pla])), (plb, .inl (plkb, 40, .inr (.inl plB))), (pla, .inl (plka, 100, .inl plA))]) [0, 1, 2] rfl
    have hD9 := hD.sub (ws' := [(pl, .inr (3, [.int plw, .int pld, .int plc, .int pls, .long plm, .ref plf, .ref plo, .ref plb, .ref pla])), (plb, .inl (plkb, 40, .inr (.inl plB))), (pla, .inl (plka, 100, .inl plA))]) [0, 1, 2] (by decide) rfl
    have hK9 := hK.sub (tys' := []) [] rfl
    refine W.widen (k := 0) (n := 0) (by omega) (by omega) ?_
    exact W.iret (v := fd) hx hb hr (fun t ht hW => ⟨⟨fd, (), rfl, trivial, by rw [ht]; exact hP9, va_K.moved hW.alike hK9, hD9⟩, hS.F ht⟩) hS.2.2 dX3_countDeadEnds_67
  · have c_1 : ce.toInt < plc.toInt := i_nle (a := plc) (b := ce) rfl rfl c_1
    refine lv_iconst (v := 0) hx hb dX3_countDeadEnds_14 (by decide) ?_
    refine lv_istore (lv' := [(5, .int 0), (4, .int ce), (3, .int fd), (0, .ref pl), (1, .long p0)]) hx hb dX3_countDeadEnds_15 hl (by decide) rfl (fun ls hl => ?_)
    refine lv_iconst (v := 0) hx hb dX3_countDeadEnds_17 (by decide) ?_
    refine lv_istore (lv' := [(6, .int 0), (5, .int 0), (4, .int ce), (3, .int fd), (0, .ref pl), (1, .long p0)]) hx hb dX3_countDeadEnds_18 hl (by decide) rfl (fun ls hl => ?_)
    refine lp_W (I := fun (a : Int32 × Int32) H locs ls => (0 ≤ a.1.toInt ∧ a.1.toInt ≤ 4) ∧ va_P (dC, dI) vwCl [(pl, .inr (3, [.int plw, .int pld, .int plc, .int pls, .long plm, .ref plf, .ref plo, .ref plb, .ref pla])), (plb, .inl (plkb, 40, .inr (.inl plB))), (pla, .inl (plka, 100, .inl plA))] H ∧ va_D A [(pl, .inr (3, [.int plw, .int pld, .int plc, .int pls, .long plm, .ref plf, .ref plo, .ref plb, .ref pla])), (plb, .inl (plkb, 40, .inr (.inl plB))), (pla, .inl (plka, 100, .inl plA))] ∧ va_S A s.heap H locs ∧ lv_has ls 7 [(6, .int a.1), (5, .int a.2), (4, .int ce), (3, .int fd), (0, .ref pl), (1, .long p0)]) (μ := fun a => (4 - a.1.toInt).toNat) ?_ ((0 : Int32), (0 : Int32)) ⟨(by have k0 : (0 : Int32).toInt = 0 := (by decide); (try dsimp only); omega), hP.sub [0, 1, 2] rfl, hD.sub [0, 1, 2] (by decide) rfl, hS, lv_sub hl [0, 1, 2, 3, 4, 5] rfl⟩
    intro a H locs ls hI ih20
    obtain ⟨wy, op⟩ := a
    obtain ⟨h_wy, hP, hD, hS, hl⟩ := hI
    have h_wy : 0 ≤ wy.toInt ∧ wy.toInt ≤ 4 := h_wy
    have hP : va_P (dC, dI) vwCl [(pl, .inr (3, [.int plw, .int pld, .int plc, .int pls, .long plm, .ref plf, .ref plo, .ref plb, .ref pla])), (plb, .inl (plkb, 40, .inr (.inl plB))), (pla, .inl (plka, 100, .inl plA))] H := hP
    have hD : va_D A [(pl, .inr (3, [.int plw, .int pld, .int plc, .int pls, .long plm, .ref plf, .ref plo, .ref plb, .ref pla])), (plb, .inl (plkb, 40, .inr (.inl plB))), (pla, .inl (plka, 100, .inl plA))] := hD
    have hl : lv_has ls 7 [(6, .int wy), (5, .int op), (4, .int ce), (3, .int fd), (0, .ref pl), (1, .long p0)] := hl
    refine lv_iload hx hb dX3_countDeadEnds_20 (lv_at hl 0 rfl) ?_
    refine lv_iconst (v := 4) hx hb dX3_countDeadEnds_22 (by decide) ?_
    refine lv_icmp_ge (tgt := 51) hx hb dX3_countDeadEnds_23 (by decide) (fun c_2 => ?_) (fun c_2 => ?_)
    · have c_2 : 4 ≤ wy.toInt := i_le (a := 4) (b := wy) (by decide) rfl c_2
      refine lv_iload hx hb dX3_countDeadEnds_51 (lv_at hl 1 rfl) ?_
      refine lv_iconst (v := 1) hx hb dX3_countDeadEnds_53 (by decide) ?_
      refine lv_icmp_ne (tgt := 60) hx hb dX3_countDeadEnds_54 (by decide) (fun c_3 => ?_) (fun c_3 => ?_)
      · have c_3 : op.toInt ≠ 1 := i_ne (a := op) (b := 1) rfl (by decide) c_3
        obtain ⟨x_4, ex_4⟩ : ∃ y9 : Int32, y9 = ce + Int32.ofInt 1 := ⟨_, rfl⟩
        have zx_4 : x_4.toInt = ce.toInt + 1 := by rw [ex_4]; exact i_add rfl (show (Int32.ofInt 1).toInt = 1 by decide) (by omega) (by omega)
        refine lv_iinc (v := x_4) (lv' := [(4, .int x_4), (6, .int wy), (5, .int op), (3, .int fd), (0, .ref pl), (1, .long p0)]) hx hb dX3_countDeadEnds_60 hl (k := 2) rfl (by rw [ex_4]) (by decide) rfl (fun ls hl => ?_)
        refine lv_goto (tgt := 5) hx hb dX3_countDeadEnds_63 (by decide) ?_
        exact ih5 (x_4, fd) _ _ _ ⟨(by (try dsimp only); omega), hP.sub [0, 1, 2] rfl, hD.sub [0, 1, 2] (by decide) rfl, hS, lv_sub hl [0, 3, 4, 5] rfl⟩ (by (try dsimp only); omega)
      · have c_3 : op.toInt = 1 := i_eq (a := op) (b := 1) rfl (by decide) c_3
        obtain ⟨x_5, ex_5⟩ : ∃ y9 : Int32, y9 = fd + Int32.ofInt 1 := ⟨_, rfl⟩
        refine lv_iinc (v := x_5) (lv' := [(3, .int x_5), (6, .int wy), (5, .int op), (4, .int ce), (0, .ref pl), (1, .long p0)]) hx hb dX3_countDeadEnds_57 hl (k := 3) rfl (by rw [ex_5]) (by decide) rfl (fun ls hl => ?_)
        obtain ⟨x_6, ex_6⟩ : ∃ y9 : Int32, y9 = ce + Int32.ofInt 1 := ⟨_, rfl⟩
        have zx_6 : x_6.toInt = ce.toInt + 1 := by rw [ex_6]; exact i_add rfl (show (Int32.ofInt 1).toInt = 1 by decide) (by omega) (by omega)
        refine lv_iinc (v := x_6) (lv' := [(4, .int x_6), (3, .int x_5), (6, .int wy), (5, .int op), (0, .ref pl), (1, .long p0)]) hx hb dX3_countDeadEnds_60 hl (k := 3) rfl (by rw [ex_6]) (by decide) rfl (fun ls hl => ?_)
        refine lv_goto (tgt := 5) hx hb dX3_countDeadEnds_63 (by decide) ?_
        exact ih5 (x_6, x_5) _ _ _ ⟨(by (try dsimp only); omega), hP.sub [0, 1, 2] rfl, hD.sub [0, 1, 2] (by decide) rfl, hS, lv_sub hl [0, 1, 4, 5] rfl⟩ (by (try dsimp only); omega)
    · have c_2 : wy.toInt < 4 := i_nle (a := 4) (b := wy) (by decide) rfl c_2
      refine lv_aload_n hx hb dX3_countDeadEnds_26 rfl (lv_at hl 4 rfl) ?_
      refine lv_lload_n hx hb dX3_countDeadEnds_27 rfl (lv_at hl 5 rfl) ?_
      refine lv_aload_n hx hb dX3_countDeadEnds_28 rfl (lv_at hl 4 rfl) ?_
      refine lv_iload hx hb dX3_countDeadEnds_29 (lv_at hl 2 rfl) ?_
      refine lv_iload hx hb dX3_countDeadEnds_31 (lv_at hl 0 rfl) ?_
      have hPc := hP.sub (ws' := [(pl, .inr (3, [.int plw, .int pld, .int plc, .int pls, .long plm, .ref plf, .ref plo, .ref plb, .ref pla])), (pla, .inl (plka, 100, .inl plA))]) [0, 2] rfl
      have hDc := hD.sub (ws' := [(pl, .inr (3, [.int plw, .int pld, .int plc, .int pls, .long plm, .ref plf, .ref plo, .ref plb, .ref pla])), (pla, .inl (plka, 100, .inl plA))]) [0, 2] (by decide) rfl
      have hKc := hK.sub (tys' := [(plka, .int)]) [1] rfl
      have hFc := va_free (wc := [(pl, .inr (3, [.int plw, .int pld, .int plc, .int pls, .long plm, .ref plf, .ref plo, .ref plb, .ref pla])), (pla, .inl (plka, 100, .inl plA))]) hD hS hA [0, 2] rfl
      refine va_calli (va_runV (As := [.int ce, .int wy]) (rest := [.long p0, .ref pl]) ⟨hx, hb, hml, hown, hts⟩ (c_X3_sideAt l dC dI H.size pl plw pld plc pls plm plf plo plb pla plka plA ce wy ) (cwV 2 hts g_X3_countDeadEnds_X3_sideAt rfl rfl rfl (by decide +kernel) ⟨Nat.le_of_ble_eq_true rfl, Nat.le_of_ble_eq_true rfl⟩) ⟨fun a U g mk q => by obtain ⟨q0, q1, qP, qK, qD⟩ := q; exact ⟨q0, q1, qP, va_K.moved (u := U) (U := U.calling g mk a) (Vm.Alike.refl U.vm) qK, qD⟩, va_recv hKc hPc (ci := 3) (q0 := 0) rfl rfl, fun U hU hW => ⟨rfl, by rw [hU], by rw [hU]; exact hPc, va_K.moved hW.alike hKc, hDc.weaken (fun _ _ _ _ => trivial)⟩⟩ rfl rfl hl.1 rfl (lv_room (Nat.le_of_ble_eq_true rfl)) dX3_countDeadEnds_33 ⟨Nat.le_of_ble_eq_true rfl, Nat.le_of_ble_eq_true rfl⟩) hS (fun q _ h => hFc q h) hFc (fun r_7 u t H1 locs ht hvm hw_8 hB hz1 hk1 hS => ?_)
      obtain ⟨hP1, hK1, hD1⟩ := hB
      have hP1 : va_P (dC, dI) vwCl [(pl, .inr (3, [.int plw, .int pld, .int plc, .int pls, .long plm, .ref plf, .ref plo, .ref plb, .ref pla])), (pla, .inl (plka, 100, .inl plA))] t.heap := hP1
      rw [ht] at hP1
      try dsimp only at hw_8
      obtain ⟨hP, hD⟩ := va_join (wr := [(plb, .inl (plkb, 40, .inr (.inl plB)))]) (w1 := [(pl, .inr (3, [.int plw, .int pld, .int plc, .int pls, .long plm, .ref plf, .ref plo, .ref plb, .ref pla])), (pla, .inl (plka, 100, .inl plA))]) hP hD [0, 2] [1] rfl rfl (by decide) (by decide) hk1 hFc hP1 hD1
      generalize H1 = H at hP hS ⊢
      have hP : va_P (dC, dI) vwCl [(plb, .inl (plkb, 40, .inr (.inl plB))), (pl, .inr (3, [.int plw, .int pld, .int plc, .int pls, .long plm, .ref plf, .ref plo, .ref plb, .ref pla])), (pla, .inl (plka, 100, .inl plA))] H := hP
      have hD : va_D A [(plb, .inl (plkb, 40, .inr (.inl plB))), (pl, .inr (3, [.int plw, .int pld, .int plc, .int pls, .long plm, .ref plf, .ref plo, .ref plb, .ref pla])), (pla, .inl (plka, 100, .inl plA))] := hD
      have hPc := hP.sub (ws' := [(pl, .inr (3, [.int plw, .int pld, .int plc, .int pls, .long plm, .ref plf, .ref plo, .ref plb, .ref pla])), (plb, .inl (plkb, 40, .inr (.inl plB)))]) [1, 0] rfl
      have hDc := hD.sub (ws' := [(pl, .inr (3, [.int plw, .int pld, .int plc, .int pls, .long plm, .ref plf, .ref plo, .ref plb, .ref pla])), (plb, .inl (plkb, 40, .inr (.inl plB)))]) [1, 0] (by decide) rfl
      have hKc := hK.sub (tys' := [(plkb, .long)]) [0] rfl
      have hFc := va_free (wc := [(pl, .inr (3, [.int plw, .int pld, .int plc, .int pls, .long plm, .ref plf, .ref plo, .ref plb, .ref pla])), (plb, .inl (plkb, 40, .inr (.inl plB)))]) hD hS hA [1, 0] rfl
      refine va_calli (va_runV (As := [.long p0, .int r_7]) (rest := []) ⟨hx, hb, hml, hown, hts⟩ (c_X3_has l dC dI H.size pl plw pld plc pls plm plf plo plb pla plkb plB p0 r_7 (by omega)) (cwV 2 hts g_X3_countDeadEnds_X3_has rfl rfl rfl (by decide +kernel) ⟨Nat.le_of_ble_eq_true rfl, Nat.le_of_ble_eq_true rfl⟩) ⟨fun a U g mk q => by obtain ⟨q0, q1, qP, qK, qD⟩ := q; exact ⟨q0, q1, qP, va_K.moved (u := U) (U := U.calling g mk a) (Vm.Alike.refl U.vm) qK, qD⟩, va_recv hKc hPc (ci := 3) (q0 := 0) rfl rfl, fun U hU hW => ⟨rfl, by rw [hU], by rw [hU]; exact hPc, va_K.moved hW.alike hKc, hDc.weaken (fun _ _ _ _ => trivial)⟩⟩ rfl rfl hl.1 rfl (lv_room (Nat.le_of_ble_eq_true rfl)) dX3_countDeadEnds_36 ⟨Nat.le_of_ble_eq_true rfl, Nat.le_of_ble_eq_true rfl⟩) hS (fun q _ h => hFc q h) hFc (fun r_9 u t H1 locs ht hvm hw_10 hB hz1 hk1 hS => ?_)
      obtain ⟨hP1, hK1, hD1⟩ := hB
      have hP1 : va_P (dC, dI) vwCl [(pl, .inr (3, [.int plw, .int pld, .int plc, .int pls, .long plm, .ref plf, .ref plo, .ref plb, .ref pla])), (plb, .inl (plkb, 40, .inr (.inl plB)))] t.heap := hP1
      rw [ht] at hP1
      try dsimp only at hw_10
      obtain ⟨hP, hD⟩ := va_join (wr := [(pla, .inl (plka, 100, .inl plA))]) (w1 := [(pl, .inr (3, [.int plw, .int pld, .int plc, .int pls, .long plm, .ref plf, .ref plo, .ref plb, .ref pla])), (plb, .inl (plkb, 40, .inr (.inl plB)))]) hP hD [1, 0] [2] rfl rfl (by decide) (by decide) hk1 hFc hP1 hD1
      generalize H1 = H at hP hS ⊢
      have hP : va_P (dC, dI) vwCl [(pla, .inl (plka, 100, .inl plA)), (pl, .inr (3, [.int plw, .int pld, .int plc, .int pls, .long plm, .ref plf, .ref plo, .ref plb, .ref pla])), (plb, .inl (plkb, 40, .inr (.inl plB)))] H := hP
      have hD : va_D A [(pla, .inl (plka, 100, .inl plA)), (pl, .inr (3, [.int plw, .int pld, .int plc, .int pls, .long plm, .ref plf, .ref plo, .ref plb, .ref pla])), (plb, .inl (plkb, 40, .inr (.inl plB)))] := hD
      refine lv_if_eq (tgt := 45) hx hb dX3_countDeadEnds_39 (by decide) (fun c_11 => ?_) (fun c_11 => ?_)
      · have c_11 : r_9.toInt = 0 := i_eq (a := r_9) (b := 0) rfl (by decide) c_11
        obtain ⟨x_12, ex_12⟩ : ∃ y9 : Int32, y9 = wy + Int32.ofInt 1 := ⟨_, rfl⟩
        have zx_12 : x_12.toInt = wy.toInt + 1 := by rw [ex_12]; exact i_add rfl (show (Int32.ofInt 1).toInt = 1 by decide) (by omega) (by omega)
        refine lv_iinc (v := x_12) (lv' := [(6, .int x_12), (5, .int op), (4, .int ce), (3, .int fd), (0, .ref pl), (1, .long p0)]) hx hb dX3_countDeadEnds_45 hl (k := 0) rfl (by rw [ex_12]) (by decide) rfl (fun ls hl => ?_)
        refine lv_goto (tgt := 20) hx hb dX3_countDeadEnds_48 (by decide) ?_
        exact ih20 (x_12, op) _ _ _ ⟨(by (try dsimp only); omega), hP.sub [1, 2, 0] rfl, hD.sub [1, 2, 0] (by decide) rfl, hS, lv_sub hl [0, 1, 2, 3, 4, 5] rfl⟩ (by (try dsimp only); omega)
      · have c_11 : r_9.toInt ≠ 0 := i_ne (a := r_9) (b := 0) rfl (by decide) c_11
        obtain ⟨x_13, ex_13⟩ : ∃ y9 : Int32, y9 = op + Int32.ofInt 1 := ⟨_, rfl⟩
        refine lv_iinc (v := x_13) (lv' := [(5, .int x_13), (6, .int wy), (4, .int ce), (3, .int fd), (0, .ref pl), (1, .long p0)]) hx hb dX3_countDeadEnds_42 hl (k := 1) rfl (by rw [ex_13]) (by decide) rfl (fun ls hl => ?_)
        obtain ⟨x_14, ex_14⟩ : ∃ y9 : Int32, y9 = wy + Int32.ofInt 1 := ⟨_, rfl⟩
        have zx_14 : x_14.toInt = wy.toInt + 1 := by rw [ex_14]; exact i_add rfl (show (Int32.ofInt 1).toInt = 1 by decide) (by omega) (by omega)
        refine lv_iinc (v := x_14) (lv' := [(6, .int x_14), (5, .int x_13), (4, .int ce), (3, .int fd), (0, .ref pl), (1, .long p0)]) hx hb dX3_countDeadEnds_45 hl (k := 1) rfl (by rw [ex_14]) (by decide) rfl (fun ls hl => ?_)
        refine lv_goto (tgt := 20) hx hb dX3_countDeadEnds_48 (by decide) ?_
        exact ih20 (x_14, x_13) _ _ _ ⟨(by (try dsimp only); omega), hP.sub [1, 2, 0] rfl, hD.sub [1, 2, 0] (by decide) rfl, hS, lv_sub hl [0, 1, 2, 3, 4, 5] rfl⟩ (by (try dsimp only); omega)

theorem dX3_mostSteps_0 : decode cX3_mostSteps 0 = .ok (.iconst 0, 1) := by decide +kernel
theorem dX3_mostSteps_1 : decode cX3_mostSteps 1 = .ok (.istore_n 3, 1) := by decide +kernel
theorem dX3_mostSteps_2 : decode cX3_mostSteps 2 = .ok (.iconst 0, 1) := by decide +kernel
theorem dX3_mostSteps_3 : decode cX3_mostSteps 3 = .ok (.istore 4, 2) := by decide +kernel
theorem dX3_mostSteps_5 : decode cX3_mostSteps 5 = .ok (.iload 4, 2) := by decide +kernel
theorem dX3_mostSteps_7 : decode cX3_mostSteps 7 = .ok (.aload_n 0, 1) := by decide +kernel
theorem dX3_mostSteps_8 : decode cX3_mostSteps 8 = .ok (.getfield 18, 3) := by decide +kernel
theorem dX3_mostSteps_11 : decode cX3_mostSteps 11 = .ok (.if_icmp .ge 48, 3) := by decide +kernel
theorem dX3_mostSteps_14 : decode cX3_mostSteps 14 = .ok (.iload 4, 2) := by decide +kernel
theorem dX3_mostSteps_16 : decode cX3_mostSteps 16 = .ok (.iconst 1, 1) := by decide +kernel
theorem dX3_mostSteps_17 : decode cX3_mostSteps 17 = .ok (.iadd, 1) := by decide +kernel
theorem dX3_mostSteps_18 : decode cX3_mostSteps 18 = .ok (.istore 5, 2) := by decide +kernel
theorem dX3_mostSteps_20 : decode cX3_mostSteps 20 = .ok (.iload 5, 2) := by decide +kernel
theorem dX3_mostSteps_22 : decode cX3_mostSteps 22 = .ok (.aload_n 0, 1) := by decide +kernel
theorem dX3_mostSteps_23 : decode cX3_mostSteps 23 = .ok (.getfield 18, 3) := by decide +kernel
theorem dX3_mostSteps_26 : decode cX3_mostSteps 26 = .ok (.if_icmp .ge 27, 3) := by decide +kernel
theorem dX3_mostSteps_29 : decode cX3_mostSteps 29 = .ok (.iload_n 3, 1) := by decide +kernel
theorem dX3_mostSteps_30 : decode cX3_mostSteps 30 = .ok (.aload_n 0, 1) := by decide +kernel
theorem dX3_mostSteps_31 : decode cX3_mostSteps 31 = .ok (.iconst 1, 1) := by decide +kernel
theorem dX3_mostSteps_32 : decode cX3_mostSteps 32 = .ok (.iload 4, 2) := by decide +kernel
theorem dX3_mostSteps_34 : decode cX3_mostSteps 34 = .ok (.ishl, 1) := by decide +kernel
theorem dX3_mostSteps_35 : decode cX3_mostSteps 35 = .ok (.iconst 1, 1) := by decide +kernel
theorem dX3_mostSteps_36 : decode cX3_mostSteps 36 = .ok (.iload 5, 2) := by decide +kernel
theorem dX3_mostSteps_38 : decode cX3_mostSteps 38 = .ok (.ishl, 1) := by decide +kernel
theorem dX3_mostSteps_39 : decode cX3_mostSteps 39 = .ok (.lload_n 1, 1) := by decide +kernel
theorem dX3_mostSteps_40 : decode cX3_mostSteps 40 = .ok (.invokevirtual 86, 3) := by decide +kernel
theorem dX3_mostSteps_43 : decode cX3_mostSteps 43 = .ok (.invokestatic 90, 3) := by decide +kernel
theorem dX3_mostSteps_46 : decode cX3_mostSteps 46 = .ok (.istore_n 3, 1) := by decide +kernel
theorem dX3_mostSteps_47 : decode cX3_mostSteps 47 = .ok (.iinc 5 1, 3) := by decide +kernel
theorem dX3_mostSteps_50 : decode cX3_mostSteps 50 = .ok (.goto (-30), 3) := by decide +kernel
theorem dX3_mostSteps_53 : decode cX3_mostSteps 53 = .ok (.iinc 4 1, 3) := by decide +kernel
theorem dX3_mostSteps_56 : decode cX3_mostSteps 56 = .ok (.goto (-51), 3) := by decide +kernel
theorem dX3_mostSteps_59 : decode cX3_mostSteps 59 = .ok (.iload_n 3, 1) := by decide +kernel
theorem dX3_mostSteps_60 : decode cX3_mostSteps 60 = .ok (.ireturn, 1) := by decide +kernel
def wz_X3_mostSteps : List Cond := .code yX3_mostSteps cX3_mostSteps 6 (some .int) :: ([Cond.fieldLink RX3 18 "HedgeMaze$Plan" "cellCount" "I", Cond.methodLink RX3 90 Lib.Math.max.name, Cond.static Lib.Math.max.name, Cond.initialized "java/lang/Math", Cond.code Lib.Math.max.name Lib.Math.max.code 2 (some .int), Cond.methodLink RX3 86 yX3_stepsBetween, Cond.instanceMethod yX3_stepsBetween, Cond.selects RX3 yX3_stepsBetween yX3_stepsBetween, Cond.initialized RX3, Cond.code yX3_stepsBetween cX3_stepsBetween 8 (some .int), Cond.methodLink RX3 71 yX3_grow, Cond.instanceMethod yX3_grow, Cond.selects RX3 yX3_grow yX3_grow, Cond.code yX3_grow cX3_grow 6 (some .int), Cond.fieldLink RX3 9 "HedgeMaze$Plan" "wide" "I"] ++ wsX30)
theorem wd_X3_mostSteps_0 : Cond.fieldLink RX3 18 "HedgeMaze$Plan" "cellCount" "I" ∈ wz_X3_mostSteps := List.mem_of_getElem? (i := 1) rfl
theorem wd_X3_mostSteps_1 : Cond.methodLink RX3 90 Lib.Math.max.name ∈ wz_X3_mostSteps := List.mem_of_getElem? (i := 2) rfl
theorem wd_X3_mostSteps_2 : Cond.static Lib.Math.max.name ∈ wz_X3_mostSteps := List.mem_of_getElem? (i := 3) rfl
theorem wd_X3_mostSteps_3 : Cond.initialized "java/lang/Math" ∈ wz_X3_mostSteps := List.mem_of_getElem? (i := 4) rfl
theorem wd_X3_mostSteps_4 : Cond.code Lib.Math.max.name Lib.Math.max.code 2 (some .int) ∈ wz_X3_mostSteps := List.mem_of_getElem? (i := 5) rfl
theorem in_X3_mostSteps_X3 : ∀ w ∈ wsX30, w ∈ wz_X3_mostSteps := fun _ h => List.mem_cons_of_mem _ (List.mem_append_right _ h)
set_option maxRecDepth 20000 in
theorem g_X3_mostSteps_X3_stepsBetween : GoodIn wz_X3_mostSteps (wsV RX3 86 RX3 yX3_stepsBetween wz_X3_stepsBetween) := goodIn_r _ [6, 7, 8, 9, 10, 11, 12, 13, 9, 14, 15, 16, 17, 18, 19, 20, 21, 22, 23, 24] rfl (by decide +kernel)
set_option maxHeartbeats 4000000 in
set_option maxRecDepth 100000 in
theorem c_X3_mostSteps (l : Launch) (dC : Nat → ClassId) (dI : Nat → Nat → Nat) (sz : Nat) (pl : Nat) (plw : Int32) (pld : Int32) (plc : Int32) (pls : Int32) (plm : Int64) (plf : Nat) (plo : Nat) (plb : Nat) (pla : Nat) (p0 : Int64) (h_plc : 0 ≤ plc.toInt ∧ plc.toInt ≤ 25) : Met l yX3_mostSteps wz_X3_mostSteps ({ frames := 2, cells := 0, slots := 0, locals := 52 }) (va_Pc [.ref pl, .long p0] (fun U => U.heap.size = sz ∧ va_P (dC, dI) vwCl [(pl, .inr (3, [.int plw, .int pld, .int plc, .int pls, .long plm, .ref plf, .ref plo, .ref plb, .ref pla]))] U.heap ∧ va_K (dC, dI) vwCl [] U ∧ va_D (fun _ => True) [(pl, .inr (3, [.int plw, .int pld, .int plc, .int pls, .long plm, .ref plf, .ref plo, .ref plb, .ref pla]))])) (va_Qi (fun (r : Int32) (u : Unit) => True) (fun (u : Unit) (t : State) => va_P (dC, dI) vwCl [(pl, .inr (3, [.int plw, .int pld, .int plc, .int pls, .long plm, .ref plf, .ref plo, .ref plb, .ref pla]))] t.heap ∧ va_K (dC, dI) vwCl [] t ∧ va_D (va_A [(pl, .inr (3, [.int plw, .int pld, .int plc, .int pls, .long plm, .ref plf, .ref plo, .ref plb, .ref pla]))] sz) [(pl, .inr (3, [.int plw, .int pld, .int plc, .int pls, .long plm, .ref plf, .ref plo, .ref plb, .ref pla]))]) (va_A [(pl, .inr (3, [.int plw, .int pld, .int plc, .int pls, .long plm, .ref plf, .ref plo, .ref plb, .ref pla]))] sz)) 0 0 (va_A [(pl, .inr (3, [.int plw, .int pld, .int plc, .int pls, .long plm, .ref plf, .ref plo, .ref plb, .ref pla]))] sz) := by
  refine Met.ofW (cc := cX3_mostSteps) (maxL := 6) (ret := (some .int)) (by decide) rfl ?_
  intro p e s m args below meth c s₁ B hml hv
  obtain ⟨rfl, hsz, hP, hK, hD0⟩ := hv
  have hx := B.exec
  have hb := B.bytes
  have hr := B.returns
  have hts := atoms_spec (ws := wz_X3_mostSteps) B.pre
  have hown : s.vm.findClass RX3 = some m.cls := findClass_of_methodNamed B.named
  have hlocks := B.notSynchronized
  subst hsz
  have hD := hD0.self (sz := s.heap.size)
  generalize hAe : va_A [(pl, .inr (3, [.int plw, .int pld, .int plc, .int pls, .long plm, .ref plf, .ref plo, .ref plb, .ref pla]))] s.heap.size = A at hD ⊢
  have hA : ∀ q : Nat, s.heap.size ≤ q → A q := fun q h => by rw [← hAe]; exact Or.inr h
  have hS : va_S A s.heap s.heap [] := va_S.rf
  have hP : va_P (dC, dI) vwCl [(pl, .inr (3, [.int plw, .int pld, .int plc, .int pls, .long plm, .ref plf, .ref plo, .ref plb, .ref pla]))] s.heap := hP
  have hl := lv_entry ([.ref pl, .long p0]) (n := 6) (Nat.le_of_ble_eq_true rfl)
  rw [lg_entry_eq]
  generalize (lg_sl ([.ref pl, .long p0]) ++ List.replicate (6 - (lg_sl ([.ref pl, .long p0])).length) Slot.unset).toArray = ls at hl ⊢
  have hl : lv_has ls 6 [(0, .ref pl), (1, .long p0)] := hl
  refine lv_iconst (v := 0) hx hb dX3_mostSteps_0 (by decide) ?_
  refine lv_istore_n (lv' := [(3, .int 0), (0, .ref pl), (1, .long p0)]) hx hb dX3_mostSteps_1 rfl hl (by decide) rfl (fun ls hl => ?_)
  refine lv_iconst (v := 0) hx hb dX3_mostSteps_2 (by decide) ?_
  refine lv_istore (lv' := [(4, .int 0), (3, .int 0), (0, .ref pl), (1, .long p0)]) hx hb dX3_mostSteps_3 hl (by decide) rfl (fun ls hl => ?_)
  refine lp_W (I := fun (a : Int32 × Int32) H locs ls => (0 ≤ a.1.toInt ∧ a.1.toInt ≤ plc.toInt) ∧ va_P (dC, dI) vwCl [(pl, .inr (3, [.int plw, .int pld, .int plc, .int pls, .long plm, .ref plf, .ref plo, .ref plb, .ref pla]))] H ∧ va_D A [(pl, .inr (3, [.int plw, .int pld, .int plc, .int pls, .long plm, .ref plf, .ref plo, .ref plb, .ref pla]))] ∧ va_S A s.heap H locs ∧ lv_has ls 6 [(4, .int a.1), (3, .int a.2), (0, .ref pl), (1, .long p0)]) (μ := fun a => (plc.toInt - a.1.toInt).toNat) ?_ ((0 : Int32), (0 : Int32)) ⟨(by have k0 : (0 : Int32).toInt = 0 := (by decide); (try dsimp only); omega), hP.sub [0] rfl, hD.sub [0] (by decide) rfl, hS, lv_sub hl [0, 1, 2, 3] rfl⟩
  intro a H locs ls hI ih5
  obtain ⟨ce, ms⟩ := a
  obtain ⟨h_ce, hP, hD, hS, hl⟩ := hI
  have h_ce : 0 ≤ ce.toInt ∧ ce.toInt ≤ plc.toInt := h_ce
  have hP : va_P (dC, dI) vwCl [(pl, .inr (3, [.int plw, .int pld, .int plc, .int pls, .long plm, .ref plf, .ref plo, .ref plb, .ref pla]))] H := hP
  have hD : va_D A [(pl, .inr (3, [.int plw, .int pld, .int plc, .int pls, .long plm, .ref plf, .ref plo, .ref plb, .ref pla]))] := hD
  have hl : lv_has ls 6 [(4, .int ce), (3, .int ms), (0, .ref pl), (1, .long p0)] := hl
  refine lv_iload hx hb dX3_mostSteps_5 (lv_at hl 0 rfl) ?_
  refine lv_aload_n hx hb dX3_mostSteps_7 rfl (lv_at hl 2 rfl) ?_
  refine va_get (D := (dC, dI)) (ci := 3) (v := .int plc) (C := RX3) (T := TX3) (N := 9) hx hb hts in_X3_mostSteps_X3 hown hK hP 0 rfl rfl 2 (by decide) (hts _ wd_X3_mostSteps_0) (fun _ h9 => h9) rfl dX3_mostSteps_8 ?_
  refine lv_icmp_ge (tgt := 59) hx hb dX3_mostSteps_11 (by decide) (fun c_1 => ?_) (fun c_1 => ?_)
  · have c_1 : plc.toInt ≤ ce.toInt := i_le (a := plc) (b := ce) rfl rfl c_1
    refine lv_iload_n hx hb dX3_mostSteps_59 rfl (lv_at hl 1 rfl) ?_
    have hP9 := hP.sub (ws' := [(pl, .inr (3, [.int plw, .int pld, .int plc, .int pls, .long plm, .ref plf, .ref plo, .ref plb, .ref pla]))]) [0] rfl
    have hD9 := hD.sub (ws' := [(pl, .inr (3, [.int plw, .int pld, .int plc, .int pls, .long plm, .ref plf, .ref plo, .ref plb, .ref pla]))]) [0] (by decide) rfl
    have hK9 := hK.sub (tys' := []) [] rfl
    refine W.widen (k := 0) (n := 0) (by omega) (by omega) ?_
    exact W.iret (v := ms) hx hb hr (fun t ht hW => ⟨⟨ms, (), rfl, trivial, by rw [ht]; exact hP9, va_K.moved hW.alike hK9, hD9⟩, hS.F ht⟩) hS.2.2 dX3_mostSteps_60
  · have c_1 : ce.toInt < plc.toInt := i_nle (a := plc) (b := ce) rfl rfl c_1
    refine lv_iload hx hb dX3_mostSteps_14 (lv_at hl 0 rfl) ?_
    refine lv_iconst (v := 1) hx hb dX3_mostSteps_16 (by decide) ?_
    refine lv_iadd hx hb dX3_mostSteps_17 ?_
    refine lv_topi (fun x_2 ex_2 => ?_)
    have zx_2 : x_2.toInt = ce.toInt + 1 := by rw [ex_2]; exact i_add rfl (by decide) (by omega) (by omega)
    refine lv_istore (lv' := [(5, .int x_2), (4, .int ce), (3, .int ms), (0, .ref pl), (1, .long p0)]) hx hb dX3_mostSteps_18 hl (by decide) rfl (fun ls hl => ?_)
    refine lp_W (I := fun (a : Int32 × Int32) H locs ls => (0 ≤ a.1.toInt ∧ a.1.toInt ≤ 25) ∧ va_P (dC, dI) vwCl [(pl, .inr (3, [.int plw, .int pld, .int plc, .int pls, .long plm, .ref plf, .ref plo, .ref plb, .ref pla]))] H ∧ va_D A [(pl, .inr (3, [.int plw, .int pld, .int plc, .int pls, .long plm, .ref plf, .ref plo, .ref plb, .ref pla]))] ∧ va_S A s.heap H locs ∧ lv_has ls 6 [(5, .int a.1), (4, .int ce), (3, .int a.2), (0, .ref pl), (1, .long p0)]) (μ := fun a => (25 - a.1.toInt).toNat) ?_ (x_2, ms) ⟨(by (try dsimp only); omega), hP.sub [0] rfl, hD.sub [0] (by decide) rfl, hS, lv_sub hl [0, 1, 2, 3, 4] rfl⟩
    intro a H locs ls hI ih20
    obtain ⟨tc, m2⟩ := a
    obtain ⟨h_tc, hP, hD, hS, hl⟩ := hI
    have h_tc : 0 ≤ tc.toInt ∧ tc.toInt ≤ 25 := h_tc
    have hP : va_P (dC, dI) vwCl [(pl, .inr (3, [.int plw, .int pld, .int plc, .int pls, .long plm, .ref plf, .ref plo, .ref plb, .ref pla]))] H := hP
    have hD : va_D A [(pl, .inr (3, [.int plw, .int pld, .int plc, .int pls, .long plm, .ref plf, .ref plo, .ref plb, .ref pla]))] := hD
    have hl : lv_has ls 6 [(5, .int tc), (4, .int ce), (3, .int m2), (0, .ref pl), (1, .long p0)] := hl
    refine lv_iload hx hb dX3_mostSteps_20 (lv_at hl 0 rfl) ?_
    refine lv_aload_n hx hb dX3_mostSteps_22 rfl (lv_at hl 3 rfl) ?_
    refine va_get (D := (dC, dI)) (ci := 3) (v := .int plc) (C := RX3) (T := TX3) (N := 9) hx hb hts in_X3_mostSteps_X3 hown hK hP 0 rfl rfl 2 (by decide) (hts _ wd_X3_mostSteps_0) (fun _ h9 => h9) rfl dX3_mostSteps_23 ?_
    refine lv_icmp_ge (tgt := 53) hx hb dX3_mostSteps_26 (by decide) (fun c_3 => ?_) (fun c_3 => ?_)
    · have c_3 : plc.toInt ≤ tc.toInt := i_le (a := plc) (b := tc) rfl rfl c_3
      obtain ⟨x_4, ex_4⟩ : ∃ y9 : Int32, y9 = ce + Int32.ofInt 1 := ⟨_, rfl⟩
      have zx_4 : x_4.toInt = ce.toInt + 1 := by rw [ex_4]; exact i_add rfl (show (Int32.ofInt 1).toInt = 1 by decide) (by omega) (by omega)
      refine lv_iinc (v := x_4) (lv' := [(4, .int x_4), (5, .int tc), (3, .int m2), (0, .ref pl), (1, .long p0)]) hx hb dX3_mostSteps_53 hl (k := 1) rfl (by rw [ex_4]) (by decide) rfl (fun ls hl => ?_)
      refine lv_goto (tgt := 5) hx hb dX3_mostSteps_56 (by decide) ?_
      exact ih5 (x_4, m2) _ _ _ ⟨(by (try dsimp only); omega), hP.sub [0] rfl, hD.sub [0] (by decide) rfl, hS, lv_sub hl [0, 2, 3, 4] rfl⟩ (by (try dsimp only); omega)
    · have c_3 : tc.toInt < plc.toInt := i_nle (a := plc) (b := tc) rfl rfl c_3
      refine lv_iload_n hx hb dX3_mostSteps_29 rfl (lv_at hl 2 rfl) ?_
      refine lv_aload_n hx hb dX3_mostSteps_30 rfl (lv_at hl 3 rfl) ?_
      refine lv_iconst (v := 1) hx hb dX3_mostSteps_31 (by decide) ?_
      refine lv_iload hx hb dX3_mostSteps_32 (lv_at hl 1 rfl) ?_
      refine lv_ishl hx hb dX3_mostSteps_34 ?_
      refine lv_topi (fun x_5 ex_5 => ?_)
      refine lv_iconst (v := 1) hx hb dX3_mostSteps_35 (by decide) ?_
      refine lv_iload hx hb dX3_mostSteps_36 (lv_at hl 0 rfl) ?_
      refine lv_ishl hx hb dX3_mostSteps_38 ?_
      refine lv_topi (fun x_6 ex_6 => ?_)
      refine lv_lload_n hx hb dX3_mostSteps_39 rfl (lv_at hl 4 rfl) ?_
      have hPc := hP.sub (ws' := [(pl, .inr (3, [.int plw, .int pld, .int plc, .int pls, .long plm, .ref plf, .ref plo, .ref plb, .ref pla]))]) [0] rfl
      have hDc := hD.sub (ws' := [(pl, .inr (3, [.int plw, .int pld, .int plc, .int pls, .long plm, .ref plf, .ref plo, .ref plb, .ref pla]))]) [0] (by decide) rfl
      have hKc := hK.sub (tys' := []) [] rfl
      have hFc := va_free (wc := [(pl, .inr (3, [.int plw, .int pld, .int plc, .int pls, .long plm, .ref plf, .ref plo, .ref plb, .ref pla]))]) hD hS hA [0] rfl
      refine va_calli (va_runV (As := [.int x_5, .int x_6, .long p0]) (rest := [.int m2]) ⟨hx, hb, hml, hown, hts⟩ (c_X3_stepsBetween l dC dI H.size pl plw pld plc pls plm plf plo plb pla x_5 x_6 p0 ) (cwV 3 hts g_X3_mostSteps_X3_stepsBetween rfl rfl rfl (by decide +kernel) ⟨Nat.le_of_ble_eq_true rfl, Nat.le_of_ble_eq_true rfl⟩) ⟨fun a U g mk q => by obtain ⟨q0, q1, qP, qK, qD⟩ := q; exact ⟨q0, q1, qP, va_K.moved (u := U) (U := U.calling g mk a) (Vm.Alike.refl U.vm) qK, qD⟩, va_recv hKc hPc (ci := 3) (q0 := 0) rfl rfl, fun U hU hW => ⟨rfl, by rw [hU], by rw [hU]; exact hPc, va_K.moved hW.alike hKc, hDc.weaken (fun _ _ _ _ => trivial)⟩⟩ rfl rfl hl.1 rfl (lv_room (Nat.le_of_ble_eq_true rfl)) dX3_mostSteps_40 ⟨Nat.le_of_ble_eq_true rfl, Nat.le_of_ble_eq_true rfl⟩) hS (fun q _ h => hFc q h) hFc (fun r_7 u t H1 locs ht hvm hw_8 hB hz1 hk1 hS => ?_)
      obtain ⟨hP1, hK1, hD1⟩ := hB
      have hP1 : va_P (dC, dI) vwCl [(pl, .inr (3, [.int plw, .int pld, .int plc, .int pls, .long plm, .ref plf, .ref plo, .ref plb, .ref pla]))] t.heap := hP1
      rw [ht] at hP1
      try dsimp only at hw_8
      obtain ⟨hP, hD⟩ := va_join (wr := []) (w1 := [(pl, .inr (3, [.int plw, .int pld, .int plc, .int pls, .long plm, .ref plf, .ref plo, .ref plb, .ref pla]))]) hP hD [0] [] rfl rfl (by decide) (by decide) hk1 hFc hP1 hD1
      generalize H1 = H at hP hS ⊢
      have hP : va_P (dC, dI) vwCl [(pl, .inr (3, [.int plw, .int pld, .int plc, .int pls, .long plm, .ref plf, .ref plo, .ref plb, .ref pla]))] H := hP
      have hD : va_D A [(pl, .inr (3, [.int plw, .int pld, .int plc, .int pls, .long plm, .ref plf, .ref plo, .ref plb, .ref pla]))] := hD
      refine va_mmax hx hb (hml.trans hl.1.symm) hown (hts _ wd_X3_mostSteps_1) (hts _ wd_X3_mostSteps_2) (hts _ wd_X3_mostSteps_3) (hts _ wd_X3_mostSteps_4) (Nat.le_of_ble_eq_true rfl) (Nat.le_of_ble_eq_true rfl) (Nat.le_of_ble_eq_true rfl) (Nat.le_of_ble_eq_true rfl) dX3_mostSteps_43 ?_
      refine lv_topi (fun x_9 ex_9 => ?_)
      refine lv_istore_n (lv' := [(3, .int x_9), (5, .int tc), (4, .int ce), (0, .ref pl), (1, .long p0)]) hx hb dX3_mostSteps_46 rfl hl (by decide) rfl (fun ls hl => ?_)
      obtain ⟨x_10, ex_10⟩ : ∃ y9 : Int32, y9 = tc + Int32.ofInt 1 := ⟨_, rfl⟩
      have zx_10 : x_10.toInt = tc.toInt + 1 := by rw [ex_10]; exact i_add rfl (show (Int32.ofInt 1).toInt = 1 by decide) (by omega) (by omega)
      refine lv_iinc (v := x_10) (lv' := [(5, .int x_10), (3, .int x_9), (4, .int ce), (0, .ref pl), (1, .long p0)]) hx hb dX3_mostSteps_47 hl (k := 1) rfl (by rw [ex_10]) (by decide) rfl (fun ls hl => ?_)
      refine lv_goto (tgt := 20) hx hb dX3_mostSteps_50 (by decide) ?_
      exact ih20 (x_10, x_9) _ _ _ ⟨(by (try dsimp only); omega), hP.sub [0] rfl, hD.sub [0] (by decide) rfl, hS, lv_sub hl [0, 2, 1, 3, 4] rfl⟩ (by (try dsimp only); omega)

theorem dX3_measure_0 : decode cX3_measure 0 = .ok (.aload 4, 2) := by decide +kernel
theorem dX3_measure_2 : decode cX3_measure 2 = .ok (.iconst (-1), 1) := by decide +kernel
theorem dX3_measure_3 : decode cX3_measure 3 = .ok (.invokestatic 48, 3) := by decide +kernel
theorem dX3_measure_6 : decode cX3_measure 6 = .ok (.iconst 1, 1) := by decide +kernel
theorem dX3_measure_7 : decode cX3_measure 7 = .ok (.iload_n 1, 1) := by decide +kernel
theorem dX3_measure_8 : decode cX3_measure 8 = .ok (.ishl, 1) := by decide +kernel
theorem dX3_measure_9 : decode cX3_measure 9 = .ok (.istore 5, 2) := by decide +kernel
theorem dX3_measure_11 : decode cX3_measure 11 = .ok (.iconst 0, 1) := by decide +kernel
theorem dX3_measure_12 : decode cX3_measure 12 = .ok (.istore 6, 2) := by decide +kernel
theorem dX3_measure_14 : decode cX3_measure 14 = .ok (.iload 6, 2) := by decide +kernel
theorem dX3_measure_16 : decode cX3_measure 16 = .ok (.bipush 25, 2) := by decide +kernel
theorem dX3_measure_18 : decode cX3_measure 18 = .ok (.if_icmp .ge 70, 3) := by decide +kernel
theorem dX3_measure_21 : decode cX3_measure 21 = .ok (.iconst 0, 1) := by decide +kernel
theorem dX3_measure_22 : decode cX3_measure 22 = .ok (.istore 7, 2) := by decide +kernel
theorem dX3_measure_24 : decode cX3_measure 24 = .ok (.iload 7, 2) := by decide +kernel
theorem dX3_measure_26 : decode cX3_measure 26 = .ok (.aload_n 0, 1) := by decide +kernel
theorem dX3_measure_27 : decode cX3_measure 27 = .ok (.getfield 18, 3) := by decide +kernel
theorem dX3_measure_30 : decode cX3_measure 30 = .ok (.if_icmp .ge 43, 3) := by decide +kernel
theorem dX3_measure_33 : decode cX3_measure 33 = .ok (.iload 7, 2) := by decide +kernel
theorem dX3_measure_35 : decode cX3_measure 35 = .ok (.aload 4, 2) := by decide +kernel
theorem dX3_measure_37 : decode cX3_measure 37 = .ok (.arraylength, 1) := by decide +kernel
theorem dX3_measure_38 : decode cX3_measure 38 = .ok (.if_icmp .ge 35, 3) := by decide +kernel
theorem dX3_measure_41 : decode cX3_measure 41 = .ok (.iload 5, 2) := by decide +kernel
theorem dX3_measure_43 : decode cX3_measure 43 = .ok (.iload 7, 2) := by decide +kernel
theorem dX3_measure_45 : decode cX3_measure 45 = .ok (.ishr, 1) := by decide +kernel
theorem dX3_measure_46 : decode cX3_measure 46 = .ok (.iconst 1, 1) := by decide +kernel
theorem dX3_measure_47 : decode cX3_measure 47 = .ok (.iand, 1) := by decide +kernel
theorem dX3_measure_48 : decode cX3_measure 48 = .ok (.ifCond .eq 19, 3) := by decide +kernel
theorem dX3_measure_51 : decode cX3_measure 51 = .ok (.aload 4, 2) := by decide +kernel
theorem dX3_measure_53 : decode cX3_measure 53 = .ok (.iload 7, 2) := by decide +kernel
theorem dX3_measure_55 : decode cX3_measure 55 = .ok (.iaload, 1) := by decide +kernel
theorem dX3_measure_56 : decode cX3_measure 56 = .ok (.iconst (-1), 1) := by decide +kernel
theorem dX3_measure_57 : decode cX3_measure 57 = .ok (.if_icmp .ne 10, 3) := by decide +kernel
theorem dX3_measure_60 : decode cX3_measure 60 = .ok (.aload 4, 2) := by decide +kernel
theorem dX3_measure_62 : decode cX3_measure 62 = .ok (.iload 7, 2) := by decide +kernel
theorem dX3_measure_64 : decode cX3_measure 64 = .ok (.iload 6, 2) := by decide +kernel
theorem dX3_measure_66 : decode cX3_measure 66 = .ok (.iastore, 1) := by decide +kernel
theorem dX3_measure_67 : decode cX3_measure 67 = .ok (.iinc 7 1, 3) := by decide +kernel
theorem dX3_measure_70 : decode cX3_measure 70 = .ok (.goto (-46), 3) := by decide +kernel
theorem dX3_measure_73 : decode cX3_measure 73 = .ok (.aload_n 0, 1) := by decide +kernel
theorem dX3_measure_74 : decode cX3_measure 74 = .ok (.iload 5, 2) := by decide +kernel
theorem dX3_measure_76 : decode cX3_measure 76 = .ok (.lload_n 2, 1) := by decide +kernel
theorem dX3_measure_77 : decode cX3_measure 77 = .ok (.invokevirtual 71, 3) := by decide +kernel
theorem dX3_measure_80 : decode cX3_measure 80 = .ok (.istore 5, 2) := by decide +kernel
theorem dX3_measure_82 : decode cX3_measure 82 = .ok (.iinc 6 1, 3) := by decide +kernel
theorem dX3_measure_85 : decode cX3_measure 85 = .ok (.goto (-71), 3) := by decide +kernel
theorem dX3_measure_88 : decode cX3_measure 88 = .ok (.return_, 1) := by decide +kernel
def wz_X3_measure : List Cond := .code yX3_measure cX3_measure 8 none :: ([Cond.fieldLink RX3 18 "HedgeMaze$Plan" "cellCount" "I", Cond.methodLink RX3 48 yJ7_fill_53178, Cond.static yJ7_fill_53178, Cond.initialized RJ7, Cond.code yJ7_fill_53178 cJ7_fill_53178 4 none, Cond.methodLink RX3 71 yX3_grow, Cond.instanceMethod yX3_grow, Cond.selects RX3 yX3_grow yX3_grow, Cond.initialized RX3, Cond.code yX3_grow cX3_grow 6 (some .int), Cond.fieldLink RX3 9 "HedgeMaze$Plan" "wide" "I"] ++ wsX30)
theorem wd_X3_measure_0 : Cond.fieldLink RX3 18 "HedgeMaze$Plan" "cellCount" "I" ∈ wz_X3_measure := List.mem_of_getElem? (i := 1) rfl
theorem in_X3_measure_X3 : ∀ w ∈ wsX30, w ∈ wz_X3_measure := fun _ h => List.mem_cons_of_mem _ (List.mem_append_right _ h)
set_option maxRecDepth 20000 in
theorem g_X3_measure_J7_fill_53178 : GoodIn wz_X3_measure (va_wsS RX3 48 yJ7_fill_53178 wz_J7_fill_53178) := goodIn_r _ [2, 3, 4, 5] rfl (by decide +kernel)
set_option maxRecDepth 20000 in
theorem g_X3_measure_X3_grow : GoodIn wz_X3_measure (wsV RX3 71 RX3 yX3_grow wz_X3_grow) := goodIn_r _ [6, 7, 8, 9, 10, 11, 12, 13, 14, 15, 16, 17, 18, 19, 20] rfl (by decide +kernel)
set_option maxHeartbeats 4000000 in
set_option maxRecDepth 100000 in
theorem c_X3_measure (l : Launch) (dC : Nat → ClassId) (dI : Nat → Nat → Nat) (sz : Nat) (pl : Nat) (plw : Int32) (pld : Int32) (plc : Int32) (pls : Int32) (plm : Int64) (plf : Nat) (plo : Nat) (plb : Nat) (pla : Nat) (p0 : Int32) (p1 : Int64) (sa : Nat) (ks : ClassId) (S : Nat → Int32) (h_plc : 0 ≤ plc.toInt ∧ plc.toInt ≤ 25) : Met l yX3_measure wz_X3_measure ({ frames := 1, cells := 0, slots := 0, locals := 25 }) (va_Pc [.ref pl, .int p0, .long p1, .ref sa] (fun U => U.heap.size = sz ∧ va_P (dC, dI) vwCl [(pl, .inr (3, [.int plw, .int pld, .int plc, .int pls, .long plm, .ref plf, .ref plo, .ref plb, .ref pla])), (sa, .inl (ks, 25, .inl S))] U.heap ∧ va_K (dC, dI) vwCl [(ks, .int)] U ∧ va_D (fun _ => True) [(pl, .inr (3, [.int plw, .int pld, .int plc, .int pls, .long plm, .ref plf, .ref plo, .ref plb, .ref pla])), (sa, .inl (ks, 25, .inl S))])) (va_Qv (fun (u : (Nat → Int32)) => True) (fun (u : (Nat → Int32)) (t : State) => va_P (dC, dI) vwCl [(pl, .inr (3, [.int plw, .int pld, .int plc, .int pls, .long plm, .ref plf, .ref plo, .ref plb, .ref pla])), (sa, .inl (ks, 25, .inl u))] t.heap ∧ va_K (dC, dI) vwCl [] t ∧ va_D (va_A [(pl, .inr (3, [.int plw, .int pld, .int plc, .int pls, .long plm, .ref plf, .ref plo, .ref plb, .ref pla])), (sa, .inl (ks, 25, .inl S))] sz) [(pl, .inr (3, [.int plw, .int pld, .int plc, .int pls, .long plm, .ref plf, .ref plo, .ref plb, .ref pla])), (sa, .inl (ks, 25, .inl u))]) (va_A [(pl, .inr (3, [.int plw, .int pld, .int plc, .int pls, .long plm, .ref plf, .ref plo, .ref plb, .ref pla])), (sa, .inl (ks, 25, .inl S))] sz)) 0 0 (va_A [(pl, .inr (3, [.int plw, .int pld, .int plc, .int pls, .long plm, .ref plf, .ref plo, .ref plb, .ref pla])), (sa, .inl (ks, 25, .inl S))] sz) := by
  refine Met.ofW (cc := cX3_measure) (maxL := 8) (ret := none) (by decide) rfl ?_
  intro p e s m args below meth c s₁ B hml hv
  obtain ⟨rfl, hsz, hP, hK, hD0⟩ := hv
  have hx := B.exec
  have hb := B.bytes
  have hr := B.returns
  have hts := atoms_spec (ws := wz_X3_measure) B.pre
  have hown : s.vm.findClass RX3 = some m.cls := findClass_of_methodNamed B.named
  have hlocks := B.notSynchronized
  subst hsz
  have hD := hD0.self (sz := s.heap.size)
  generalize hAe : va_A [(pl, .inr (3, [.int plw, .int pld, .int plc, .int pls, .long plm, .ref plf, .ref plo, .ref plb, .ref pla])), (sa, .inl (ks, 25, .inl S))] s.heap.size = A at hD ⊢
  have hA : ∀ q : Nat, s.heap.size ≤ q → A q := fun q h => by rw [← hAe]; exact Or.inr h
  have hS : va_S A s.heap s.heap [] := va_S.rf
  have hP : va_P (dC, dI) vwCl [(pl, .inr (3, [.int plw, .int pld, .int plc, .int pls, .long plm, .ref plf, .ref plo, .ref plb, .ref pla])), (sa, .inl (ks, 25, .inl S))] s.heap := hP
  have hl := lv_entry ([.ref pl, .int p0, .long p1, .ref sa]) (n := 8) (Nat.le_of_ble_eq_true rfl)
  rw [lg_entry_eq]
  generalize (lg_sl ([.ref pl, .int p0, .long p1, .ref sa]) ++ List.replicate (8 - (lg_sl ([.ref pl, .int p0, .long p1, .ref sa])).length) Slot.unset).toArray = ls at hl ⊢
  have hl : lv_has ls 8 [(0, .ref pl), (1, .int p0), (2, .long p1), (4, .ref sa)] := hl
  refine lv_aload hx hb dX3_measure_0 (lv_at hl 3 rfl) ?_
  refine lv_iconst (v := -1) hx hb dX3_measure_2 (by decide) ?_
  have hPc := hP.sub (ws' := [(sa, .inl (ks, 25, .inl S))]) [1] rfl
  have hDc := hD.sub (ws' := [(sa, .inl (ks, 25, .inl S))]) [1] (by decide) rfl
  have hKc := hK.sub (tys' := [(ks, .int)]) [0] rfl
  have hFc := va_free (wc := [(sa, .inl (ks, 25, .inl S))]) hD hS hA [1] rfl
  refine va_callv (va_runS (As := [.ref sa, .int (-1)]) (rest := []) ⟨hx, hb, hml, hown, hts⟩ (c_J7_fill_53178 l dC dI s.heap.size sa ks ((25 : Nat)) S ((-1 : Int32)) (by have k0 : (-1 : Int32).toInt = -1 := (by decide); omega)) (va_cwS 2 hts g_X3_measure_J7_fill_53178 rfl rfl rfl (by decide +kernel) ⟨Nat.le_of_ble_eq_true rfl, Nat.le_of_ble_eq_true rfl⟩) ⟨fun a U g mk q => by obtain ⟨q0, q1, qP, qK, qD⟩ := q; exact ⟨q0, q1, qP, va_K.moved (u := U) (U := U.calling g mk a) (Vm.Alike.refl U.vm) qK, qD⟩, fun U hU hW => ⟨rfl, by rw [hU], by rw [hU]; exact hPc, va_K.moved hW.alike hKc, hDc.weaken (fun _ _ _ _ => trivial)⟩⟩ rfl rfl hl.1 rfl (lv_room (Nat.le_of_ble_eq_true rfl)) dX3_measure_3 ⟨Nat.le_of_ble_eq_true rfl, Nat.le_of_ble_eq_true rfl⟩) hS (fun q _ h => hFc q h) hFc (fun u t H1 locs ht hvm hw_1 hB hz1 hk1 hS => ?_)
  obtain ⟨f2_2, rfl⟩ : ∃ z, z = u := ⟨_, rfl⟩
  obtain ⟨hP1, hK1, hD1⟩ := hB
  have hP1 : va_P (dC, dI) vwCl [(sa, .inl (ks, 25, .inl f2_2))] t.heap := hP1
  rw [ht] at hP1
  try dsimp only at hw_1
  obtain ⟨hP, hD⟩ := va_join (wr := [(pl, .inr (3, [.int plw, .int pld, .int plc, .int pls, .long plm, .ref plf, .ref plo, .ref plb, .ref pla]))]) (w1 := [(sa, .inl (ks, 25, .inl f2_2))]) hP hD [1] [0] rfl rfl (by decide) (by decide) hk1 hFc hP1 hD1
  generalize H1 = H at hP hS ⊢
  have hP : va_P (dC, dI) vwCl [(pl, .inr (3, [.int plw, .int pld, .int plc, .int pls, .long plm, .ref plf, .ref plo, .ref plb, .ref pla])), (sa, .inl (ks, 25, .inl f2_2))] H := hP
  have hD : va_D A [(pl, .inr (3, [.int plw, .int pld, .int plc, .int pls, .long plm, .ref plf, .ref plo, .ref plb, .ref pla])), (sa, .inl (ks, 25, .inl f2_2))] := hD
  refine lv_iconst (v := 1) hx hb dX3_measure_6 (by decide) ?_
  refine lv_iload_n hx hb dX3_measure_7 rfl (lv_at hl 1 rfl) ?_
  refine lv_ishl hx hb dX3_measure_8 ?_
  refine lv_topi (fun x_3 ex_3 => ?_)
  refine lv_istore (lv' := [(5, .int x_3), (0, .ref pl), (1, .int p0), (2, .long p1), (4, .ref sa)]) hx hb dX3_measure_9 hl (by decide) rfl (fun ls hl => ?_)
  refine lv_iconst (v := 0) hx hb dX3_measure_11 (by decide) ?_
  refine lv_istore (lv' := [(6, .int 0), (5, .int x_3), (0, .ref pl), (1, .int p0), (2, .long p1), (4, .ref sa)]) hx hb dX3_measure_12 hl (by decide) rfl (fun ls hl => ?_)
  refine lp_W (I := fun (a : Int32 × Int32 × (Nat → Int32)) H locs ls => (0 ≤ a.1.toInt ∧ a.1.toInt ≤ 25) ∧ va_P (dC, dI) vwCl [(pl, .inr (3, [.int plw, .int pld, .int plc, .int pls, .long plm, .ref plf, .ref plo, .ref plb, .ref pla])), (sa, .inl (ks, 25, .inl a.2.2))] H ∧ va_D A [(pl, .inr (3, [.int plw, .int pld, .int plc, .int pls, .long plm, .ref plf, .ref plo, .ref plb, .ref pla])), (sa, .inl (ks, 25, .inl a.2.2))] ∧ va_S A s.heap H locs ∧ lv_has ls 8 [(6, .int a.1), (5, .int a.2.1), (0, .ref pl), (1, .int p0), (2, .long p1), (4, .ref sa)]) (μ := fun a => (25 - a.1.toInt).toNat) ?_ ((0 : Int32), x_3, f2_2) ⟨(by have k0 : (0 : Int32).toInt = 0 := (by decide); (try dsimp only); omega), hP.sub [0, 1] rfl, hD.sub [0, 1] (by decide) rfl, hS, lv_sub hl [0, 1, 2, 3, 4, 5] rfl⟩
  intro a H locs ls hI ih14
  obtain ⟨sp, re, S3⟩ := a
  obtain ⟨h_sp, hP, hD, hS, hl⟩ := hI
  have h_sp : 0 ≤ sp.toInt ∧ sp.toInt ≤ 25 := h_sp
  have hP : va_P (dC, dI) vwCl [(pl, .inr (3, [.int plw, .int pld, .int plc, .int pls, .long plm, .ref plf, .ref plo, .ref plb, .ref pla])), (sa, .inl (ks, 25, .inl S3))] H := hP
  have hD : va_D A [(pl, .inr (3, [.int plw, .int pld, .int plc, .int pls, .long plm, .ref plf, .ref plo, .ref plb, .ref pla])), (sa, .inl (ks, 25, .inl S3))] := hD
  have hl : lv_has ls 8 [(6, .int sp), (5, .int re), (0, .ref pl), (1, .int p0), (2, .long p1), (4, .ref sa)] := hl
  refine lv_iload hx hb dX3_measure_14 (lv_at hl 0 rfl) ?_
  refine lv_bipush (v := 25) hx hb dX3_measure_16 (by decide) ?_
  refine lv_icmp_ge (tgt := 88) hx hb dX3_measure_18 (by decide) (fun c_4 => ?_) (fun c_4 => ?_)
  · have c_4 : 25 ≤ sp.toInt := i_le (a := 25) (b := sp) (by decide) rfl c_4
    have hP9 := hP.sub (ws' := [(pl, .inr (3, [.int plw, .int pld, .int plc, .int pls, .long plm, .ref plf, .ref plo, .ref plb, .ref pla])), (sa, .inl (ks, 25, .inl S3))]) [0, 1] rfl
    have hD9 := hD.sub (ws' := [(pl, .inr (3, [.int plw, .int pld, .int plc, .int pls, .long plm, .ref plf, .ref plo, .ref plb, .ref pla])), (sa, .inl (ks, 25, .inl S3))]) [0, 1] (by decide) rfl
    have hK9 := hK.sub (tys' := []) [] rfl
    refine W.widen (k := 0) (n := 0) (by omega) (by omega) ?_
    exact W.vret hx hb hr (fun t ht hW => ⟨⟨(S3), rfl, trivial, by rw [ht]; exact hP9, va_K.moved hW.alike hK9, hD9⟩, hS.F ht⟩) hS.2.2 dX3_measure_88
  · have c_4 : sp.toInt < 25 := i_nle (a := 25) (b := sp) (by decide) rfl c_4
    refine lv_iconst (v := 0) hx hb dX3_measure_21 (by decide) ?_
    refine lv_istore (lv' := [(7, .int 0), (6, .int sp), (5, .int re), (0, .ref pl), (1, .int p0), (2, .long p1), (4, .ref sa)]) hx hb dX3_measure_22 hl (by decide) rfl (fun ls hl => ?_)
    refine lp_W (I := fun (a : Int32 × (Nat → Int32)) H locs ls => (0 ≤ a.1.toInt ∧ a.1.toInt ≤ 25) ∧ va_P (dC, dI) vwCl [(pl, .inr (3, [.int plw, .int pld, .int plc, .int pls, .long plm, .ref plf, .ref plo, .ref plb, .ref pla])), (sa, .inl (ks, 25, .inl a.2))] H ∧ va_D A [(pl, .inr (3, [.int plw, .int pld, .int plc, .int pls, .long plm, .ref plf, .ref plo, .ref plb, .ref pla])), (sa, .inl (ks, 25, .inl a.2))] ∧ va_S A s.heap H locs ∧ lv_has ls 8 [(7, .int a.1), (6, .int sp), (5, .int re), (0, .ref pl), (1, .int p0), (2, .long p1), (4, .ref sa)]) (μ := fun a => (25 - a.1.toInt).toNat) ?_ ((0 : Int32), S3) ⟨(by have k0 : (0 : Int32).toInt = 0 := (by decide); (try dsimp only); omega), hP.sub [0, 1] rfl, hD.sub [0, 1] (by decide) rfl, hS, lv_sub hl [0, 1, 2, 3, 4, 5, 6] rfl⟩
    intro a H locs ls hI ih24
    obtain ⟨ce, S4⟩ := a
    obtain ⟨h_ce, hP, hD, hS, hl⟩ := hI
    have h_ce : 0 ≤ ce.toInt ∧ ce.toInt ≤ 25 := h_ce
    have hP : va_P (dC, dI) vwCl [(pl, .inr (3, [.int plw, .int pld, .int plc, .int pls, .long plm, .ref plf, .ref plo, .ref plb, .ref pla])), (sa, .inl (ks, 25, .inl S4))] H := hP
    have hD : va_D A [(pl, .inr (3, [.int plw, .int pld, .int plc, .int pls, .long plm, .ref plf, .ref plo, .ref plb, .ref pla])), (sa, .inl (ks, 25, .inl S4))] := hD
    have hl : lv_has ls 8 [(7, .int ce), (6, .int sp), (5, .int re), (0, .ref pl), (1, .int p0), (2, .long p1), (4, .ref sa)] := hl
    refine lv_iload hx hb dX3_measure_24 (lv_at hl 0 rfl) ?_
    refine lv_aload_n hx hb dX3_measure_26 rfl (lv_at hl 3 rfl) ?_
    refine va_get (D := (dC, dI)) (ci := 3) (v := .int plc) (C := RX3) (T := TX3) (N := 9) hx hb hts in_X3_measure_X3 hown hK hP 0 rfl rfl 2 (by decide) (hts _ wd_X3_measure_0) (fun _ h9 => h9) rfl dX3_measure_27 ?_
    refine lv_icmp_ge (tgt := 73) hx hb dX3_measure_30 (by decide) (fun c_5 => ?_) (fun c_5 => ?_)
    · have c_5 : plc.toInt ≤ ce.toInt := i_le (a := plc) (b := ce) rfl rfl c_5
      refine lv_aload_n hx hb dX3_measure_73 rfl (lv_at hl 3 rfl) ?_
      refine lv_iload hx hb dX3_measure_74 (lv_at hl 2 rfl) ?_
      refine lv_lload_n hx hb dX3_measure_76 rfl (lv_at hl 5 rfl) ?_
      have hPc := hP.sub (ws' := [(pl, .inr (3, [.int plw, .int pld, .int plc, .int pls, .long plm, .ref plf, .ref plo, .ref plb, .ref pla]))]) [0] rfl
      have hDc := hD.sub (ws' := [(pl, .inr (3, [.int plw, .int pld, .int plc, .int pls, .long plm, .ref plf, .ref plo, .ref plb, .ref pla]))]) [0] (by decide) rfl
      have hKc := hK.sub (tys' := []) [] rfl
      have hFc := va_free (wc := [(pl, .inr (3, [.int plw, .int pld, .int plc, .int pls, .long plm, .ref plf, .ref plo, .ref plb, .ref pla]))]) hD hS hA [0] rfl
      refine va_calli (va_runV (As := [.int re, .long p1]) (rest := []) ⟨hx, hb, hml, hown, hts⟩ (c_X3_grow l dC dI H.size pl plw pld plc pls plm plf plo plb pla re p1 ) (cwV 2 hts g_X3_measure_X3_grow rfl rfl rfl (by decide +kernel) ⟨Nat.le_of_ble_eq_true rfl, Nat.le_of_ble_eq_true rfl⟩) ⟨fun a U g mk q => by obtain ⟨q0, q1, qP, qK, qD⟩ := q; exact ⟨q0, q1, qP, va_K.moved (u := U) (U := U.calling g mk a) (Vm.Alike.refl U.vm) qK, qD⟩, va_recv hKc hPc (ci := 3) (q0 := 0) rfl rfl, fun U hU hW => ⟨rfl, by rw [hU], by rw [hU]; exact hPc, va_K.moved hW.alike hKc, hDc.weaken (fun _ _ _ _ => trivial)⟩⟩ rfl rfl hl.1 rfl (lv_room (Nat.le_of_ble_eq_true rfl)) dX3_measure_77 ⟨Nat.le_of_ble_eq_true rfl, Nat.le_of_ble_eq_true rfl⟩) hS (fun q _ h => hFc q h) hFc (fun r_6 u t H1 locs ht hvm hw_7 hB hz1 hk1 hS => ?_)
      obtain ⟨hP1, hK1, hD1⟩ := hB
      have hP1 : va_P (dC, dI) vwCl [(pl, .inr (3, [.int plw, .int pld, .int plc, .int pls, .long plm, .ref plf, .ref plo, .ref plb, .ref pla]))] t.heap := hP1
      rw [ht] at hP1
      try dsimp only at hw_7
      obtain ⟨hP, hD⟩ := va_join (wr := [(sa, .inl (ks, 25, .inl S4))]) (w1 := [(pl, .inr (3, [.int plw, .int pld, .int plc, .int pls, .long plm, .ref plf, .ref plo, .ref plb, .ref pla]))]) hP hD [0] [1] rfl rfl (by decide) (by decide) hk1 hFc hP1 hD1
      generalize H1 = H at hP hS ⊢
      have hP : va_P (dC, dI) vwCl [(sa, .inl (ks, 25, .inl S4)), (pl, .inr (3, [.int plw, .int pld, .int plc, .int pls, .long plm, .ref plf, .ref plo, .ref plb, .ref pla]))] H := hP
      have hD : va_D A [(sa, .inl (ks, 25, .inl S4)), (pl, .inr (3, [.int plw, .int pld, .int plc, .int pls, .long plm, .ref plf, .ref plo, .ref plb, .ref pla]))] := hD
      refine lv_istore (lv' := [(5, .int r_6), (7, .int ce), (6, .int sp), (0, .ref pl), (1, .int p0), (2, .long p1), (4, .ref sa)]) hx hb dX3_measure_80 hl (by decide) rfl (fun ls hl => ?_)
      obtain ⟨x_8, ex_8⟩ : ∃ y9 : Int32, y9 = sp + Int32.ofInt 1 := ⟨_, rfl⟩
      have zx_8 : x_8.toInt = sp.toInt + 1 := by rw [ex_8]; exact i_add rfl (show (Int32.ofInt 1).toInt = 1 by decide) (by omega) (by omega)
      refine lv_iinc (v := x_8) (lv' := [(6, .int x_8), (5, .int r_6), (7, .int ce), (0, .ref pl), (1, .int p0), (2, .long p1), (4, .ref sa)]) hx hb dX3_measure_82 hl (k := 2) rfl (by rw [ex_8]) (by decide) rfl (fun ls hl => ?_)
      refine lv_goto (tgt := 14) hx hb dX3_measure_85 (by decide) ?_
      exact ih14 (x_8, r_6, S4) _ _ _ ⟨(by (try dsimp only); omega), hP.sub [1, 0] rfl, hD.sub [1, 0] (by decide) rfl, hS, lv_sub hl [0, 1, 3, 4, 5, 6] rfl⟩ (by (try dsimp only); omega)
    · have c_5 : ce.toInt < plc.toInt := i_nle (a := plc) (b := ce) rfl rfl c_5
      refine lv_iload hx hb dX3_measure_33 (lv_at hl 0 rfl) ?_
      refine lv_aload hx hb dX3_measure_35 (lv_at hl 6 rfl) ?_
      refine va_alen hx hb hK hP 1 0 rfl rfl (v := 25) (show Int32.ofNat 25 = 25 by decide) dX3_measure_37 ?_
      refine lv_icmp_ge (tgt := 73) hx hb dX3_measure_38 (by decide) (fun c_9 => ?_) (fun c_9 => ?_)
      · have c_9 : 25 ≤ ce.toInt := i_le (a := 25) (b := ce) (by decide) rfl c_9
        refine lv_aload_n hx hb dX3_measure_73 rfl (lv_at hl 3 rfl) ?_
        refine lv_iload hx hb dX3_measure_74 (lv_at hl 2 rfl) ?_
        refine lv_lload_n hx hb dX3_measure_76 rfl (lv_at hl 5 rfl) ?_
        have hPc := hP.sub (ws' := [(pl, .inr (3, [.int plw, .int pld, .int plc, .int pls, .long plm, .ref plf, .ref plo, .ref plb, .ref pla]))]) [0] rfl
        have hDc := hD.sub (ws' := [(pl, .inr (3, [.int plw, .int pld, .int plc, .int pls, .long plm, .ref plf, .ref plo, .ref plb, .ref pla]))]) [0] (by decide) rfl
        have hKc := hK.sub (tys' := []) [] rfl
        have hFc := va_free (wc := [(pl, .inr (3, [.int plw, .int pld, .int plc, .int pls, .long plm, .ref plf, .ref plo, .ref plb, .ref pla]))]) hD hS hA [0] rfl
        refine va_calli (va_runV (As := [.int re, .long p1]) (rest := []) ⟨hx, hb, hml, hown, hts⟩ (c_X3_grow l dC dI H.size pl plw pld plc pls plm plf plo plb pla re p1 ) (cwV 2 hts g_X3_measure_X3_grow rfl rfl rfl (by decide +kernel) ⟨Nat.le_of_ble_eq_true rfl, Nat.le_of_ble_eq_true rfl⟩) ⟨fun a U g mk q => by obtain ⟨q0, q1, qP, qK, qD⟩ := q; exact ⟨q0, q1, qP, va_K.moved (u := U) (U := U.calling g mk a) (Vm.Alike.refl U.vm) qK, qD⟩, va_recv hKc hPc (ci := 3) (q0 := 0) rfl rfl, fun U hU hW => ⟨rfl, by rw [hU], by rw [hU]; exact hPc, va_K.moved hW.alike hKc, hDc.weaken (fun _ _ _ _ => trivial)⟩⟩ rfl rfl hl.1 rfl (lv_room (Nat.le_of_ble_eq_true rfl)) dX3_measure_77 ⟨Nat.le_of_ble_eq_true rfl, Nat.le_of_ble_eq_true rfl⟩) hS (fun q _ h => hFc q h) hFc (fun r_10 u t H1 locs ht hvm hw_11 hB hz1 hk1 hS => ?_)
        obtain ⟨hP1, hK1, hD1⟩ := hB
        have hP1 : va_P (dC, dI) vwCl [(pl, .inr (3, [.int plw, .int pld, .int plc, .int pls, .long plm, .ref plf, .ref plo, .ref plb, .ref pla]))] t.heap := hP1
        rw [ht] at hP1
        try dsimp only at hw_11
        obtain ⟨hP, hD⟩ := va_join (wr := [(sa, .inl (ks, 25, .inl S4))]) (w1 := [(pl, .inr (3, [.int plw, .int pld, .int plc, .int pls, .long plm, .ref plf, .ref plo, .ref plb, .ref pla]))]) hP hD [0] [1] rfl rfl (by decide) (by decide) hk1 hFc hP1 hD1
        generalize H1 = H at hP hS ⊢
        have hP : va_P (dC, dI) vwCl [(sa, .inl (ks, 25, .inl S4)), (pl, .inr (3, [.int plw, .int pld, .int plc, .int pls, .long plm, .ref plf, .ref plo, .ref plb, .ref pla]))] H := hP
        have hD : va_D A [(sa, .inl (ks, 25, .inl S4)), (pl, .inr (3, [.int plw, .int pld, .int plc, .int pls, .long plm, .ref plf, .ref plo, .ref plb, .ref pla]))] := hD
        refine lv_istore (lv' := [(5, .int r_10), (7, .int ce), (6, .int sp), (0, .ref pl), (1, .int p0), (2, .long p1), (4, .ref sa)]) hx hb dX3_measure_80 hl (by decide) rfl (fun ls hl => ?_)
        obtain ⟨x_12, ex_12⟩ : ∃ y9 : Int32, y9 = sp + Int32.ofInt 1 := ⟨_, rfl⟩
        have zx_12 : x_12.toInt = sp.toInt + 1 := by rw [ex_12]; exact i_add rfl (show (Int32.ofInt 1).toInt = 1 by decide) (by omega) (by omega)
        refine lv_iinc (v := x_12) (lv' := [(6, .int x_12), (5, .int r_10), (7, .int ce), (0, .ref pl), (1, .int p0), (2, .long p1), (4, .ref sa)]) hx hb dX3_measure_82 hl (k := 2) rfl (by rw [ex_12]) (by decide) rfl (fun ls hl => ?_)
        refine lv_goto (tgt := 14) hx hb dX3_measure_85 (by decide) ?_
        exact ih14 (x_12, r_10, S4) _ _ _ ⟨(by (try dsimp only); omega), hP.sub [1, 0] rfl, hD.sub [1, 0] (by decide) rfl, hS, lv_sub hl [0, 1, 3, 4, 5, 6] rfl⟩ (by (try dsimp only); omega)
      · have c_9 : ce.toInt < 25 := i_nle (a := 25) (b := ce) (by decide) rfl c_9
        refine lv_iload hx hb dX3_measure_41 (lv_at hl 2 rfl) ?_
        refine lv_iload hx hb dX3_measure_43 (lv_at hl 0 rfl) ?_
        refine lv_ishr hx hb dX3_measure_45 ?_
        refine lv_topi (fun x_13 ex_13 => ?_)
        refine lv_iconst (v := 1) hx hb dX3_measure_46 (by decide) ?_
        refine lv_iand hx hb dX3_measure_47 ?_
        refine lv_topi (fun x_14 ex_14 => ?_)
        refine lv_if_eq (tgt := 67) hx hb dX3_measure_48 (by decide) (fun c_15 => ?_) (fun c_15 => ?_)
        · have c_15 : x_14.toInt = 0 := i_eq (a := x_14) (b := 0) rfl (by decide) c_15
          obtain ⟨x_16, ex_16⟩ : ∃ y9 : Int32, y9 = ce + Int32.ofInt 1 := ⟨_, rfl⟩
          have zx_16 : x_16.toInt = ce.toInt + 1 := by rw [ex_16]; exact i_add rfl (show (Int32.ofInt 1).toInt = 1 by decide) (by omega) (by omega)
          refine lv_iinc (v := x_16) (lv' := [(7, .int x_16), (6, .int sp), (5, .int re), (0, .ref pl), (1, .int p0), (2, .long p1), (4, .ref sa)]) hx hb dX3_measure_67 hl (k := 0) rfl (by rw [ex_16]) (by decide) rfl (fun ls hl => ?_)
          refine lv_goto (tgt := 24) hx hb dX3_measure_70 (by decide) ?_
          exact ih24 (x_16, S4) _ _ _ ⟨(by (try dsimp only); omega), hP.sub [0, 1] rfl, hD.sub [0, 1] (by decide) rfl, hS, lv_sub hl [0, 1, 2, 3, 4, 5, 6] rfl⟩ (by (try dsimp only); omega)
        · have c_15 : x_14.toInt ≠ 0 := i_ne (a := x_14) (b := 0) rfl (by decide) c_15
          refine lv_aload hx hb dX3_measure_51 (lv_at hl 6 rfl) ?_
          refine lv_iload hx hb dX3_measure_53 (lv_at hl 0 rfl) ?_
          refine va_iald hx hb hK hP 1 0 rfl rfl (i_in rfl (by omega) (by omega)) dX3_measure_55 ?_
          refine lv_topi (fun v_17 ev_17 => ?_)
          refine lv_iconst (v := -1) hx hb dX3_measure_56 (by decide) ?_
          refine lv_icmp_ne (tgt := 67) hx hb dX3_measure_57 (by decide) (fun c_18 => ?_) (fun c_18 => ?_)
          · have c_18 : v_17.toInt ≠ (-1) := i_ne (a := v_17) (b := -1) rfl (by decide) c_18
            obtain ⟨x_19, ex_19⟩ : ∃ y9 : Int32, y9 = ce + Int32.ofInt 1 := ⟨_, rfl⟩
            have zx_19 : x_19.toInt = ce.toInt + 1 := by rw [ex_19]; exact i_add rfl (show (Int32.ofInt 1).toInt = 1 by decide) (by omega) (by omega)
            refine lv_iinc (v := x_19) (lv' := [(7, .int x_19), (6, .int sp), (5, .int re), (0, .ref pl), (1, .int p0), (2, .long p1), (4, .ref sa)]) hx hb dX3_measure_67 hl (k := 0) rfl (by rw [ex_19]) (by decide) rfl (fun ls hl => ?_)
            refine lv_goto (tgt := 24) hx hb dX3_measure_70 (by decide) ?_
            exact ih24 (x_19, S4) _ _ _ ⟨(by (try dsimp only); omega), hP.sub [0, 1] rfl, hD.sub [0, 1] (by decide) rfl, hS, lv_sub hl [0, 1, 2, 3, 4, 5, 6] rfl⟩ (by (try dsimp only); omega)
          · have c_18 : v_17.toInt = (-1) := i_eq (a := v_17) (b := -1) rfl (by decide) c_18
            refine lv_aload hx hb dX3_measure_60 (lv_at hl 6 rfl) ?_
            refine lv_iload hx hb dX3_measure_62 (lv_at hl 0 rfl) ?_
            refine lv_iload hx hb dX3_measure_64 (lv_at hl 1 rfl) ?_
            refine va_iast hx hb hK hP hD hS 1 0 rfl rfl (i_in rfl (by omega) (by omega)) dX3_measure_66 (fun H locs hP hD hS => ?_)
            have hP : va_P (dC, dI) vwCl [(pl, .inr (3, [.int plw, .int pld, .int plc, .int pls, .long plm, .ref plf, .ref plo, .ref plb, .ref pla])), (sa, .inl (ks, 25, .inl (upd S4 ce.toNatClampNeg sp)))] H := hP
            have hD : va_D A [(pl, .inr (3, [.int plw, .int pld, .int plc, .int pls, .long plm, .ref plf, .ref plo, .ref plb, .ref pla])), (sa, .inl (ks, 25, .inl (upd S4 ce.toNatClampNeg sp)))] := hD
            obtain ⟨f_20, ef_20⟩ : ∃ g, g = upd S4 ce.toNatClampNeg sp := ⟨_, rfl⟩
            rw [← ef_20] at hP hD
            obtain ⟨x_21, ex_21⟩ : ∃ y9 : Int32, y9 = ce + Int32.ofInt 1 := ⟨_, rfl⟩
            have zx_21 : x_21.toInt = ce.toInt + 1 := by rw [ex_21]; exact i_add rfl (show (Int32.ofInt 1).toInt = 1 by decide) (by omega) (by omega)
            refine lv_iinc (v := x_21) (lv' := [(7, .int x_21), (6, .int sp), (5, .int re), (0, .ref pl), (1, .int p0), (2, .long p1), (4, .ref sa)]) hx hb dX3_measure_67 hl (k := 0) rfl (by rw [ex_21]) (by decide) rfl (fun ls hl => ?_)
            refine lv_goto (tgt := 24) hx hb dX3_measure_70 (by decide) ?_
            exact ih24 (x_21, f_20) _ _ _ ⟨(by (try dsimp only); omega), hP.sub [0, 1] rfl, hD.sub [0, 1] (by decide) rfl, hS, lv_sub hl [0, 1, 2, 3, 4, 5, 6] rfl⟩ (by (try dsimp only); omega)

theorem dX3_nextOnWay_0 : decode cX3_nextOnWay 0 = .ok (.iconst 0, 1) := by decide +kernel
theorem dX3_nextOnWay_1 : decode cX3_nextOnWay 1 = .ok (.istore 5, 2) := by decide +kernel
theorem dX3_nextOnWay_3 : decode cX3_nextOnWay 3 = .ok (.iload 5, 2) := by decide +kernel
theorem dX3_nextOnWay_5 : decode cX3_nextOnWay 5 = .ok (.iconst 4, 1) := by decide +kernel
theorem dX3_nextOnWay_6 : decode cX3_nextOnWay 6 = .ok (.if_icmp .ge 54, 3) := by decide +kernel
theorem dX3_nextOnWay_9 : decode cX3_nextOnWay 9 = .ok (.aload_n 0, 1) := by decide +kernel
theorem dX3_nextOnWay_10 : decode cX3_nextOnWay 10 = .ok (.iload_n 1, 1) := by decide +kernel
theorem dX3_nextOnWay_11 : decode cX3_nextOnWay 11 = .ok (.iload 5, 2) := by decide +kernel
theorem dX3_nextOnWay_13 : decode cX3_nextOnWay 13 = .ok (.invokevirtual 62, 3) := by decide +kernel
theorem dX3_nextOnWay_16 : decode cX3_nextOnWay 16 = .ok (.istore 6, 2) := by decide +kernel
theorem dX3_nextOnWay_18 : decode cX3_nextOnWay 18 = .ok (.aload_n 0, 1) := by decide +kernel
theorem dX3_nextOnWay_19 : decode cX3_nextOnWay 19 = .ok (.iload 6, 2) := by decide +kernel
theorem dX3_nextOnWay_21 : decode cX3_nextOnWay 21 = .ok (.iload_n 1, 1) := by decide +kernel
theorem dX3_nextOnWay_22 : decode cX3_nextOnWay 22 = .ok (.invokevirtual 93, 3) := by decide +kernel
theorem dX3_nextOnWay_25 : decode cX3_nextOnWay 25 = .ok (.istore 7, 2) := by decide +kernel
theorem dX3_nextOnWay_27 : decode cX3_nextOnWay 27 = .ok (.aload_n 0, 1) := by decide +kernel
theorem dX3_nextOnWay_28 : decode cX3_nextOnWay 28 = .ok (.lload_n 2, 1) := by decide +kernel
theorem dX3_nextOnWay_29 : decode cX3_nextOnWay 29 = .ok (.iload 6, 2) := by decide +kernel
theorem dX3_nextOnWay_31 : decode cX3_nextOnWay 31 = .ok (.invokevirtual 67, 3) := by decide +kernel
theorem dX3_nextOnWay_34 : decode cX3_nextOnWay 34 = .ok (.ifCond .eq 20, 3) := by decide +kernel
theorem dX3_nextOnWay_37 : decode cX3_nextOnWay 37 = .ok (.aload 4, 2) := by decide +kernel
theorem dX3_nextOnWay_39 : decode cX3_nextOnWay 39 = .ok (.iload 7, 2) := by decide +kernel
theorem dX3_nextOnWay_41 : decode cX3_nextOnWay 41 = .ok (.iaload, 1) := by decide +kernel
theorem dX3_nextOnWay_42 : decode cX3_nextOnWay 42 = .ok (.aload 4, 2) := by decide +kernel
theorem dX3_nextOnWay_44 : decode cX3_nextOnWay 44 = .ok (.iload_n 1, 1) := by decide +kernel
theorem dX3_nextOnWay_45 : decode cX3_nextOnWay 45 = .ok (.iaload, 1) := by decide +kernel
theorem dX3_nextOnWay_46 : decode cX3_nextOnWay 46 = .ok (.iconst 1, 1) := by decide +kernel
theorem dX3_nextOnWay_47 : decode cX3_nextOnWay 47 = .ok (.isub, 1) := by decide +kernel
theorem dX3_nextOnWay_48 : decode cX3_nextOnWay 48 = .ok (.if_icmp .ne 6, 3) := by decide +kernel
theorem dX3_nextOnWay_51 : decode cX3_nextOnWay 51 = .ok (.iload 7, 2) := by decide +kernel
theorem dX3_nextOnWay_53 : decode cX3_nextOnWay 53 = .ok (.ireturn, 1) := by decide +kernel
theorem dX3_nextOnWay_54 : decode cX3_nextOnWay 54 = .ok (.iinc 5 1, 3) := by decide +kernel
theorem dX3_nextOnWay_57 : decode cX3_nextOnWay 57 = .ok (.goto (-54), 3) := by decide +kernel
theorem dX3_nextOnWay_60 : decode cX3_nextOnWay 60 = .ok (.iload_n 1, 1) := by decide +kernel
theorem dX3_nextOnWay_61 : decode cX3_nextOnWay 61 = .ok (.ireturn, 1) := by decide +kernel
def wz_X3_nextOnWay : List Cond := .code yX3_nextOnWay cX3_nextOnWay 8 (some .int) :: ([Cond.methodLink RX3 62 yX3_sideAt, Cond.instanceMethod yX3_sideAt, Cond.selects RX3 yX3_sideAt yX3_sideAt, Cond.initialized RX3, Cond.code yX3_sideAt cX3_sideAt 4 (some .int), Cond.fieldLink RX3 39 "HedgeMaze$Plan" "around" "[I", Cond.methodLink RX3 93 yX3_beyond, Cond.instanceMethod yX3_beyond, Cond.selects RX3 yX3_beyond yX3_beyond, Cond.code yX3_beyond cX3_beyond 3 (some .int), Cond.fieldLink RX3 21 "HedgeMaze$Plan" "sideCount" "I", Cond.fieldLink RX3 28 "HedgeMaze$Plan" "first" "[I", Cond.fieldLink RX3 32 "HedgeMaze$Plan" "other" "[I", Cond.methodLink RX3 67 yX3_has, Cond.instanceMethod yX3_has, Cond.selects RX3 yX3_has yX3_has, Cond.code yX3_has cX3_has 4 (some .boolean), Cond.methodLink RX3 58 yX3_bitOf, Cond.instanceMethod yX3_bitOf, Cond.selects RX3 yX3_bitOf yX3_bitOf, Cond.code yX3_bitOf cX3_bitOf 3 (some .long), Cond.fieldLink RX3 35 "HedgeMaze$Plan" "bits" "[J"] ++ wsX30)
set_option maxRecDepth 20000 in
theorem g_X3_nextOnWay_X3_sideAt : GoodIn wz_X3_nextOnWay (wsV RX3 62 RX3 yX3_sideAt wz_X3_sideAt) := goodIn_r _ [1, 2, 3, 4, 5, 6, 23, 24, 25, 26, 27, 28, 29, 30, 31] rfl (by decide +kernel)
set_option maxRecDepth 20000 in
theorem g_X3_nextOnWay_X3_beyond : GoodIn wz_X3_nextOnWay (wsV RX3 93 RX3 yX3_beyond wz_X3_beyond) := goodIn_r _ [7, 8, 9, 4, 10, 11, 12, 13, 23, 24, 25, 26, 27, 28, 29, 30, 31] rfl (by decide +kernel)
set_option maxRecDepth 20000 in
theorem g_X3_nextOnWay_X3_has : GoodIn wz_X3_nextOnWay (wsV RX3 67 RX3 yX3_has wz_X3_has) := goodIn_r _ [14, 15, 16, 4, 17, 18, 19, 20, 4, 21, 11, 22, 23, 24, 25, 26, 27, 28, 29, 30, 31] rfl (by decide +kernel)
set_option maxHeartbeats 4000000 in
set_option maxRecDepth 100000 in
theorem c_X3_nextOnWay (l : Launch) (dC : Nat → ClassId) (dI : Nat → Nat → Nat) (sz : Nat) (pl : Nat) (plw : Int32) (pld : Int32) (plc : Int32) (pls : Int32) (plm : Int64) (plf : Nat) (plo : Nat) (plb : Nat) (pla : Nat) (plkf : ClassId) (plF : Nat → Int32) (plko : ClassId) (plO : Nat → Int32) (plkb : ClassId) (plB : Nat → Int64) (plka : ClassId) (plA : Nat → Int32) (p0 : Int32) (p1 : Int64) (sa : Nat) (ks : ClassId) (S : Nat → Int32) (h_pls : 0 ≤ pls.toInt ∧ pls.toInt ≤ 40) (h_p0 : 0 ≤ p0.toInt ∧ p0.toInt ≤ 24) (hR_plf : RG plF 40 0 24) (hR_plo : RG plO 40 0 24) : Met l yX3_nextOnWay wz_X3_nextOnWay ({ frames := 2, cells := 0, slots := 0, locals := 45 }) (va_Pc [.ref pl, .int p0, .long p1, .ref sa] (fun U => U.heap.size = sz ∧ va_P (dC, dI) vwCl [(pl, .inr (3, [.int plw, .int pld, .int plc, .int pls, .long plm, .ref plf, .ref plo, .ref plb, .ref pla])), (plf, .inl (plkf, 40, .inl plF)), (plo, .inl (plko, 40, .inl plO)), (plb, .inl (plkb, 40, .inr (.inl plB))), (pla, .inl (plka, 100, .inl plA)), (sa, .inl (ks, 25, .inl S))] U.heap ∧ va_K (dC, dI) vwCl [(plkf, .int), (plko, .int), (plkb, .long), (plka, .int), (ks, .int)] U ∧ va_D (fun _ => True) [(pl, .inr (3, [.int plw, .int pld, .int plc, .int pls, .long plm, .ref plf, .ref plo, .ref plb, .ref pla])), (plf, .inl (plkf, 40, .inl plF)), (plo, .inl (plko, 40, .inl plO)), (plb, .inl (plkb, 40, .inr (.inl plB))), (pla, .inl (plka, 100, .inl plA)), (sa, .inl (ks, 25, .inl S))])) (va_Qi (fun (r : Int32) (u : Unit) => (0 ≤ r.toInt ∧ r.toInt ≤ 24)) (fun (u : Unit) (t : State) => va_P (dC, dI) vwCl [(pl, .inr (3, [.int plw, .int pld, .int plc, .int pls, .long plm, .ref plf, .ref plo, .ref plb, .ref pla])), (plf, .inl (plkf, 40, .inl plF)), (plo, .inl (plko, 40, .inl plO)), (plb, .inl (plkb, 40, .inr (.inl plB))), (pla, .inl (plka, 100, .inl plA)), (sa, .inl (ks, 25, .inl S))] t.heap ∧ va_K (dC, dI) vwCl [] t ∧ va_D (va_A [(pl, .inr (3, [.int plw, .int pld, .int plc, .int pls, .long plm, .ref plf, .ref plo, .ref plb, .ref pla])), (plf, .inl (plkf, 40, .inl plF)), (plo, .inl (plko, 40, .inl plO)), (plb, .inl (plkb, 40, .inr (.inl plB))), (pla, .inl (plka, 100, .inl plA)), (sa, .inl (ks, 25, .inl S))] sz) [(pl, .inr (3, [.int plw, .int pld, .int plc, .int pls, .long plm, .ref plf, .ref plo, .ref plb, .ref pla])), (plf, .inl (plkf, 40, .inl plF)), (plo, .inl (plko, 40, .inl plO)), (plb, .inl (plkb, 40, .inr (.inl plB))), (pla, .inl (plka, 100, .inl plA)), (sa, .inl (ks, 25, .inl S))]) (va_A [(pl, .inr (3, [.int plw, .int pld, .int plc, .int pls, .long plm, .ref plf, .ref plo, .ref plb, .ref pla])), (plf, .inl (plkf, 40, .inl plF)), (plo, .inl (plko, 40, .inl plO)), (plb, .inl (plkb, 40, .inr (.inl plB))), (pla, .inl (plka, 100, .inl plA)), (sa, .inl (ks, 25, .inl S))] sz)) 0 0 (va_A [(pl, .inr (3, [.int plw, .int pld, .int plc, .int pls, .long plm, .ref plf, .ref plo, .ref plb, .ref pla])), (plf, .inl (plkf, 40, .inl plF)), (plo, .inl (plko, 40, .inl plO)), (plb, .inl (plkb, 40, .inr (.inl plB))), (pla, .inl (plka, 100, .inl plA)), (sa, .inl (ks, 25, .inl S))] sz) := by
  refine Met.ofW (cc := cX3_nextOnWay) (maxL := 8) (ret := (some .int)) (by decide) rfl ?_
  intro p e s m args below meth c s₁ B hml hv
  obtain ⟨rfl, hsz, hP, hK, hD0⟩ := hv
  have hx := B.exec
  have hb := B.bytes
  have hr := B.returns
  have hts := atoms_spec (ws := wz_X3_nextOnWay) B.pre
  have hown : s.vm.findClass RX3 = some m.cls := findClass_of_methodNamed B.named
  have hlocks := B.notSynchronized
  subst hsz
  have hD := hD0.self (sz := s.heap.size)
  generalize hAe : va_A [(pl, .inr (3, [.int plw, .int pld, .int plc, .int pls, .long plm, .ref plf, .ref plo, .ref plb, .ref pla])), (plf, .inl (plkf, 40, .inl plF)), (plo, .inl (plko, 40, .inl plO)), (plb, .inl (plkb, 40, .inr (.inl plB))), (pla, .inl (plka, 100, .inl plA)), (sa, .inl (ks, 25, .inl S))] s.heap.size = A at hD ⊢
  have hA : ∀ q : Nat, s.heap.size ≤ q → A q := fun q h => by rw [← hAe]; exact Or.inr h
  have hS : va_S A s.heap s.heap [] := va_S.rf
  have hP : va_P (dC, dI) vwCl [(pl, .inr (3, [.int plw, .int pld, .int plc, .int pls, .long plm, .ref plf, .ref plo, .ref plb, .ref pla])), (plf, .inl (plkf, 40, .inl plF)), (plo, .inl (plko, 40, .inl plO)), (plb, .inl (plkb, 40, .inr (.inl plB))), (pla, .inl (plka, 100, .inl plA)), (sa, .inl (ks, 25, .inl S))] s.heap := hP
  have hl := lv_entry ([.ref pl, .int p0, .long p1, .ref sa]) (n := 8) (Nat.le_of_ble_eq_true rfl)
  rw [lg_entry_eq]
  generalize (lg_sl ([.ref pl, .int p0, .long p1, .ref sa]) ++ List.replicate (8 - (lg_sl ([.ref pl, .int p0, .long p1, .ref sa])).length) Slot.unset).toArray = ls at hl ⊢
  have hl : lv_has ls 8 [(0, .ref pl), (1, .int p0), (2, .long p1), (4, .ref sa)] := hl
  refine lv_iconst (v := 0) hx hb dX3_nextOnWay_0 (by decide) ?_
  refine lv_istore (lv' := [(5, .int 0), (0, .ref pl), (1, .int p0), (2, .long p1), (4, .ref sa)]) hx hb dX3_nextOnWay_1 hl (by decide) rfl (fun ls hl => ?_)
  refine lp_W (I := fun (a : Int32) H locs ls => (0 ≤ a.toInt ∧ a.toInt ≤ 4) ∧ va_P (dC, dI) vwCl [(pl, .inr (3, [.int plw, .int pld, .int plc, .int pls, .long plm, .ref plf, .ref plo, .ref plb, .ref pla])), (plf, .inl (plkf, 40, .inl plF)), (plo, .inl (plko, 40, .inl plO)), (plb, .inl (plkb, 40, .inr (.inl plB))), (pla, .inl (plka, 100, .inl plA)), (sa, .inl (ks, 25, .inl S))] H ∧ va_D A [(pl, .inr (3, [.int plw, .int pld, .int plc, .int pls, .long plm, .ref plf, .ref plo, .ref plb, .ref pla])), (plf, .inl (plkf, 40, .inl plF)), (plo, .inl (plko, 40, .inl plO)), (plb, .inl (plkb, 40, .inr (.inl plB))), (pla, .inl (plka, 100, .inl plA)), (sa, .inl (ks, 25, .inl S))] ∧ va_S A s.heap H locs ∧ lv_has ls 8 [(5, .int a), (0, .ref pl), (1, .int p0), (2, .long p1), (4, .ref sa)]) (μ := fun a => (4 - a.toInt).toNat) ?_ ((0 : Int32)) ⟨(by have k0 : (0 : Int32).toInt = 0 := (by decide); (try dsimp only); omega), hP.sub [0, 1, 2, 3, 4, 5] rfl, hD.sub [0, 1, 2, 3, 4, 5] (by decide) rfl, hS, lv_sub hl [0, 1, 2, 3, 4] rfl⟩
  intro a H locs ls hI ih3
  obtain ⟨wy, rfl⟩ : ∃ z, z = a := ⟨_, rfl⟩
  obtain ⟨h_wy, hP, hD, hS, hl⟩ := hI
  have h_wy : 0 ≤ wy.toInt ∧ wy.toInt ≤ 4 := h_wy
  have hP : va_P (dC, dI) vwCl [(pl, .inr (3, [.int plw, .int pld, .int plc, .int pls, .long plm, .ref plf, .ref plo, .ref plb, .ref pla])), (plf, .inl (plkf, 40, .inl plF)), (plo, .inl (plko, 40, .inl plO)), (plb, .inl (plkb, 40, .inr (.inl plB))), (pla, .inl (plka, 100, .inl plA)), (sa, .inl (ks, 25, .inl S))] H := hP
  have hD : va_D A [(pl, .inr (3, [.int plw, .int pld, .int plc, .int pls, .long plm, .ref plf, .ref plo, .ref plb, .ref pla])), (plf, .inl (plkf, 40, .inl plF)), (plo, .inl (plko, 40, .inl plO)), (plb, .inl (plkb, 40, .inr (.inl plB))), (pla, .inl (plka, 100, .inl plA)), (sa, .inl (ks, 25, .inl S))] := hD
  have hl : lv_has ls 8 [(5, .int wy), (0, .ref pl), (1, .int p0), (2, .long p1), (4, .ref sa)] := hl
  refine lv_iload hx hb dX3_nextOnWay_3 (lv_at hl 0 rfl) ?_
  refine lv_iconst (v := 4) hx hb dX3_nextOnWay_5 (by decide) ?_
  refine lv_icmp_ge (tgt := 60) hx hb dX3_nextOnWay_6 (by decide) (fun c_1 => ?_) (fun c_1 => ?_)
  · have c_1 : 4 ≤ wy.toInt := i_le (a := 4) (b := wy) (by decide) rfl c_1
    refine lv_iload_n hx hb dX3_nextOnWay_60 rfl (lv_at hl 2 rfl) ?_
    have hP9 := hP.sub (ws' := [(pl, .inr (3, [.int plw, .int pld, .int plc, .int pls, .long plm, .ref plf, .ref plo, .ref plb, .ref pla])), (plf, .inl (plkf, 40, .inl plF)), (plo, .inl (plko, 40, .inl plO)), (plb, .inl (plkb, 40, .inr (.inl plB))), (pla, .inl (plka, 100, .inl plA)), (sa, .inl (ks, 25, .inl S))]) [0, 1, 2, 3, 4, 5] rfl
    have hD9 := hD.sub (ws' := [(pl, .inr (3, [.int plw, .int pld, .int plc, .int pls, .long plm, .ref plf, .ref plo, .ref plb, .ref pla])), (plf, .inl (plkf, 40, .inl plF)), (plo, .inl (plko, 40, .inl plO)), (plb, .inl (plkb, 40, .inr (.inl plB))), (pla, .inl (plka, 100, .inl plA)), (sa, .inl (ks, 25, .inl S))]) [0, 1, 2, 3, 4, 5] (by decide) rfl
    have hK9 := hK.sub (tys' := []) [] rfl
    refine W.widen (k := 0) (n := 0) (by omega) (by omega) ?_
    exact W.iret (v := p0) hx hb hr (fun t ht hW => ⟨⟨p0, (), rfl, (by first | rfl | trivial | (dsimp only; omega) | omega | (left; rfl) | (right; rfl) | (dsimp only; first | (left; rfl) | (right; rfl))), by rw [ht]; exact hP9, va_K.moved hW.alike hK9, hD9⟩, hS.F ht⟩) hS.2.2 dX3_nextOnWay_61
  · have c_1 : wy.toInt < 4 := i_nle (a := 4) (b := wy) (by decide) rfl c_1
    refine lv_aload_n hx hb dX3_nextOnWay_9 rfl (lv_at hl 1 rfl) ?_
    refine lv_iload_n hx hb dX3_nextOnWay_10 rfl (lv_at hl 2 rfl) ?_
    refine lv_iload hx hb dX3_nextOnWay_11 (lv_at hl 0 rfl) ?_
    have hPc := hP.sub (ws' := [(pl, .inr (3, [.int plw, .int pld, .int plc, .int pls, .long plm, .ref plf, .ref plo, .ref plb, .ref pla])), (pla, .inl (plka, 100, .inl plA))]) [0, 4] rfl
    have hDc := hD.sub (ws' := [(pl, .inr (3, [.int plw, .int pld, .int plc, .int pls, .long plm, .ref plf, .ref plo, .ref plb, .ref pla])), (pla, .inl (plka, 100, .inl plA))]) [0, 4] (by decide) rfl
    have hKc := hK.sub (tys' := [(plka, .int)]) [3] rfl
    have hFc := va_free (wc := [(pl, .inr (3, [.int plw, .int pld, .int plc, .int pls, .long plm, .ref plf, .ref plo, .ref plb, .ref pla])), (pla, .inl (plka, 100, .inl plA))]) hD hS hA [0, 4] rfl
    refine va_calli (va_runV (As := [.int p0, .int wy]) (rest := []) ⟨hx, hb, hml, hown, hts⟩ (c_X3_sideAt l dC dI H.size pl plw pld plc pls plm plf plo plb pla plka plA p0 wy ) (cwV 2 hts g_X3_nextOnWay_X3_sideAt rfl rfl rfl (by decide +kernel) ⟨Nat.le_of_ble_eq_true rfl, Nat.le_of_ble_eq_true rfl⟩) ⟨fun a U g mk q => by obtain ⟨q0, q1, qP, qK, qD⟩ := q; exact ⟨q0, q1, qP, va_K.moved (u := U) (U := U.calling g mk a) (Vm.Alike.refl U.vm) qK, qD⟩, va_recv hKc hPc (ci := 3) (q0 := 0) rfl rfl, fun U hU hW => ⟨rfl, by rw [hU], by rw [hU]; exact hPc, va_K.moved hW.alike hKc, hDc.weaken (fun _ _ _ _ => trivial)⟩⟩ rfl rfl hl.1 rfl (lv_room (Nat.le_of_ble_eq_true rfl)) dX3_nextOnWay_13 ⟨Nat.le_of_ble_eq_true rfl, Nat.le_of_ble_eq_true rfl⟩) hS (fun q _ h => hFc q h) hFc (fun r_2 u t H1 locs ht hvm hw_3 hB hz1 hk1 hS => ?_)
    obtain ⟨hP1, hK1, hD1⟩ := hB
    have hP1 : va_P (dC, dI) vwCl [(pl, .inr (3, [.int plw, .int pld, .int plc, .int pls, .long plm, .ref plf, .ref plo, .ref plb, .ref pla])), (pla, .inl (plka, 100, .inl plA))] t.heap := hP1
    rw [ht] at hP1
    try dsimp only at hw_3
    obtain ⟨hP, hD⟩ := va_join (wr := [(plf, .inl (plkf, 40, .inl plF)), (plo, .inl (plko, 40, .inl plO)), (plb, .inl (plkb, 40, .inr (.inl plB))), (sa, .inl (ks, 25, .inl S))]) (w1 := [(pl, .inr (3, [.int plw, .int pld, .int plc, .int pls, .long plm, .ref plf, .ref plo, .ref plb, .ref pla])), (pla, .inl (plka, 100, .inl plA))]) hP hD [0, 4] [1, 2, 3, 5] rfl rfl (by decide) (by decide) hk1 hFc hP1 hD1
    generalize H1 = H at hP hS ⊢
    have hP : va_P (dC, dI) vwCl [(plf, .inl (plkf, 40, .inl plF)), (plo, .inl (plko, 40, .inl plO)), (plb, .inl (plkb, 40, .inr (.inl plB))), (sa, .inl (ks, 25, .inl S)), (pl, .inr (3, [.int plw, .int pld, .int plc, .int pls, .long plm, .ref plf, .ref plo, .ref plb, .ref pla])), (pla, .inl (plka, 100, .inl plA))] H := hP
    have hD : va_D A [(plf, .inl (plkf, 40, .inl plF)), (plo, .inl (plko, 40, .inl plO)), (plb, .inl (plkb, 40, .inr (.inl plB))), (sa, .inl (ks, 25, .inl S)), (pl, .inr (3, [.int plw, .int pld, .int plc, .int pls, .long plm, .ref plf, .ref plo, .ref plb, .ref pla])), (pla, .inl (plka, 100, .inl plA))] := hD
    refine lv_istore (lv' := [(6, .int r_2), (5, .int wy), (0, .ref pl), (1, .int p0), (2, .long p1), (4, .ref sa)]) hx hb dX3_nextOnWay_16 hl (by decide) rfl (fun ls hl => ?_)
    refine lv_aload_n hx hb dX3_nextOnWay_18 rfl (lv_at hl 2 rfl) ?_
    refine lv_iload hx hb dX3_nextOnWay_19 (lv_at hl 0 rfl) ?_
    refine lv_iload_n hx hb dX3_nextOnWay_21 rfl (lv_at hl 3 rfl) ?_
    have hPc := hP.sub (ws' := [(pl, .inr (3, [.int plw, .int pld, .int plc, .int pls, .long plm, .ref plf, .ref plo, .ref plb, .ref pla])), (plf, .inl (plkf, 40, .inl plF)), (plo, .inl (plko, 40, .inl plO))]) [4, 0, 1] rfl
    have hDc := hD.sub (ws' := [(pl, .inr (3, [.int plw, .int pld, .int plc, .int pls, .long plm, .ref plf, .ref plo, .ref plb, .ref pla])), (plf, .inl (plkf, 40, .inl plF)), (plo, .inl (plko, 40, .inl plO))]) [4, 0, 1] (by decide) rfl
    have hKc := hK.sub (tys' := [(plkf, .int), (plko, .int)]) [0, 1] rfl
    have hFc := va_free (wc := [(pl, .inr (3, [.int plw, .int pld, .int plc, .int pls, .long plm, .ref plf, .ref plo, .ref plb, .ref pla])), (plf, .inl (plkf, 40, .inl plF)), (plo, .inl (plko, 40, .inl plO))]) hD hS hA [4, 0, 1] rfl
    refine va_calli (va_runV (As := [.int r_2, .int p0]) (rest := []) ⟨hx, hb, hml, hown, hts⟩ (c_X3_beyond l dC dI H.size pl plw pld plc pls plm plf plo plb pla plkf plF plko plO r_2 p0 (by omega) (by omega) hR_plf hR_plo) (cwV 2 hts g_X3_nextOnWay_X3_beyond rfl rfl rfl (by decide +kernel) ⟨Nat.le_of_ble_eq_true rfl, Nat.le_of_ble_eq_true rfl⟩) ⟨fun a U g mk q => by obtain ⟨q0, q1, qP, qK, qD⟩ := q; exact ⟨q0, q1, qP, va_K.moved (u := U) (U := U.calling g mk a) (Vm.Alike.refl U.vm) qK, qD⟩, va_recv hKc hPc (ci := 3) (q0 := 0) rfl rfl, fun U hU hW => ⟨rfl, by rw [hU], by rw [hU]; exact hPc, va_K.moved hW.alike hKc, hDc.weaken (fun _ _ _ _ => trivial)⟩⟩ rfl rfl hl.1 rfl (lv_room (Nat.le_of_ble_eq_true rfl)) dX3_nextOnWay_22 ⟨Nat.le_of_ble_eq_true rfl, Nat.le_of_ble_eq_true rfl⟩) hS (fun q _ h => hFc q h) hFc (fun r_4 u t H1 locs ht hvm hw_5 hB hz1 hk1 hS => ?_)
    obtain ⟨hP1, hK1, hD1⟩ := hB
    have hP1 : va_P (dC, dI) vwCl [(pl, .inr (3, [.int plw, .int pld, .int plc, .int pls, .long plm, .ref plf, .ref plo, .ref plb, .ref pla])), (plf, .inl (plkf, 40, .inl plF)), (plo, .inl (plko, 40, .inl plO))] t.heap := hP1
    rw [ht] at hP1
    try dsimp only at hw_5
    obtain ⟨hP, hD⟩ := va_join (wr := [(plb, .inl (plkb, 40, .inr (.inl plB))), (sa, .inl (ks, 25, .inl S)), (pla, .inl (plka, 100, .inl plA))]) (w1 := [(pl, .inr (3, [.int plw, .int pld, .int plc, .int pls, .long plm, .ref plf, .ref plo, .ref plb, .ref pla])), (plf, .inl (plkf, 40, .inl plF)), (plo, .inl (plko, 40, .inl plO))]) hP hD [4, 0, 1] [2, 3, 5] rfl rfl (by decide) (by decide) hk1 hFc hP1 hD1
    generalize H1 = H at hP hS ⊢
    have hP : va_P (dC, dI) vwCl [(plb, .inl (plkb, 40, .inr (.inl plB))), (sa, .inl (ks, 25, .inl S)), (pla, .inl (plka, 100, .inl plA)), (pl, .inr (3, [.int plw, .int pld, .int plc, .int pls, .long plm, .ref plf, .ref plo, .ref plb, .ref pla])), (plf, .inl (plkf, 40, .inl plF)), (plo, .inl (plko, 40, .inl plO))] H := hP
    have hD : va_D A [(plb, .inl (plkb, 40, .inr (.inl plB))), (sa, .inl (ks, 25, .inl S)), (pla, .inl (plka, 100, .inl plA)), (pl, .inr (3, [.int plw, .int pld, .int plc, .int pls, .long plm, .ref plf, .ref plo, .ref plb, .ref pla])), (plf, .inl (plkf, 40, .inl plF)), (plo, .inl (plko, 40, .inl plO))] := hD
    refine lv_istore (lv' := [(7, .int r_4), (6, .int r_2), (5, .int wy), (0, .ref pl), (1, .int p0), (2, .long p1), (4, .ref sa)]) hx hb dX3_nextOnWay_25 hl (by decide) rfl (fun ls hl => ?_)
    refine lv_aload_n hx hb dX3_nextOnWay_27 rfl (lv_at hl 3 rfl) ?_
    refine lv_lload_n hx hb dX3_nextOnWay_28 rfl (lv_at hl 5 rfl) ?_
    refine lv_iload hx hb dX3_nextOnWay_29 (lv_at hl 1 rfl) ?_
    have hPc := hP.sub (ws' := [(pl, .inr (3, [.int plw, .int pld, .int plc, .int pls, .long plm, .ref plf, .ref plo, .ref plb, .ref pla])), (plb, .inl (plkb, 40, .inr (.inl plB)))]) [3, 0] rfl
    have hDc := hD.sub (ws' := [(pl, .inr (3, [.int plw, .int pld, .int plc, .int pls, .long plm, .ref plf, .ref plo, .ref plb, .ref pla])), (plb, .inl (plkb, 40, .inr (.inl plB)))]) [3, 0] (by decide) rfl
    have hKc := hK.sub (tys' := [(plkb, .long)]) [2] rfl
    have hFc := va_free (wc := [(pl, .inr (3, [.int plw, .int pld, .int plc, .int pls, .long plm, .ref plf, .ref plo, .ref plb, .ref pla])), (plb, .inl (plkb, 40, .inr (.inl plB)))]) hD hS hA [3, 0] rfl
    refine va_calli (va_runV (As := [.long p1, .int r_2]) (rest := []) ⟨hx, hb, hml, hown, hts⟩ (c_X3_has l dC dI H.size pl plw pld plc pls plm plf plo plb pla plkb plB p1 r_2 (by omega)) (cwV 2 hts g_X3_nextOnWay_X3_has rfl rfl rfl (by decide +kernel) ⟨Nat.le_of_ble_eq_true rfl, Nat.le_of_ble_eq_true rfl⟩) ⟨fun a U g mk q => by obtain ⟨q0, q1, qP, qK, qD⟩ := q; exact ⟨q0, q1, qP, va_K.moved (u := U) (U := U.calling g mk a) (Vm.Alike.refl U.vm) qK, qD⟩, va_recv hKc hPc (ci := 3) (q0 := 0) rfl rfl, fun U hU hW => ⟨rfl, by rw [hU], by rw [hU]; exact hPc, va_K.moved hW.alike hKc, hDc.weaken (fun _ _ _ _ => trivial)⟩⟩ rfl rfl hl.1 rfl (lv_room (Nat.le_of_ble_eq_true rfl)) dX3_nextOnWay_31 ⟨Nat.le_of_ble_eq_true rfl, Nat.le_of_ble_eq_true rfl⟩) hS (fun q _ h => hFc q h) hFc (fun r_6 u t H1 locs ht hvm hw_7 hB hz1 hk1 hS => ?_)
    obtain ⟨hP1, hK1, hD1⟩ := hB
    have hP1 : va_P (dC, dI) vwCl [(pl, .inr (3, [.int plw, .int pld, .int plc, .int pls, .long plm, .ref plf, .ref plo, .ref plb, .ref pla])), (plb, .inl (plkb, 40, .inr (.inl plB)))] t.heap := hP1
    rw [ht] at hP1
    try dsimp only at hw_7
    obtain ⟨hP, hD⟩ := va_join (wr := [(sa, .inl (ks, 25, .inl S)), (pla, .inl (plka, 100, .inl plA)), (plf, .inl (plkf, 40, .inl plF)), (plo, .inl (plko, 40, .inl plO))]) (w1 := [(pl, .inr (3, [.int plw, .int pld, .int plc, .int pls, .long plm, .ref plf, .ref plo, .ref plb, .ref pla])), (plb, .inl (plkb, 40, .inr (.inl plB)))]) hP hD [3, 0] [1, 2, 4, 5] rfl rfl (by decide) (by decide) hk1 hFc hP1 hD1
    generalize H1 = H at hP hS ⊢
    have hP : va_P (dC, dI) vwCl [(sa, .inl (ks, 25, .inl S)), (pla, .inl (plka, 100, .inl plA)), (plf, .inl (plkf, 40, .inl plF)), (plo, .inl (plko, 40, .inl plO)), (pl, .inr (3, [.int plw, .int pld, .int plc, .int pls, .long plm, .ref plf, .ref plo, .ref plb, .ref pla])), (plb, .inl (plkb, 40, .inr (.inl plB)))] H := hP
    have hD : va_D A [(sa, .inl (ks, 25, .inl S)), (pla, .inl (plka, 100, .inl plA)), (plf, .inl (plkf, 40, .inl plF)), (plo, .inl (plko, 40, .inl plO)), (pl, .inr (3, [.int plw, .int pld, .int plc, .int pls, .long plm, .ref plf, .ref plo, .ref plb, .ref pla])), (plb, .inl (plkb, 40, .inr (.inl plB)))] := hD
    refine lv_if_eq (tgt := 54) hx hb dX3_nextOnWay_34 (by decide) (fun c_8 => ?_) (fun c_8 => ?_)
    · have c_8 : r_6.toInt = 0 := i_eq (a := r_6) (b := 0) rfl (by decide) c_8
      obtain ⟨x_9, ex_9⟩ : ∃ y9 : Int32, y9 = wy + Int32.ofInt 1 := ⟨_, rfl⟩
      have zx_9 : x_9.toInt = wy.toInt + 1 := by rw [ex_9]; exact i_add rfl (show (Int32.ofInt 1).toInt = 1 by decide) (by omega) (by omega)
      refine lv_iinc (v := x_9) (lv' := [(5, .int x_9), (7, .int r_4), (6, .int r_2), (0, .ref pl), (1, .int p0), (2, .long p1), (4, .ref sa)]) hx hb dX3_nextOnWay_54 hl (k := 2) rfl (by rw [ex_9]) (by decide) rfl (fun ls hl => ?_)
      refine lv_goto (tgt := 3) hx hb dX3_nextOnWay_57 (by decide) ?_
      exact ih3 (x_9) _ _ _ ⟨(by (try dsimp only); omega), hP.sub [4, 2, 3, 5, 1, 0] rfl, hD.sub [4, 2, 3, 5, 1, 0] (by decide) rfl, hS, lv_sub hl [0, 3, 4, 5, 6] rfl⟩ (by (try dsimp only); omega)
    · have c_8 : r_6.toInt ≠ 0 := i_ne (a := r_6) (b := 0) rfl (by decide) c_8
      refine lv_aload hx hb dX3_nextOnWay_37 (lv_at hl 6 rfl) ?_
      refine lv_iload hx hb dX3_nextOnWay_39 (lv_at hl 0 rfl) ?_
      refine va_iald hx hb hK hP 0 4 rfl rfl (i_in rfl (by omega) (by omega)) dX3_nextOnWay_41 ?_
      refine lv_topi (fun v_10 ev_10 => ?_)
      refine lv_aload hx hb dX3_nextOnWay_42 (lv_at hl 6 rfl) ?_
      refine lv_iload_n hx hb dX3_nextOnWay_44 rfl (lv_at hl 4 rfl) ?_
      refine va_iald hx hb hK hP 0 4 rfl rfl (i_in rfl (by omega) (by omega)) dX3_nextOnWay_45 ?_
      refine lv_topi (fun v_11 ev_11 => ?_)
      refine lv_iconst (v := 1) hx hb dX3_nextOnWay_46 (by decide) ?_
      refine lv_isub hx hb dX3_nextOnWay_47 ?_
      refine lv_topi (fun x_12 ex_12 => ?_)
      refine lv_icmp_ne (tgt := 54) hx hb dX3_nextOnWay_48 (by decide) (fun c_13 => ?_) (fun c_13 => ?_)
      · have c_13 : v_10.toInt ≠ x_12.toInt := i_ne (a := v_10) (b := x_12) rfl rfl c_13
        obtain ⟨x_14, ex_14⟩ : ∃ y9 : Int32, y9 = wy + Int32.ofInt 1 := ⟨_, rfl⟩
        have zx_14 : x_14.toInt = wy.toInt + 1 := by rw [ex_14]; exact i_add rfl (show (Int32.ofInt 1).toInt = 1 by decide) (by omega) (by omega)
        refine lv_iinc (v := x_14) (lv' := [(5, .int x_14), (7, .int r_4), (6, .int r_2), (0, .ref pl), (1, .int p0), (2, .long p1), (4, .ref sa)]) hx hb dX3_nextOnWay_54 hl (k := 2) rfl (by rw [ex_14]) (by decide) rfl (fun ls hl => ?_)
        refine lv_goto (tgt := 3) hx hb dX3_nextOnWay_57 (by decide) ?_
        exact ih3 (x_14) _ _ _ ⟨(by (try dsimp only); omega), hP.sub [4, 2, 3, 5, 1, 0] rfl, hD.sub [4, 2, 3, 5, 1, 0] (by decide) rfl, hS, lv_sub hl [0, 3, 4, 5, 6] rfl⟩ (by (try dsimp only); omega)
      · have c_13 : v_10.toInt = x_12.toInt := i_eq (a := v_10) (b := x_12) rfl rfl c_13
        refine lv_iload hx hb dX3_nextOnWay_51 (lv_at hl 0 rfl) ?_
        have hP9 := hP.sub (ws' := [(pl, .inr (3, [.int plw, .int pld, .int plc, .int pls, .long plm, .ref plf, .ref plo, .ref plb, .ref pla])), (plf, .inl (plkf, 40, .inl plF)), (plo, .inl (plko, 40, .inl plO)), (plb, .inl (plkb, 40, .inr (.inl plB))), (pla, .inl (plka, 100, .inl plA)), (sa, .inl (ks, 25, .inl S))]) [4, 2, 3, 5, 1, 0] rfl
        have hD9 := hD.sub (ws' := [(pl, .inr (3, [.int plw, .int pld, .int plc, .int pls, .long plm, .ref plf, .ref plo, .ref plb, .ref pla])), (plf, .inl (plkf, 40, .inl plF)), (plo, .inl (plko, 40, .inl plO)), (plb, .inl (plkb, 40, .inr (.inl plB))), (pla, .inl (plka, 100, .inl plA)), (sa, .inl (ks, 25, .inl S))]) [4, 2, 3, 5, 1, 0] (by decide) rfl
        have hK9 := hK.sub (tys' := []) [] rfl
        refine W.widen (k := 0) (n := 0) (by omega) (by omega) ?_
        exact W.iret (v := r_4) hx hb hr (fun t ht hW => ⟨⟨r_4, (), rfl, (by first | rfl | trivial | (dsimp only; omega) | omega | (left; rfl) | (right; rfl) | (dsimp only; first | (left; rfl) | (right; rfl))), by rw [ht]; exact hP9, va_K.moved hW.alike hK9, hD9⟩, hS.F ht⟩) hS.2.2 dX3_nextOnWay_53

theorem dX3_join_0 : decode cX3_join 0 = .ok (.aload_n 0, 1) := by decide +kernel
theorem dX3_join_1 : decode cX3_join 1 = .ok (.getfield 28, 3) := by decide +kernel
theorem dX3_join_4 : decode cX3_join 4 = .ok (.aload_n 0, 1) := by decide +kernel
theorem dX3_join_5 : decode cX3_join 5 = .ok (.getfield 21, 3) := by decide +kernel
theorem dX3_join_8 : decode cX3_join 8 = .ok (.iload_n 1, 1) := by decide +kernel
theorem dX3_join_9 : decode cX3_join 9 = .ok (.iastore, 1) := by decide +kernel
theorem dX3_join_10 : decode cX3_join 10 = .ok (.aload_n 0, 1) := by decide +kernel
theorem dX3_join_11 : decode cX3_join 11 = .ok (.getfield 32, 3) := by decide +kernel
theorem dX3_join_14 : decode cX3_join 14 = .ok (.aload_n 0, 1) := by decide +kernel
theorem dX3_join_15 : decode cX3_join 15 = .ok (.getfield 21, 3) := by decide +kernel
theorem dX3_join_18 : decode cX3_join 18 = .ok (.iload_n 2, 1) := by decide +kernel
theorem dX3_join_19 : decode cX3_join 19 = .ok (.iastore, 1) := by decide +kernel
theorem dX3_join_20 : decode cX3_join 20 = .ok (.aload_n 0, 1) := by decide +kernel
theorem dX3_join_21 : decode cX3_join 21 = .ok (.getfield 35, 3) := by decide +kernel
theorem dX3_join_24 : decode cX3_join 24 = .ok (.aload_n 0, 1) := by decide +kernel
theorem dX3_join_25 : decode cX3_join 25 = .ok (.getfield 21, 3) := by decide +kernel
theorem dX3_join_28 : decode cX3_join 28 = .ok (.lload 4, 2) := by decide +kernel
theorem dX3_join_30 : decode cX3_join 30 = .ok (.lastore, 1) := by decide +kernel
theorem dX3_join_31 : decode cX3_join 31 = .ok (.aload_n 0, 1) := by decide +kernel
theorem dX3_join_32 : decode cX3_join 32 = .ok (.dup, 1) := by decide +kernel
theorem dX3_join_33 : decode cX3_join 33 = .ok (.getfield 24, 3) := by decide +kernel
theorem dX3_join_36 : decode cX3_join 36 = .ok (.lload 4, 2) := by decide +kernel
theorem dX3_join_38 : decode cX3_join 38 = .ok (.lor, 1) := by decide +kernel
theorem dX3_join_39 : decode cX3_join 39 = .ok (.putfield 24, 3) := by decide +kernel
theorem dX3_join_42 : decode cX3_join 42 = .ok (.aload_n 0, 1) := by decide +kernel
theorem dX3_join_43 : decode cX3_join 43 = .ok (.getfield 39, 3) := by decide +kernel
theorem dX3_join_46 : decode cX3_join 46 = .ok (.iload_n 1, 1) := by decide +kernel
theorem dX3_join_47 : decode cX3_join 47 = .ok (.iconst 4, 1) := by decide +kernel
theorem dX3_join_48 : decode cX3_join 48 = .ok (.imul, 1) := by decide +kernel
theorem dX3_join_49 : decode cX3_join 49 = .ok (.iload_n 3, 1) := by decide +kernel
theorem dX3_join_50 : decode cX3_join 50 = .ok (.iadd, 1) := by decide +kernel
theorem dX3_join_51 : decode cX3_join 51 = .ok (.aload_n 0, 1) := by decide +kernel
theorem dX3_join_52 : decode cX3_join 52 = .ok (.getfield 21, 3) := by decide +kernel
theorem dX3_join_55 : decode cX3_join 55 = .ok (.iastore, 1) := by decide +kernel
theorem dX3_join_56 : decode cX3_join 56 = .ok (.aload_n 0, 1) := by decide +kernel
theorem dX3_join_57 : decode cX3_join 57 = .ok (.getfield 39, 3) := by decide +kernel
theorem dX3_join_60 : decode cX3_join 60 = .ok (.iload_n 2, 1) := by decide +kernel
theorem dX3_join_61 : decode cX3_join 61 = .ok (.iconst 4, 1) := by decide +kernel
theorem dX3_join_62 : decode cX3_join 62 = .ok (.imul, 1) := by decide +kernel
theorem dX3_join_63 : decode cX3_join 63 = .ok (.iload_n 3, 1) := by decide +kernel
theorem dX3_join_64 : decode cX3_join 64 = .ok (.iconst 2, 1) := by decide +kernel
theorem dX3_join_65 : decode cX3_join 65 = .ok (.iadd, 1) := by decide +kernel
theorem dX3_join_66 : decode cX3_join 66 = .ok (.iconst 4, 1) := by decide +kernel
theorem dX3_join_67 : decode cX3_join 67 = .ok (.irem, 1) := by decide +kernel
theorem dX3_join_68 : decode cX3_join 68 = .ok (.iadd, 1) := by decide +kernel
theorem dX3_join_69 : decode cX3_join 69 = .ok (.aload_n 0, 1) := by decide +kernel
theorem dX3_join_70 : decode cX3_join 70 = .ok (.getfield 21, 3) := by decide +kernel
theorem dX3_join_73 : decode cX3_join 73 = .ok (.iastore, 1) := by decide +kernel
theorem dX3_join_74 : decode cX3_join 74 = .ok (.aload_n 0, 1) := by decide +kernel
theorem dX3_join_75 : decode cX3_join 75 = .ok (.dup, 1) := by decide +kernel
theorem dX3_join_76 : decode cX3_join 76 = .ok (.getfield 21, 3) := by decide +kernel
theorem dX3_join_79 : decode cX3_join 79 = .ok (.iconst 1, 1) := by decide +kernel
theorem dX3_join_80 : decode cX3_join 80 = .ok (.iadd, 1) := by decide +kernel
theorem dX3_join_81 : decode cX3_join 81 = .ok (.putfield 21, 3) := by decide +kernel
theorem dX3_join_84 : decode cX3_join 84 = .ok (.return_, 1) := by decide +kernel
def wz_X3_join_1 : List Cond := .code yX3_join cX3_join 6 none :: ([Cond.fieldLink RX3 28 "HedgeMaze$Plan" "first" "[I", Cond.fieldLink RX3 21 "HedgeMaze$Plan" "sideCount" "I", Cond.fieldLink RX3 32 "HedgeMaze$Plan" "other" "[I", Cond.fieldLink RX3 35 "HedgeMaze$Plan" "bits" "[J", Cond.fieldLink RX3 24 "HedgeMaze$Plan" "allSides" "J", Cond.fieldLink RX3 39 "HedgeMaze$Plan" "around" "[I"] ++ wsX30)
theorem wd_X3_join_1_0 : Cond.fieldLink RX3 28 "HedgeMaze$Plan" "first" "[I" ∈ wz_X3_join_1 := List.mem_of_getElem? (i := 1) rfl
theorem wd_X3_join_1_1 : Cond.fieldLink RX3 21 "HedgeMaze$Plan" "sideCount" "I" ∈ wz_X3_join_1 := List.mem_of_getElem? (i := 2) rfl
theorem wd_X3_join_1_2 : Cond.fieldLink RX3 32 "HedgeMaze$Plan" "other" "[I" ∈ wz_X3_join_1 := List.mem_of_getElem? (i := 3) rfl
theorem wd_X3_join_1_3 : Cond.fieldLink RX3 35 "HedgeMaze$Plan" "bits" "[J" ∈ wz_X3_join_1 := List.mem_of_getElem? (i := 4) rfl
theorem wd_X3_join_1_4 : Cond.fieldLink RX3 24 "HedgeMaze$Plan" "allSides" "J" ∈ wz_X3_join_1 := List.mem_of_getElem? (i := 5) rfl
theorem wd_X3_join_1_5 : Cond.fieldLink RX3 39 "HedgeMaze$Plan" "around" "[I" ∈ wz_X3_join_1 := List.mem_of_getElem? (i := 6) rfl
theorem in_X3_join_1_X3 : ∀ w ∈ wsX30, w ∈ wz_X3_join_1 := fun _ h => List.mem_cons_of_mem _ (List.mem_append_right _ h)
set_option maxHeartbeats 4000000 in
set_option maxRecDepth 100000 in
theorem c_X3_join_1 (l : Launch) (dC : Nat → ClassId) (dI : Nat → Nat → Nat) (sz : Nat) (pl : Nat) (plw : Int32) (pld : Int32) (plc : Int32) (pls : Int32) (plm : Int64) (plf : Nat) (plo : Nat) (plb : Nat) (pla : Nat) (plkf : ClassId) (plF : Nat → Int32) (plko : ClassId) (plO : Nat → Int32) (plkb : ClassId) (plB : Nat → Int64) (plka : ClassId) (plA : Nat → Int32) (p0 : Int32) (p1 : Int32) (p3 : Int64) (h_s : 0 ≤ pls.toInt ∧ pls.toInt ≤ 39) (h_p0 : 0 ≤ p0.toInt ∧ p0.toInt ≤ 24) (h_p1 : 0 ≤ p1.toInt ∧ p1.toInt ≤ 24) (hR_plf : RG plF 40 0 24) (hR_plo : RG plO 40 0 24) : Met l yX3_join wz_X3_join_1 ({ frames := 0, cells := 0, slots := 0, locals := 0 }) (va_Pc [.ref pl, .int p0, .int p1, .int 1, .long p3] (fun U => U.heap.size = sz ∧ va_P (dC, dI) vwCl [(pl, .inr (3, [.int plw, .int pld, .int plc, .int pls, .long plm, .ref plf, .ref plo, .ref plb, .ref pla])), (plf, .inl (plkf, 40, .inl plF)), (plo, .inl (plko, 40, .inl plO)), (plb, .inl (plkb, 40, .inr (.inl plB))), (pla, .inl (plka, 100, .inl plA))] U.heap ∧ va_K (dC, dI) vwCl [(plkf, .int), (plko, .int), (plkb, .long), (plka, .int)] U ∧ va_D (fun _ => True) [(pl, .inr (3, [.int plw, .int pld, .int plc, .int pls, .long plm, .ref plf, .ref plo, .ref plb, .ref pla])), (plf, .inl (plkf, 40, .inl plF)), (plo, .inl (plko, 40, .inl plO)), (plb, .inl (plkb, 40, .inr (.inl plB))), (pla, .inl (plka, 100, .inl plA))])) (va_Qv (fun (u : Int32 × Int64 × (Nat → Int32) × (Nat → Int32) × (Nat → Int64) × (Nat → Int32)) => (u.1.toInt = pls.toInt + 1) ∧ (RG u.2.2.1 40 0 24) ∧ (RG u.2.2.2.1 40 0 24)) (fun (u : Int32 × Int64 × (Nat → Int32) × (Nat → Int32) × (Nat → Int64) × (Nat → Int32)) (t : State) => va_P (dC, dI) vwCl [(pl, .inr (3, [.int plw, .int pld, .int plc, .int u.1, .long u.2.1, .ref plf, .ref plo, .ref plb, .ref pla])), (plf, .inl (plkf, 40, .inl u.2.2.1)), (plo, .inl (plko, 40, .inl u.2.2.2.1)), (plb, .inl (plkb, 40, .inr (.inl u.2.2.2.2.1))), (pla, .inl (plka, 100, .inl u.2.2.2.2.2))] t.heap ∧ va_K (dC, dI) vwCl [] t ∧ va_D (va_A [(pl, .inr (3, [.int plw, .int pld, .int plc, .int pls, .long plm, .ref plf, .ref plo, .ref plb, .ref pla])), (plf, .inl (plkf, 40, .inl plF)), (plo, .inl (plko, 40, .inl plO)), (plb, .inl (plkb, 40, .inr (.inl plB))), (pla, .inl (plka, 100, .inl plA))] sz) [(pl, .inr (3, [.int plw, .int pld, .int plc, .int u.1, .long u.2.1, .ref plf, .ref plo, .ref plb, .ref pla])), (plf, .inl (plkf, 40, .inl u.2.2.1)), (plo, .inl (plko, 40, .inl u.2.2.2.1)), (plb, .inl (plkb, 40, .inr (.inl u.2.2.2.2.1))), (pla, .inl (plka, 100, .inl u.2.2.2.2.2))]) (va_A [(pl, .inr (3, [.int plw, .int pld, .int plc, .int pls, .long plm, .ref plf, .ref plo, .ref plb, .ref pla])), (plf, .inl (plkf, 40, .inl plF)), (plo, .inl (plko, 40, .inl plO)), (plb, .inl (plkb, 40, .inr (.inl plB))), (pla, .inl (plka, 100, .inl plA))] sz)) 0 0 (va_A [(pl, .inr (3, [.int plw, .int pld, .int plc, .int pls, .long plm, .ref plf, .ref plo, .ref plb, .ref pla])), (plf, .inl (plkf, 40, .inl plF)), (plo, .inl (plko, 40, .inl plO)), (plb, .inl (plkb, 40, .inr (.inl plB))), (pla, .inl (plka, 100, .inl plA))] sz) := by
  refine Met.ofW (cc := cX3_join) (maxL := 6) (ret := none) (by decide) rfl ?_
  intro p e s m args below meth c s₁ B hml hv
  obtain ⟨rfl, hsz, hP, hK, hD0⟩ := hv
  have hx := B.exec
  have hb := B.bytes
  have hr := B.returns
  have hts := atoms_spec (ws := wz_X3_join_1) B.pre
  have hown : s.vm.findClass RX3 = some m.cls := findClass_of_methodNamed B.named
  have hlocks := B.notSynchronized
  subst hsz
  have hD := hD0.self (sz := s.heap.size)
  generalize hAe : va_A [(pl, .inr (3, [.int plw, .int pld, .int plc, .int pls, .long plm, .ref plf, .ref plo, .ref plb, .ref pla])), (plf, .inl (plkf, 40, .inl plF)), (plo, .inl (plko, 40, .inl plO)), (plb, .inl (plkb, 40, .inr (.inl plB))), (pla, .inl (plka, 100, .inl plA))] s.heap.size = A at hD ⊢
  have hA : ∀ q : Nat, s.heap.size ≤ q → A q := fun q h => by rw [← hAe]; exact Or.inr h
  have hS : va_S A s.heap s.heap [] := va_S.rf
  have hP : va_P (dC, dI) vwCl [(pl, .inr (3, [.int plw, .int pld, .int plc, .int pls, .long plm, .ref plf, .ref plo, .ref plb, .ref pla])), (plf, .inl (plkf, 40, .inl plF)), (plo, .inl (plko, 40, .inl plO)), (plb, .inl (plkb, 40, .inr (.inl plB))), (pla, .inl (plka, 100, .inl plA))] s.heap := hP
  have hl := lv_entry ([.ref pl, .int p0, .int p1, .int 1, .long p3]) (n := 6) (Nat.le_of_ble_eq_true rfl)
  rw [lg_entry_eq]
  generalize (lg_sl ([.ref pl, .int p0, .int p1, .int 1, .long p3]) ++ List.replicate (6 - (lg_sl ([.ref pl, .int p0, .int p1, .int 1, .long p3])).length) Slot.unset).toArray = ls at hl ⊢
  have hl : lv_has ls 6 [(0, .ref pl), (1, .int p0), (2, .int p1), (3, .int 1), (4, .long p3)] := hl
  refine lv_aload_n hx hb dX3_join_0 rfl (lv_at hl 0 rfl) ?_
  refine va_get (D := (dC, dI)) (ci := 3) (v := .ref plf) (C := RX3) (T := TX3) (N := 9) hx hb hts in_X3_join_1_X3 hown hK hP 0 rfl rfl 5 (by decide) (hts _ wd_X3_join_1_0) (fun _ h9 => h9) rfl dX3_join_1 ?_
  refine lv_aload_n hx hb dX3_join_4 rfl (lv_at hl 0 rfl) ?_
  refine va_get (D := (dC, dI)) (ci := 3) (v := .int pls) (C := RX3) (T := TX3) (N := 9) hx hb hts in_X3_join_1_X3 hown hK hP 0 rfl rfl 3 (by decide) (hts _ wd_X3_join_1_1) (fun _ h9 => h9) rfl dX3_join_5 ?_
  refine lv_iload_n hx hb dX3_join_8 rfl (lv_at hl 1 rfl) ?_
  refine va_iast hx hb hK hP hD hS 1 0 rfl rfl (i_in rfl (by omega) (by omega)) dX3_join_9 (fun H locs hP hD hS => ?_)
  have hP : va_P (dC, dI) vwCl [(pl, .inr (3, [.int plw, .int pld, .int plc, .int pls, .long plm, .ref plf, .ref plo, .ref plb, .ref pla])), (plf, .inl (plkf, 40, .inl (upd plF pls.toNatClampNeg p0))), (plo, .inl (plko, 40, .inl plO)), (plb, .inl (plkb, 40, .inr (.inl plB))), (pla, .inl (plka, 100, .inl plA))] H := hP
  have hD : va_D A [(pl, .inr (3, [.int plw, .int pld, .int plc, .int pls, .long plm, .ref plf, .ref plo, .ref plb, .ref pla])), (plf, .inl (plkf, 40, .inl (upd plF pls.toNatClampNeg p0))), (plo, .inl (plko, 40, .inl plO)), (plb, .inl (plkb, 40, .inr (.inl plB))), (pla, .inl (plka, 100, .inl plA))] := hD
  have hR_1 := RG.upd hR_plf pls.toNatClampNeg (x := p0) rfl (by omega) (by omega)
  obtain ⟨f_2, ef_2⟩ : ∃ g, g = upd plF pls.toNatClampNeg p0 := ⟨_, rfl⟩
  rw [← ef_2] at hP hD
  rw [← ef_2] at hR_1
  refine lv_aload_n hx hb dX3_join_10 rfl (lv_at hl 0 rfl) ?_
  refine va_get (D := (dC, dI)) (ci := 3) (v := .ref plo) (C := RX3) (T := TX3) (N := 9) hx hb hts in_X3_join_1_X3 hown hK hP 0 rfl rfl 6 (by decide) (hts _ wd_X3_join_1_2) (fun _ h9 => h9) rfl dX3_join_11 ?_
  refine lv_aload_n hx hb dX3_join_14 rfl (lv_at hl 0 rfl) ?_
  refine va_get (D := (dC, dI)) (ci := 3) (v := .int pls) (C := RX3) (T := TX3) (N := 9) hx hb hts in_X3_join_1_X3 hown hK hP 0 rfl rfl 3 (by decide) (hts _ wd_X3_join_1_1) (fun _ h9 => h9) rfl dX3_join_15 ?_
  refine lv_iload_n hx hb dX3_join_18 rfl (lv_at hl 2 rfl) ?_
  refine va_iast hx hb hK hP hD hS 2 1 rfl rfl (i_in rfl (by omega) (by omega)) dX3_join_19 (fun H locs hP hD hS => ?_)
  have hP : va_P (dC, dI) vwCl [(pl, .inr (3, [.int plw, .int pld, .int plc, .int pls, .long plm, .ref plf, .ref plo, .ref plb, .ref pla])), (plf, .inl (plkf, 40, .inl f_2)), (plo, .inl (plko, 40, .inl (upd plO pls.toNatClampNeg p1))), (plb, .inl (plkb, 40, .inr (.inl plB))), (pla, .inl (plka, 100, .inl plA))] H := hP
  have hD : va_D A [(pl, .inr (3, [.int plw, .int pld, .int plc, .int pls, .long plm, .ref plf, .ref plo, .ref plb, .ref pla])), (plf, .inl (plkf, 40, .inl f_2)), (plo, .inl (plko, 40, .inl (upd plO pls.toNatClampNeg p1))), (plb, .inl (plkb, 40, .inr (.inl plB))), (pla, .inl (plka, 100, .inl plA))] := hD
  have hR_3 := RG.upd hR_plo pls.toNatClampNeg (x := p1) rfl (by omega) (by omega)
  obtain ⟨f_4, ef_4⟩ : ∃ g, g = upd plO pls.toNatClampNeg p1 := ⟨_, rfl⟩
  rw [← ef_4] at hP hD
  rw [← ef_4] at hR_3
  refine lv_aload_n hx hb dX3_join_20 rfl (lv_at hl 0 rfl) ?_
  refine va_get (D := (dC, dI)) (ci := 3) (v := .ref plb) (C := RX3) (T := TX3) (N := 9) hx hb hts in_X3_join_1_X3 hown hK hP 0 rfl rfl 7 (by decide) (hts _ wd_X3_join_1_3) (fun _ h9 => h9) rfl dX3_join_21 ?_
  refine lv_aload_n hx hb dX3_join_24 rfl (lv_at hl 0 rfl) ?_
  refine va_get (D := (dC, dI)) (ci := 3) (v := .int pls) (C := RX3) (T := TX3) (N := 9) hx hb hts in_X3_join_1_X3 hown hK hP 0 rfl rfl 3 (by decide) (hts _ wd_X3_join_1_1) (fun _ h9 => h9) rfl dX3_join_25 ?_
  refine lv_lload hx hb dX3_join_28 (lv_at hl 4 rfl) ?_
  refine va_last hx hb hK hP hD hS 3 2 rfl rfl (i_in rfl (by omega) (by omega)) dX3_join_30 (fun H locs hP hD hS => ?_)
  have hP : va_P (dC, dI) vwCl [(pl, .inr (3, [.int plw, .int pld, .int plc, .int pls, .long plm, .ref plf, .ref plo, .ref plb, .ref pla])), (plf, .inl (plkf, 40, .inl f_2)), (plo, .inl (plko, 40, .inl f_4)), (plb, .inl (plkb, 40, .inr (.inl (vp_updL plB pls.toNatClampNeg p3)))), (pla, .inl (plka, 100, .inl plA))] H := hP
  have hD : va_D A [(pl, .inr (3, [.int plw, .int pld, .int plc, .int pls, .long plm, .ref plf, .ref plo, .ref plb, .ref pla])), (plf, .inl (plkf, 40, .inl f_2)), (plo, .inl (plko, 40, .inl f_4)), (plb, .inl (plkb, 40, .inr (.inl (vp_updL plB pls.toNatClampNeg p3)))), (pla, .inl (plka, 100, .inl plA))] := hD
  obtain ⟨f_5, ef_5⟩ : ∃ g, g = vp_updL plB pls.toNatClampNeg p3 := ⟨_, rfl⟩
  rw [← ef_5] at hP hD
  refine lv_aload_n hx hb dX3_join_31 rfl (lv_at hl 0 rfl) ?_
  refine lv_dup hx hb dX3_join_32 rfl ?_
  refine va_get (D := (dC, dI)) (ci := 3) (v := .long plm) (C := RX3) (T := TX3) (N := 9) hx hb hts in_X3_join_1_X3 hown hK hP 0 rfl rfl 4 (by decide) (hts _ wd_X3_join_1_4) (fun _ h9 => h9) rfl dX3_join_33 ?_
  refine lv_lload hx hb dX3_join_36 (lv_at hl 4 rfl) ?_
  refine lv_lor hx hb dX3_join_38 ?_
  refine lv_topl (fun y_6 ey_6 => ?_)
  refine va_put (D := (dC, dI)) (ci := 3) (v := .long y_6) (ty := .long) (C := RX3) (T := TX3) (N := 9) hx hb hts in_X3_join_1_X3 tyX3 tyX3_ok nmX3 hown hK hP hD hS 0 rfl rfl 4 (by decide) (hts _ wd_X3_join_1_4) (fun _ h9 => h9) rfl (by decide +kernel) rfl rfl (Nat.le_of_ble_eq_true rfl) dX3_join_39 (fun H locs hP hD hS => ?_)
  have hP : va_P (dC, dI) vwCl [(pl, .inr (3, [.int plw, .int pld, .int plc, .int pls, .long y_6, .ref plf, .ref plo, .ref plb, .ref pla])), (plf, .inl (plkf, 40, .inl f_2)), (plo, .inl (plko, 40, .inl f_4)), (plb, .inl (plkb, 40, .inr (.inl f_5))), (pla, .inl (plka, 100, .inl plA))] H := hP
  have hD : va_D A [(pl, .inr (3, [.int plw, .int pld, .int plc, .int pls, .long y_6, .ref plf, .ref plo, .ref plb, .ref pla])), (plf, .inl (plkf, 40, .inl f_2)), (plo, .inl (plko, 40, .inl f_4)), (plb, .inl (plkb, 40, .inr (.inl f_5))), (pla, .inl (plka, 100, .inl plA))] := hD
  refine lv_aload_n hx hb dX3_join_42 rfl (lv_at hl 0 rfl) ?_
  refine va_get (D := (dC, dI)) (ci := 3) (v := .ref pla) (C := RX3) (T := TX3) (N := 9) hx hb hts in_X3_join_1_X3 hown hK hP 0 rfl rfl 8 (by decide) (hts _ wd_X3_join_1_5) (fun _ h9 => h9) rfl dX3_join_43 ?_
  refine lv_iload_n hx hb dX3_join_46 rfl (lv_at hl 1 rfl) ?_
  refine lv_iconst (v := 4) hx hb dX3_join_47 (by decide) ?_
  refine lv_imul hx hb dX3_join_48 ?_
  refine lv_topi (fun x_7 ex_7 => ?_)
  have zx_7 : x_7.toInt = p0.toInt * 4 := by rw [ex_7]; exact i_mul rfl (by decide) (by omega) (by omega)
  refine lv_iload_n hx hb dX3_join_49 rfl (lv_at hl 3 rfl) ?_
  refine lv_iadd hx hb dX3_join_50 ?_
  refine lv_topi (fun x_8 ex_8 => ?_)
  have zx_8 : x_8.toInt = x_7.toInt + 1 := by rw [ex_8]; exact i_add rfl (by decide) (by omega) (by omega)
  refine lv_aload_n hx hb dX3_join_51 rfl (lv_at hl 0 rfl) ?_
  refine va_get (D := (dC, dI)) (ci := 3) (v := .int pls) (C := RX3) (T := TX3) (N := 9) hx hb hts in_X3_join_1_X3 hown hK hP 0 rfl rfl 3 (by decide) (hts _ wd_X3_join_1_1) (fun _ h9 => h9) rfl dX3_join_52 ?_
  refine va_iast hx hb hK hP hD hS 4 3 rfl rfl (i_in rfl (by omega) (by omega)) dX3_join_55 (fun H locs hP hD hS => ?_)
  have hP : va_P (dC, dI) vwCl [(pl, .inr (3, [.int plw, .int pld, .int plc, .int pls, .long y_6, .ref plf, .ref plo, .ref plb, .ref pla])), (plf, .inl (plkf, 40, .inl f_2)), (plo, .inl (plko, 40, .inl f_4)), (plb, .inl (plkb, 40, .inr (.inl f_5))), (pla, .inl (plka, 100, .inl (upd plA x_8.toNatClampNeg pls)))] H := hP
  have hD : va_D A [(pl, .inr (3, [.int plw, .int pld, .int plc, .int pls, .long y_6, .ref plf, .ref plo, .ref plb, .ref pla])), (plf, .inl (plkf, 40, .inl f_2)), (plo, .inl (plko, 40, .inl f_4)), (plb, .inl (plkb, 40, .inr (.inl f_5))), (pla, .inl (plka, 100, .inl (upd plA x_8.toNatClampNeg pls)))] := hD
  obtain ⟨f_9, ef_9⟩ : ∃ g, g = upd plA x_8.toNatClampNeg pls := ⟨_, rfl⟩
  rw [← ef_9] at hP hD
  refine lv_aload_n hx hb dX3_join_56 rfl (lv_at hl 0 rfl) ?_
  refine va_get (D := (dC, dI)) (ci := 3) (v := .ref pla) (C := RX3) (T := TX3) (N := 9) hx hb hts in_X3_join_1_X3 hown hK hP 0 rfl rfl 8 (by decide) (hts _ wd_X3_join_1_5) (fun _ h9 => h9) rfl dX3_join_57 ?_
  refine lv_iload_n hx hb dX3_join_60 rfl (lv_at hl 2 rfl) ?_
  refine lv_iconst (v := 4) hx hb dX3_join_61 (by decide) ?_
  refine lv_imul hx hb dX3_join_62 ?_
  refine lv_topi (fun x_10 ex_10 => ?_)
  have zx_10 : x_10.toInt = p1.toInt * 4 := by rw [ex_10]; exact i_mul rfl (by decide) (by omega) (by omega)
  refine lv_iload_n hx hb dX3_join_63 rfl (lv_at hl 3 rfl) ?_
  refine lv_iconst (v := 2) hx hb dX3_join_64 (by decide) ?_
  refine lv_iadd hx hb dX3_join_65 ?_
  refine lv_topi (fun z_11 ez_11 => ?_)
  obtain rfl : z_11 = 3 := ez_11.trans (by decide)
  refine lv_iconst (v := 4) hx hb dX3_join_66 (by decide) ?_
  refine lv_irem hx hb dX3_join_67 (by decide) ?_
  refine lv_topi (fun z_12 ez_12 => ?_)
  obtain rfl : z_12 = 3 := ez_12.trans (by decide)
  refine lv_iadd hx hb dX3_join_68 ?_
  refine lv_topi (fun x_13 ex_13 => ?_)
  have zx_13 : x_13.toInt = x_10.toInt + 3 := by rw [ex_13]; exact i_add rfl (by decide) (by omega) (by omega)
  refine lv_aload_n hx hb dX3_join_69 rfl (lv_at hl 0 rfl) ?_
  refine va_get (D := (dC, dI)) (ci := 3) (v := .int pls) (C := RX3) (T := TX3) (N := 9) hx hb hts in_X3_join_1_X3 hown hK hP 0 rfl rfl 3 (by decide) (hts _ wd_X3_join_1_1) (fun _ h9 => h9) rfl dX3_join_70 ?_
  refine va_iast hx hb hK hP hD hS 4 3 rfl rfl (i_in rfl (by omega) (by omega)) dX3_join_73 (fun H locs hP hD hS => ?_)
  have hP : va_P (dC, dI) vwCl [(pl, .inr (3, [.int plw, .int pld, .int plc, .int pls, .long y_6, .ref plf, .ref plo, .ref plb, .ref pla])), (plf, .inl (plkf, 40, .inl f_2)), (plo, .inl (plko, 40, .inl f_4)), (plb, .inl (plkb, 40, .inr (.inl f_5))), (pla, .inl (plka, 100, .inl (upd f_9 x_13.toNatClampNeg pls)))] H := hP
  have hD : va_D A [(pl, .inr (3, [.int plw, .int pld, .int plc, .int pls, .long y_6, .ref plf, .ref plo, .ref plb, .ref pla])), (plf, .inl (plkf, 40, .inl f_2)), (plo, .inl (plko, 40, .inl f_4)), (plb, .inl (plkb, 40, .inr (.inl f_5))), (pla, .inl (plka, 100, .inl (upd f_9 x_13.toNatClampNeg pls)))] := hD
  obtain ⟨f_14, ef_14⟩ : ∃ g, g = upd f_9 x_13.toNatClampNeg pls := ⟨_, rfl⟩
  rw [← ef_14] at hP hD
  refine lv_aload_n hx hb dX3_join_74 rfl (lv_at hl 0 rfl) ?_
  refine lv_dup hx hb dX3_join_75 rfl ?_
  refine va_get (D := (dC, dI)) (ci := 3) (v := .int pls) (C := RX3) (T := TX3) (N := 9) hx hb hts in_X3_join_1_X3 hown hK hP 0 rfl rfl 3 (by decide) (hts _ wd_X3_join_1_1) (fun _ h9 => h9) rfl dX3_join_76 ?_
  refine lv_iconst (v := 1) hx hb dX3_join_79 (by decide) ?_
  refine lv_iadd hx hb dX3_join_80 ?_
  refine lv_topi (fun x_15 ex_15 => ?_)
  have zx_15 : x_15.toInt = pls.toInt + 1 := by rw [ex_15]; exact i_add rfl (by decide) (by omega) (by omega)
  refine va_put (D := (dC, dI)) (ci := 3) (v := .int x_15) (ty := .int) (C := RX3) (T := TX3) (N := 9) hx hb hts in_X3_join_1_X3 tyX3 tyX3_ok nmX3 hown hK hP hD hS 0 rfl rfl 3 (by decide) (hts _ wd_X3_join_1_1) (fun _ h9 => h9) rfl (by decide +kernel) rfl rfl (Nat.le_of_ble_eq_true rfl) dX3_join_81 (fun H locs hP hD hS => ?_)
  have hP : va_P (dC, dI) vwCl [(pl, .inr (3, [.int plw, .int pld, .int plc, .int x_15, .long y_6, .ref plf, .ref plo, .ref plb, .ref pla])), (plf, .inl (plkf, 40, .inl f_2)), (plo, .inl (plko, 40, .inl f_4)), (plb, .inl (plkb, 40, .inr (.inl f_5))), (pla, .inl (plka, 100, .inl f_14))] H := hP
  have hD : va_D A [(pl, .inr (3, [.int plw, .int pld, .int plc, .int x_15, .long y_6, .ref plf, .ref plo, .ref plb, .ref pla])), (plf, .inl (plkf, 40, .inl f_2)), (plo, .inl (plko, 40, .inl f_4)), (plb, .inl (plkb, 40, .inr (.inl f_5))), (pla, .inl (plka, 100, .inl f_14))] := hD
  have hP9 := hP.sub (ws' := [(pl, .inr (3, [.int plw, .int pld, .int plc, .int x_15, .long y_6, .ref plf, .ref plo, .ref plb, .ref pla])), (plf, .inl (plkf, 40, .inl f_2)), (plo, .inl (plko, 40, .inl f_4)), (plb, .inl (plkb, 40, .inr (.inl f_5))), (pla, .inl (plka, 100, .inl f_14))]) [0, 1, 2, 3, 4] rfl
  have hD9 := hD.sub (ws' := [(pl, .inr (3, [.int plw, .int pld, .int plc, .int x_15, .long y_6, .ref plf, .ref plo, .ref plb, .ref pla])), (plf, .inl (plkf, 40, .inl f_2)), (plo, .inl (plko, 40, .inl f_4)), (plb, .inl (plkb, 40, .inr (.inl f_5))), (pla, .inl (plka, 100, .inl f_14))]) [0, 1, 2, 3, 4] (by decide) rfl
  have hK9 := hK.sub (tys' := []) [] rfl
  refine W.widen (k := 0) (n := 0) (by omega) (by omega) ?_
  exact W.vret hx hb hr (fun t ht hW => ⟨⟨(x_15, y_6, f_2, f_4, f_5, f_14), rfl, ⟨(by first | rfl | trivial | (dsimp only; omega) | omega | (left; rfl) | (right; rfl) | (dsimp only; first | (left; rfl) | (right; rfl))), hR_1, hR_3⟩, by rw [ht]; exact hP9, va_K.moved hW.alike hK9, hD9⟩, hS.F ht⟩) hS.2.2 dX3_join_84

def wz_X3_join_2 : List Cond := .code yX3_join cX3_join 6 none :: ([Cond.fieldLink RX3 28 "HedgeMaze$Plan" "first" "[I", Cond.fieldLink RX3 21 "HedgeMaze$Plan" "sideCount" "I", Cond.fieldLink RX3 32 "HedgeMaze$Plan" "other" "[I", Cond.fieldLink RX3 35 "HedgeMaze$Plan" "bits" "[J", Cond.fieldLink RX3 24 "HedgeMaze$Plan" "allSides" "J", Cond.fieldLink RX3 39 "HedgeMaze$Plan" "around" "[I"] ++ wsX30)
theorem wd_X3_join_2_0 : Cond.fieldLink RX3 28 "HedgeMaze$Plan" "first" "[I" ∈ wz_X3_join_2 := List.mem_of_getElem? (i := 1) rfl
theorem wd_X3_join_2_1 : Cond.fieldLink RX3 21 "HedgeMaze$Plan" "sideCount" "I" ∈ wz_X3_join_2 := List.mem_of_getElem? (i := 2) rfl
theorem wd_X3_join_2_2 : Cond.fieldLink RX3 32 "HedgeMaze$Plan" "other" "[I" ∈ wz_X3_join_2 := List.mem_of_getElem? (i := 3) rfl
theorem wd_X3_join_2_3 : Cond.fieldLink RX3 35 "HedgeMaze$Plan" "bits" "[J" ∈ wz_X3_join_2 := List.mem_of_getElem? (i := 4) rfl
theorem wd_X3_join_2_4 : Cond.fieldLink RX3 24 "HedgeMaze$Plan" "allSides" "J" ∈ wz_X3_join_2 := List.mem_of_getElem? (i := 5) rfl
theorem wd_X3_join_2_5 : Cond.fieldLink RX3 39 "HedgeMaze$Plan" "around" "[I" ∈ wz_X3_join_2 := List.mem_of_getElem? (i := 6) rfl
theorem in_X3_join_2_X3 : ∀ w ∈ wsX30, w ∈ wz_X3_join_2 := fun _ h => List.mem_cons_of_mem _ (List.mem_append_right _ h)
set_option maxHeartbeats 4000000 in
set_option maxRecDepth 100000 in
theorem c_X3_join_2 (l : Launch) (dC : Nat → ClassId) (dI : Nat → Nat → Nat) (sz : Nat) (pl : Nat) (plw : Int32) (pld : Int32) (plc : Int32) (pls : Int32) (plm : Int64) (plf : Nat) (plo : Nat) (plb : Nat) (pla : Nat) (plkf : ClassId) (plF : Nat → Int32) (plko : ClassId) (plO : Nat → Int32) (plkb : ClassId) (plB : Nat → Int64) (plka : ClassId) (plA : Nat → Int32) (p0 : Int32) (p1 : Int32) (p3 : Int64) (h_s : 0 ≤ pls.toInt ∧ pls.toInt ≤ 39) (h_p0 : 0 ≤ p0.toInt ∧ p0.toInt ≤ 24) (h_p1 : 0 ≤ p1.toInt ∧ p1.toInt ≤ 24) (hR_plf : RG plF 40 0 24) (hR_plo : RG plO 40 0 24) : Met l yX3_join wz_X3_join_2 ({ frames := 0, cells := 0, slots := 0, locals := 0 }) (va_Pc [.ref pl, .int p0, .int p1, .int 2, .long p3] (fun U => U.heap.size = sz ∧ va_P (dC, dI) vwCl [(pl, .inr (3, [.int plw, .int pld, .int plc, .int pls, .long plm, .ref plf, .ref plo, .ref plb, .ref pla])), (plf, .inl (plkf, 40, .inl plF)), (plo, .inl (plko, 40, .inl plO)), (plb, .inl (plkb, 40, .inr (.inl plB))), (pla, .inl (plka, 100, .inl plA))] U.heap ∧ va_K (dC, dI) vwCl [(plkf, .int), (plko, .int), (plkb, .long), (plka, .int)] U ∧ va_D (fun _ => True) [(pl, .inr (3, [.int plw, .int pld, .int plc, .int pls, .long plm, .ref plf, .ref plo, .ref plb, .ref pla])), (plf, .inl (plkf, 40, .inl plF)), (plo, .inl (plko, 40, .inl plO)), (plb, .inl (plkb, 40, .inr (.inl plB))), (pla, .inl (plka, 100, .inl plA))])) (va_Qv (fun (u : Int32 × Int64 × (Nat → Int32) × (Nat → Int32) × (Nat → Int64) × (Nat → Int32)) => (u.1.toInt = pls.toInt + 1) ∧ (RG u.2.2.1 40 0 24) ∧ (RG u.2.2.2.1 40 0 24)) (fun (u : Int32 × Int64 × (Nat → Int32) × (Nat → Int32) × (Nat → Int64) × (Nat → Int32)) (t : State) => va_P (dC, dI) vwCl [(pl, .inr (3, [.int plw, .int pld, .int plc, .int u.1, .long u.2.1, .ref plf, .ref plo, .ref plb, .ref pla])), (plf, .inl (plkf, 40, .inl u.2.2.1)), (plo, .inl (plko, 40, .inl u.2.2.2.1)), (plb, .inl (plkb, 40, .inr (.inl u.2.2.2.2.1))), (pla, .inl (plka, 100, .inl u.2.2.2.2.2))] t.heap ∧ va_K (dC, dI) vwCl [] t ∧ va_D (va_A [(pl, .inr (3, [.int plw, .int pld, .int plc, .int pls, .long plm, .ref plf, .ref plo, .ref plb, .ref pla])), (plf, .inl (plkf, 40, .inl plF)), (plo, .inl (plko, 40, .inl plO)), (plb, .inl (plkb, 40, .inr (.inl plB))), (pla, .inl (plka, 100, .inl plA))] sz) [(pl, .inr (3, [.int plw, .int pld, .int plc, .int u.1, .long u.2.1, .ref plf, .ref plo, .ref plb, .ref pla])), (plf, .inl (plkf, 40, .inl u.2.2.1)), (plo, .inl (plko, 40, .inl u.2.2.2.1)), (plb, .inl (plkb, 40, .inr (.inl u.2.2.2.2.1))), (pla, .inl (plka, 100, .inl u.2.2.2.2.2))]) (va_A [(pl, .inr (3, [.int plw, .int pld, .int plc, .int pls, .long plm, .ref plf, .ref plo, .ref plb, .ref pla])), (plf, .inl (plkf, 40, .inl plF)), (plo, .inl (plko, 40, .inl plO)), (plb, .inl (plkb, 40, .inr (.inl plB))), (pla, .inl (plka, 100, .inl plA))] sz)) 0 0 (va_A [(pl, .inr (3, [.int plw, .int pld, .int plc, .int pls, .long plm, .ref plf, .ref plo, .ref plb, .ref pla])), (plf, .inl (plkf, 40, .inl plF)), (plo, .inl (plko, 40, .inl plO)), (plb, .inl (plkb, 40, .inr (.inl plB))), (pla, .inl (plka, 100, .inl plA))] sz) := by
  refine Met.ofW (cc := cX3_join) (maxL := 6) (ret := none) (by decide) rfl ?_
  intro p e s m args below meth c s₁ B hml hv
  obtain ⟨rfl, hsz, hP, hK, hD0⟩ := hv
  have hx := B.exec
  have hb := B.bytes
  have hr := B.returns
  have hts := atoms_spec (ws := wz_X3_join_2) B.pre
  have hown : s.vm.findClass RX3 = some m.cls := findClass_of_methodNamed B.named
  have hlocks := B.notSynchronized
  subst hsz
  have hD := hD0.self (sz := s.heap.size)
  generalize hAe : va_A [(pl, .inr (3, [.int plw, .int pld, .int plc, .int pls, .long plm, .ref plf, .ref plo, .ref plb, .ref pla])), (plf, .inl (plkf, 40, .inl plF)), (plo, .inl (plko, 40, .inl plO)), (plb, .inl (plkb, 40, .inr (.inl plB))), (pla, .inl (plka, 100, .inl plA))] s.heap.size = A at hD ⊢
  have hA : ∀ q : Nat, s.heap.size ≤ q → A q := fun q h => by rw [← hAe]; exact Or.inr h
  have hS : va_S A s.heap s.heap [] := va_S.rf
  have hP : va_P (dC, dI) vwCl [(pl, .inr (3, [.int plw, .int pld, .int plc, .int pls, .long plm, .ref plf, .ref plo, .ref plb, .ref pla])), (plf, .inl (plkf, 40, .inl plF)), (plo, .inl (plko, 40, .inl plO)), (plb, .inl (plkb, 40, .inr (.inl plB))), (pla, .inl (plka, 100, .inl plA))] s.heap := hP
  have hl := lv_entry ([.ref pl, .int p0, .int p1, .int 2, .long p3]) (n := 6) (Nat.le_of_ble_eq_true rfl)
  rw [lg_entry_eq]
  generalize (lg_sl ([.ref pl, .int p0, .int p1, .int 2, .long p3]) ++ List.replicate (6 - (lg_sl ([.ref pl, .int p0, .int p1, .int 2, .long p3])).length) Slot.unset).toArray = ls at hl ⊢
  have hl : lv_has ls 6 [(0, .ref pl), (1, .int p0), (2, .int p1), (3, .int 2), (4, .long p3)] := hl
  refine lv_aload_n hx hb dX3_join_0 rfl (lv_at hl 0 rfl) ?_
  refine va_get (D := (dC, dI)) (ci := 3) (v := .ref plf) (C := RX3) (T := TX3) (N := 9) hx hb hts in_X3_join_2_X3 hown hK hP 0 rfl rfl 5 (by decide) (hts _ wd_X3_join_2_0) (fun _ h9 => h9) rfl dX3_join_1 ?_
  refine lv_aload_n hx hb dX3_join_4 rfl (lv_at hl 0 rfl) ?_
  refine va_get (D := (dC, dI)) (ci := 3) (v := .int pls) (C := RX3) (T := TX3) (N := 9) hx hb hts in_X3_join_2_X3 hown hK hP 0 rfl rfl 3 (by decide) (hts _ wd_X3_join_2_1) (fun _ h9 => h9) rfl dX3_join_5 ?_
  refine lv_iload_n hx hb dX3_join_8 rfl (lv_at hl 1 rfl) ?_
  refine va_iast hx hb hK hP hD hS 1 0 rfl rfl (i_in rfl (by omega) (by omega)) dX3_join_9 (fun H locs hP hD hS => ?_)
  have hP : va_P (dC, dI) vwCl [(pl, .inr (3, [.int plw, .int pld, .int plc, .int pls, .long plm, .ref plf, .ref plo, .ref plb, .ref pla])), (plf, .inl (plkf, 40, .inl (upd plF pls.toNatClampNeg p0))), (plo, .inl (plko, 40, .inl plO)), (plb, .inl (plkb, 40, .inr (.inl plB))), (pla, .inl (plka, 100, .inl plA))] H := hP
  have hD : va_D A [(pl, .inr (3, [.int plw, .int pld, .int plc, .int pls, .long plm, .ref plf, .ref plo, .ref plb, .ref pla])), (plf, .inl (plkf, 40, .inl (upd plF pls.toNatClampNeg p0))), (plo, .inl (plko, 40, .inl plO)), (plb, .inl (plkb, 40, .inr (.inl plB))), (pla, .inl (plka, 100, .inl plA))] := hD
  have hR_1 := RG.upd hR_plf pls.toNatClampNeg (x := p0) rfl (by omega) (by omega)
  obtain ⟨f_2, ef_2⟩ : ∃ g, g = upd plF pls.toNatClampNeg p0 := ⟨_, rfl⟩
  rw [← ef_2] at hP hD
  rw [← ef_2] at hR_1
  refine lv_aload_n hx hb dX3_join_10 rfl (lv_at hl 0 rfl) ?_
  refine va_get (D := (dC, dI)) (ci := 3) (v := .ref plo) (C := RX3) (T := TX3) (N := 9) hx hb hts in_X3_join_2_X3 hown hK hP 0 rfl rfl 6 (by decide) (hts _ wd_X3_join_2_2) (fun _ h9 => h9) rfl dX3_join_11 ?_
  refine lv_aload_n hx hb dX3_join_14 rfl (lv_at hl 0 rfl) ?_
  refine va_get (D := (dC, dI)) (ci := 3) (v := .int pls) (C := RX3) (T := TX3) (N := 9) hx hb hts in_X3_join_2_X3 hown hK hP 0 rfl rfl 3 (by decide) (hts _ wd_X3_join_2_1) (fun _ h9 => h9) rfl dX3_join_15 ?_
  refine lv_iload_n hx hb dX3_join_18 rfl (lv_at hl 2 rfl) ?_
  refine va_iast hx hb hK hP hD hS 2 1 rfl rfl (i_in rfl (by omega) (by omega)) dX3_join_19 (fun H locs hP hD hS => ?_)
  have hP : va_P (dC, dI) vwCl [(pl, .inr (3, [.int plw, .int pld, .int plc, .int pls, .long plm, .ref plf, .ref plo, .ref plb, .ref pla])), (plf, .inl (plkf, 40, .inl f_2)), (plo, .inl (plko, 40, .inl (upd plO pls.toNatClampNeg p1))), (plb, .inl (plkb, 40, .inr (.inl plB))), (pla, .inl (plka, 100, .inl plA))] H := hP
  have hD : va_D A [(pl, .inr (3, [.int plw, .int pld, .int plc, .int pls, .long plm, .ref plf, .ref plo, .ref plb, .ref pla])), (plf, .inl (plkf, 40, .inl f_2)), (plo, .inl (plko, 40, .inl (upd plO pls.toNatClampNeg p1))), (plb, .inl (plkb, 40, .inr (.inl plB))), (pla, .inl (plka, 100, .inl plA))] := hD
  have hR_3 := RG.upd hR_plo pls.toNatClampNeg (x := p1) rfl (by omega) (by omega)
  obtain ⟨f_4, ef_4⟩ : ∃ g, g = upd plO pls.toNatClampNeg p1 := ⟨_, rfl⟩
  rw [← ef_4] at hP hD
  rw [← ef_4] at hR_3
  refine lv_aload_n hx hb dX3_join_20 rfl (lv_at hl 0 rfl) ?_
  refine va_get (D := (dC, dI)) (ci := 3) (v := .ref plb) (C := RX3) (T := TX3) (N := 9) hx hb hts in_X3_join_2_X3 hown hK hP 0 rfl rfl 7 (by decide) (hts _ wd_X3_join_2_3) (fun _ h9 => h9) rfl dX3_join_21 ?_
  refine lv_aload_n hx hb dX3_join_24 rfl (lv_at hl 0 rfl) ?_
  refine va_get (D := (dC, dI)) (ci := 3) (v := .int pls) (C := RX3) (T := TX3) (N := 9) hx hb hts in_X3_join_2_X3 hown hK hP 0 rfl rfl 3 (by decide) (hts _ wd_X3_join_2_1) (fun _ h9 => h9) rfl dX3_join_25 ?_
  refine lv_lload hx hb dX3_join_28 (lv_at hl 4 rfl) ?_
  refine va_last hx hb hK hP hD hS 3 2 rfl rfl (i_in rfl (by omega) (by omega)) dX3_join_30 (fun H locs hP hD hS => ?_)
  have hP : va_P (dC, dI) vwCl [(pl, .inr (3, [.int plw, .int pld, .int plc, .int pls, .long plm, .ref plf, .ref plo, .ref plb, .ref pla])), (plf, .inl (plkf, 40, .inl f_2)), (plo, .inl (plko, 40, .inl f_4)), (plb, .inl (plkb, 40, .inr (.inl (vp_updL plB pls.toNatClampNeg p3)))), (pla, .inl (plka, 100, .inl plA))] H := hP
  have hD : va_D A [(pl, .inr (3, [.int plw, .int pld, .int plc, .int pls, .long plm, .ref plf, .ref plo, .ref plb, .ref pla])), (plf, .inl (plkf, 40, .inl f_2)), (plo, .inl (plko, 40, .inl f_4)), (plb, .inl (plkb, 40, .inr (.inl (vp_updL plB pls.toNatClampNeg p3)))), (pla, .inl (plka, 100, .inl plA))] := hD
  obtain ⟨f_5, ef_5⟩ : ∃ g, g = vp_updL plB pls.toNatClampNeg p3 := ⟨_, rfl⟩
  rw [← ef_5] at hP hD
  refine lv_aload_n hx hb dX3_join_31 rfl (lv_at hl 0 rfl) ?_
  refine lv_dup hx hb dX3_join_32 rfl ?_
  refine va_get (D := (dC, dI)) (ci := 3) (v := .long plm) (C := RX3) (T := TX3) (N := 9) hx hb hts in_X3_join_2_X3 hown hK hP 0 rfl rfl 4 (by decide) (hts _ wd_X3_join_2_4) (fun _ h9 => h9) rfl dX3_join_33 ?_
  refine lv_lload hx hb dX3_join_36 (lv_at hl 4 rfl) ?_
  refine lv_lor hx hb dX3_join_38 ?_
  refine lv_topl (fun y_6 ey_6 => ?_)
  refine va_put (D := (dC, dI)) (ci := 3) (v := .long y_6) (ty := .long) (C := RX3) (T := TX3) (N := 9) hx hb hts in_X3_join_2_X3 tyX3 tyX3_ok nmX3 hown hK hP hD hS 0 rfl rfl 4 (by decide) (hts _ wd_X3_join_2_4) (fun _ h9 => h9) rfl (by decide +kernel) rfl rfl (Nat.le_of_ble_eq_true rfl) dX3_join_39 (fun H locs hP hD hS => ?_)
  have hP : va_P (dC, dI) vwCl [(pl, .inr (3, [.int plw, .int pld, .int plc, .int pls, .long y_6, .ref plf, .ref plo, .ref plb, .ref pla])), (plf, .inl (plkf, 40, .inl f_2)), (plo, .inl (plko, 40, .inl f_4)), (plb, .inl (plkb, 40, .inr (.inl f_5))), (pla, .inl (plka, 100, .inl plA))] H := hP
  have hD : va_D A [(pl, .inr (3, [.int plw, .int pld, .int plc, .int pls, .long y_6, .ref plf, .ref plo, .ref plb, .ref pla])), (plf, .inl (plkf, 40, .inl f_2)), (plo, .inl (plko, 40, .inl f_4)), (plb, .inl (plkb, 40, .inr (.inl f_5))), (pla, .inl (plka, 100, .inl plA))] := hD
  refine lv_aload_n hx hb dX3_join_42 rfl (lv_at hl 0 rfl) ?_
  refine va_get (D := (dC, dI)) (ci := 3) (v := .ref pla) (C := RX3) (T := TX3) (N := 9) hx hb hts in_X3_join_2_X3 hown hK hP 0 rfl rfl 8 (by decide) (hts _ wd_X3_join_2_5) (fun _ h9 => h9) rfl dX3_join_43 ?_
  refine lv_iload_n hx hb dX3_join_46 rfl (lv_at hl 1 rfl) ?_
  refine lv_iconst (v := 4) hx hb dX3_join_47 (by decide) ?_
  refine lv_imul hx hb dX3_join_48 ?_
  refine lv_topi (fun x_7 ex_7 => ?_)
  have zx_7 : x_7.toInt = p0.toInt * 4 := by rw [ex_7]; exact i_mul rfl (by decide) (by omega) (by omega)
  refine lv_iload_n hx hb dX3_join_49 rfl (lv_at hl 3 rfl) ?_
  refine lv_iadd hx hb dX3_join_50 ?_
  refine lv_topi (fun x_8 ex_8 => ?_)
  have zx_8 : x_8.toInt = x_7.toInt + 2 := by rw [ex_8]; exact i_add rfl (by decide) (by omega) (by omega)
  refine lv_aload_n hx hb dX3_join_51 rfl (lv_at hl 0 rfl) ?_
  refine va_get (D := (dC, dI)) (ci := 3) (v := .int pls) (C := RX3) (T := TX3) (N := 9) hx hb hts in_X3_join_2_X3 hown hK hP 0 rfl rfl 3 (by decide) (hts _ wd_X3_join_2_1) (fun _ h9 => h9) rfl dX3_join_52 ?_
  refine va_iast hx hb hK hP hD hS 4 3 rfl rfl (i_in rfl (by omega) (by omega)) dX3_join_55 (fun H locs hP hD hS => ?_)
  have hP : va_P (dC, dI) vwCl [(pl, .inr (3, [.int plw, .int pld, .int plc, .int pls, .long y_6, .ref plf, .ref plo, .ref plb, .ref pla])), (plf, .inl (plkf, 40, .inl f_2)), (plo, .inl (plko, 40, .inl f_4)), (plb, .inl (plkb, 40, .inr (.inl f_5))), (pla, .inl (plka, 100, .inl (upd plA x_8.toNatClampNeg pls)))] H := hP
  have hD : va_D A [(pl, .inr (3, [.int plw, .int pld, .int plc, .int pls, .long y_6, .ref plf, .ref plo, .ref plb, .ref pla])), (plf, .inl (plkf, 40, .inl f_2)), (plo, .inl (plko, 40, .inl f_4)), (plb, .inl (plkb, 40, .inr (.inl f_5))), (pla, .inl (plka, 100, .inl (upd plA x_8.toNatClampNeg pls)))] := hD
  obtain ⟨f_9, ef_9⟩ : ∃ g, g = upd plA x_8.toNatClampNeg pls := ⟨_, rfl⟩
  rw [← ef_9] at hP hD
  refine lv_aload_n hx hb dX3_join_56 rfl (lv_at hl 0 rfl) ?_
  refine va_get (D := (dC, dI)) (ci := 3) (v := .ref pla) (C := RX3) (T := TX3) (N := 9) hx hb hts in_X3_join_2_X3 hown hK hP 0 rfl rfl 8 (by decide) (hts _ wd_X3_join_2_5) (fun _ h9 => h9) rfl dX3_join_57 ?_
  refine lv_iload_n hx hb dX3_join_60 rfl (lv_at hl 2 rfl) ?_
  refine lv_iconst (v := 4) hx hb dX3_join_61 (by decide) ?_
  refine lv_imul hx hb dX3_join_62 ?_
  refine lv_topi (fun x_10 ex_10 => ?_)
  have zx_10 : x_10.toInt = p1.toInt * 4 := by rw [ex_10]; exact i_mul rfl (by decide) (by omega) (by omega)
  refine lv_iload_n hx hb dX3_join_63 rfl (lv_at hl 3 rfl) ?_
  refine lv_iconst (v := 2) hx hb dX3_join_64 (by decide) ?_
  refine lv_iadd hx hb dX3_join_65 ?_
  refine lv_topi (fun z_11 ez_11 => ?_)
  obtain rfl : z_11 = 4 := ez_11.trans (by decide)
  refine lv_iconst (v := 4) hx hb dX3_join_66 (by decide) ?_
  refine lv_irem hx hb dX3_join_67 (by decide) ?_
  refine lv_topi (fun z_12 ez_12 => ?_)
  obtain rfl : z_12 = 0 := ez_12.trans (by decide)
  refine lv_iadd hx hb dX3_join_68 ?_
  refine lv_topi (fun x_13 ex_13 => ?_)
  have zx_13 : x_13.toInt = x_10.toInt + 0 := by rw [ex_13]; exact i_add rfl (by decide) (by omega) (by omega)
  refine lv_aload_n hx hb dX3_join_69 rfl (lv_at hl 0 rfl) ?_
  refine va_get (D := (dC, dI)) (ci := 3) (v := .int pls) (C := RX3) (T := TX3) (N := 9) hx hb hts in_X3_join_2_X3 hown hK hP 0 rfl rfl 3 (by decide) (hts _ wd_X3_join_2_1) (fun _ h9 => h9) rfl dX3_join_70 ?_
  refine va_iast hx hb hK hP hD hS 4 3 rfl rfl (i_in rfl (by omega) (by omega)) dX3_join_73 (fun H locs hP hD hS => ?_)
  have hP : va_P (dC, dI) vwCl [(pl, .inr (3, [.int plw, .int pld, .int plc, .int pls, .long y_6, .ref plf, .ref plo, .ref plb, .ref pla])), (plf, .inl (plkf, 40, .inl f_2)), (plo, .inl (plko, 40, .inl f_4)), (plb, .inl (plkb, 40, .inr (.inl f_5))), (pla, .inl (plka, 100, .inl (upd f_9 x_13.toNatClampNeg pls)))] H := hP
  have hD : va_D A [(pl, .inr (3, [.int plw, .int pld, .int plc, .int pls, .long y_6, .ref plf, .ref plo, .ref plb, .ref pla])), (plf, .inl (plkf, 40, .inl f_2)), (plo, .inl (plko, 40, .inl f_4)), (plb, .inl (plkb, 40, .inr (.inl f_5))), (pla, .inl (plka, 100, .inl (upd f_9 x_13.toNatClampNeg pls)))] := hD
  obtain ⟨f_14, ef_14⟩ : ∃ g, g = upd f_9 x_13.toNatClampNeg pls := ⟨_, rfl⟩
  rw [← ef_14] at hP hD
  refine lv_aload_n hx hb dX3_join_74 rfl (lv_at hl 0 rfl) ?_
  refine lv_dup hx hb dX3_join_75 rfl ?_
  refine va_get (D := (dC, dI)) (ci := 3) (v := .int pls) (C := RX3) (T := TX3) (N := 9) hx hb hts in_X3_join_2_X3 hown hK hP 0 rfl rfl 3 (by decide) (hts _ wd_X3_join_2_1) (fun _ h9 => h9) rfl dX3_join_76 ?_
  refine lv_iconst (v := 1) hx hb dX3_join_79 (by decide) ?_
  refine lv_iadd hx hb dX3_join_80 ?_
  refine lv_topi (fun x_15 ex_15 => ?_)
  have zx_15 : x_15.toInt = pls.toInt + 1 := by rw [ex_15]; exact i_add rfl (by decide) (by omega) (by omega)
  refine va_put (D := (dC, dI)) (ci := 3) (v := .int x_15) (ty := .int) (C := RX3) (T := TX3) (N := 9) hx hb hts in_X3_join_2_X3 tyX3 tyX3_ok nmX3 hown hK hP hD hS 0 rfl rfl 3 (by decide) (hts _ wd_X3_join_2_1) (fun _ h9 => h9) rfl (by decide +kernel) rfl rfl (Nat.le_of_ble_eq_true rfl) dX3_join_81 (fun H locs hP hD hS => ?_)
  have hP : va_P (dC, dI) vwCl [(pl, .inr (3, [.int plw, .int pld, .int plc, .int x_15, .long y_6, .ref plf, .ref plo, .ref plb, .ref pla])), (plf, .inl (plkf, 40, .inl f_2)), (plo, .inl (plko, 40, .inl f_4)), (plb, .inl (plkb, 40, .inr (.inl f_5))), (pla, .inl (plka, 100, .inl f_14))] H := hP
  have hD : va_D A [(pl, .inr (3, [.int plw, .int pld, .int plc, .int x_15, .long y_6, .ref plf, .ref plo, .ref plb, .ref pla])), (plf, .inl (plkf, 40, .inl f_2)), (plo, .inl (plko, 40, .inl f_4)), (plb, .inl (plkb, 40, .inr (.inl f_5))), (pla, .inl (plka, 100, .inl f_14))] := hD
  have hP9 := hP.sub (ws' := [(pl, .inr (3, [.int plw, .int pld, .int plc, .int x_15, .long y_6, .ref plf, .ref plo, .ref plb, .ref pla])), (plf, .inl (plkf, 40, .inl f_2)), (plo, .inl (plko, 40, .inl f_4)), (plb, .inl (plkb, 40, .inr (.inl f_5))), (pla, .inl (plka, 100, .inl f_14))]) [0, 1, 2, 3, 4] rfl
  have hD9 := hD.sub (ws' := [(pl, .inr (3, [.int plw, .int pld, .int plc, .int x_15, .long y_6, .ref plf, .ref plo, .ref plb, .ref pla])), (plf, .inl (plkf, 40, .inl f_2)), (plo, .inl (plko, 40, .inl f_4)), (plb, .inl (plkb, 40, .inr (.inl f_5))), (pla, .inl (plka, 100, .inl f_14))]) [0, 1, 2, 3, 4] (by decide) rfl
  have hK9 := hK.sub (tys' := []) [] rfl
  refine W.widen (k := 0) (n := 0) (by omega) (by omega) ?_
  exact W.vret hx hb hr (fun t ht hW => ⟨⟨(x_15, y_6, f_2, f_4, f_5, f_14), rfl, ⟨(by first | rfl | trivial | (dsimp only; omega) | omega | (left; rfl) | (right; rfl) | (dsimp only; first | (left; rfl) | (right; rfl))), hR_1, hR_3⟩, by rw [ht]; exact hP9, va_K.moved hW.alike hK9, hD9⟩, hS.F ht⟩) hS.2.2 dX3_join_84

