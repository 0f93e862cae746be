theorem dX6_hasMaze_0 : decode cX6_hasMaze 0 = .ok (.aload_n 0, 1) := by decide +kernel
theorem dX6_hasMaze_1 : decode cX6_hasMaze 1 = .ok (.getfield 33, 3) := by decide +kernel
theorem dX6_hasMaze_4 : decode cX6_hasMaze 4 = .ok (.getfield 83, 3) := by decide +kernel
theorem dX6_hasMaze_7 : decode cX6_hasMaze 7 = .ok (.ifCond .le 7, 3) := by decide +kernel
theorem dX6_hasMaze_10 : decode cX6_hasMaze 10 = .ok (.iconst 1, 1) := by decide +kernel
theorem dX6_hasMaze_11 : decode cX6_hasMaze 11 = .ok (.goto 4, 3) := by decide +kernel
theorem dX6_hasMaze_14 : decode cX6_hasMaze 14 = .ok (.iconst 0, 1) := by decide +kernel
theorem dX6_hasMaze_15 : decode cX6_hasMaze 15 = .ok (.ireturn, 1) := by decide +kernel
def wz_X6_hasMaze : List Cond := .code yX6_hasMaze cX6_hasMaze 1 (some .boolean) :: ([Cond.fieldLink RX6 33 "HedgeMaze" "garden" "LHedgeMaze$Garden;", Cond.fieldLink RX6 83 "HedgeMaze$Garden" "lines" "I"] ++ wsX60 ++ wsX00)
theorem wd_X6_hasMaze_0 : Cond.fieldLink RX6 33 "HedgeMaze" "garden" "LHedgeMaze$Garden;" ∈ wz_X6_hasMaze := List.mem_of_getElem? (i := 1) rfl
theorem wd_X6_hasMaze_1 : Cond.fieldLink RX6 83 "HedgeMaze$Garden" "lines" "I" ∈ wz_X6_hasMaze := List.mem_of_getElem? (i := 2) rfl
theorem in_X6_hasMaze_X6 : ∀ w ∈ wsX60, w ∈ wz_X6_hasMaze := fun _ h => List.mem_cons_of_mem _ (List.mem_append_left _ (List.mem_append_right _ h))
theorem in_X6_hasMaze_X0 : ∀ w ∈ wsX00, w ∈ wz_X6_hasMaze := fun _ h => List.mem_cons_of_mem _ (List.mem_append_right _ h)
set_option maxHeartbeats 4000000 in
set_option maxRecDepth 100000 in
theorem c_X6_hasMaze (l : Launch) (dC : Nat → ClassId) (dI : Nat → Nat → Nat) (sz : Nat) (h0 : Nat) (tp : Nat) (ts : Int32) (fn : Int32) (fp : Int32) (rd : Nat) (gd : Nat) (im : Nat) (rw : Nat) (gn : Nat) (ho : Nat) (sq : Nat) (gdl : Int32) (gdh : Int64) (gdw : Int64) (gdi : Int32) (gde : Int32) (gdc : Int32) (gdt : Nat) (gdg : Int32) (gdu : Nat) (gdn : Int32) (gdx : Nat) (pl : Nat)  : Met l yX6_hasMaze wz_X6_hasMaze ({ frames := 0, cells := 0, slots := 0, locals := 0 }) (va_Pc [.ref h0] (fun U => U.heap.size = sz ∧ va_P (dC, dI) vwCl [(h0, .inr (6, [.ref tp, .int ts, .int fn, .int fp, .ref rd, .ref gd, .ref im, .ref rw, .ref gn, .ref ho, .ref sq])), (gd, .inr (0, [.ref pl, .int gdl, .long gdh, .long gdw, .int gdi, .int gde, .int gdc, .ref gdt, .int gdg, .ref gdu, .int gdn, .ref gdx]))] U.heap ∧ va_K (dC, dI) vwCl [] U ∧ va_D (fun _ => True) [(h0, .inr (6, [.ref tp, .int ts, .int fn, .int fp, .ref rd, .ref gd, .ref im, .ref rw, .ref gn, .ref ho, .ref sq])), (gd, .inr (0, [.ref pl, .int gdl, .long gdh, .long gdw, .int gdi, .int gde, .int gdc, .ref gdt, .int gdg, .ref gdu, .int gdn, .ref gdx]))])) (va_Qi (fun (r : Int32) (u : Unit) => r = if 0 < gdl.toInt then 1 else 0) (fun (u : Unit) (t : State) => va_P (dC, dI) vwCl [(h0, .inr (6, [.ref tp, .int ts, .int fn, .int fp, .ref rd, .ref gd, .ref im, .ref rw, .ref gn, .ref ho, .ref sq])), (gd, .inr (0, [.ref pl, .int gdl, .long gdh, .long gdw, .int gdi, .int gde, .int gdc, .ref gdt, .int gdg, .ref gdu, .int gdn, .ref gdx]))] t.heap ∧ va_K (dC, dI) vwCl [] t ∧ va_D (va_A [(h0, .inr (6, [.ref tp, .int ts, .int fn, .int fp, .ref rd, .ref gd, .ref im, .ref rw, .ref gn, .ref ho, .ref sq])), (gd, .inr (0, [.ref pl, .int gdl, .long gdh, .long gdw, .int gdi, .int gde, .int gdc, .ref gdt, .int gdg, .ref gdu, .int gdn, .ref gdx]))] sz) [(h0, .inr (6, [.ref tp, .int ts, .int fn, .int fp, .ref rd, .ref gd, .ref im, .ref rw, .ref gn, .ref ho, .ref sq])), (gd, .inr (0, [.ref pl, .int gdl, .long gdh, .long gdw, .int gdi, .int gde, .int gdc, .ref gdt, .int gdg, .ref gdu, .int gdn, .ref gdx]))]) (va_A [(h0, .inr (6, [.ref tp, .int ts, .int fn, .int fp, .ref rd, .ref gd, .ref im, .ref rw, .ref gn, .ref ho, .ref sq])), (gd, .inr (0, [.ref pl, .int gdl, .long gdh, .long gdw, .int gdi, .int gde, .int gdc, .ref gdt, .int gdg, .ref gdu, .int gdn, .ref gdx]))] sz)) 0 0 (va_A [(h0, .inr (6, [.ref tp, .int ts, .int fn, .int fp, .ref rd, .ref gd, .ref im, .ref rw, .ref gn, .ref ho, .ref sq])), (gd, .inr (0, [.ref pl, .int gdl, .long gdh, .long gdw, .int gdi, .int gde, .int gdc, .ref gdt, .int gdg, .ref gdu, .int gdn, .ref gdx]))] sz) := by
  refine Met.ofW (cc := cX6_hasMaze) (maxL := 1) (ret := (some .boolean)) (by decide) rfl ?_
  intro p e s m args below meth c s₁ B hml hv
  obtain ⟨rfl, hsz, hP, hK, hD0⟩ := hv
  have hx := B.exec
  have hb := B.bytes
  have hr := B.returns
  have hts := atoms_spec (ws := wz_X6_hasMaze) B.pre
  have hown : s.vm.findClass RX6 = some m.cls := findClass_of_methodNamed B.named
  have hlocks := B.notSynchronized
  subst hsz
  have hD := hD0.self (sz := s.heap.size)
  generalize hAe : va_A [(h0, .inr (6, [.ref tp, .int ts, .int fn, .int fp, .ref rd, .ref gd, .ref im, .ref rw, .ref gn, .ref ho, .ref sq])), (gd, .inr (0, [.ref pl, .int gdl, .long gdh, .long gdw, .int gdi, .int gde, .int gdc, .ref gdt, .int gdg, .ref gdu, .int gdn, .ref gdx]))] s.heap.size = A at hD ⊢
  have hA : ∀ q : Nat, s.heap.size ≤ q → A q := fun q h => by rw [← hAe]; exact Or.inr h
  have hS : va_S A s.heap s.heap [] := va_S.rf
  have hP : va_P (dC, dI) vwCl [(h0, .inr (6, [.ref tp, .int ts, .int fn, .int fp, .ref rd, .ref gd, .ref im, .ref rw, .ref gn, .ref ho, .ref sq])), (gd, .inr (0, [.ref pl, .int gdl, .long gdh, .long gdw, .int gdi, .int gde, .int gdc, .ref gdt, .int gdg, .ref gdu, .int gdn, .ref gdx]))] s.heap := hP
  have hl := lv_entry ([.ref h0]) (n := 1) (Nat.le_of_ble_eq_true rfl)
  rw [lg_entry_eq]
  generalize (lg_sl ([.ref h0]) ++ List.replicate (1 - (lg_sl ([.ref h0])).length) Slot.unset).toArray = ls at hl ⊢
  have hl : lv_has ls 1 [(0, .ref h0)] := hl
  refine lv_aload_n hx hb dX6_hasMaze_0 rfl (lv_at hl 0 rfl) ?_
  refine va_get (D := (dC, dI)) (ci := 6) (v := .ref gd) (C := RX6) (T := TX6) (N := 11) hx hb hts in_X6_hasMaze_X6 hown hK hP 0 rfl rfl 5 (by decide) (hts _ wd_X6_hasMaze_0) (fun _ h9 => h9) rfl dX6_hasMaze_1 ?_
  refine va_get (D := (dC, dI)) (ci := 0) (v := .int gdl) (C := RX0) (T := TX0) (N := 12) hx hb hts in_X6_hasMaze_X0 hown hK hP 1 rfl rfl 1 (by decide) (hts _ wd_X6_hasMaze_1) (fun _ h9 => h9) rfl dX6_hasMaze_4 ?_
  refine lv_if_le (tgt := 14) hx hb dX6_hasMaze_7 (by decide) (fun c_1 => ?_) (fun c_1 => ?_)
  · have c_1 : gdl.toInt ≤ 0 := i_le (a := gdl) (b := 0) rfl (by decide) c_1
    refine lv_iconst (v := 0) hx hb dX6_hasMaze_14 (by decide) ?_
    have hP9 := hP.sub (ws' := [(h0, .inr (6, [.ref tp, .int ts, .int fn, .int fp, .ref rd, .ref gd, .ref im, .ref rw, .ref gn, .ref ho, .ref sq])), (gd, .inr (0, [.ref pl, .int gdl, .long gdh, .long gdw, .int gdi, .int gde, .int gdc, .ref gdt, .int gdg, .ref gdu, .int gdn, .ref gdx]))]) [0, 1] rfl
    have hD9 := hD.sub (ws' := [(h0, .inr (6, [.ref tp, .int ts, .int fn, .int fp, .ref rd, .ref gd, .ref im, .ref rw, .ref gn, .ref ho, .ref sq])), (gd, .inr (0, [.ref pl, .int gdl, .long gdh, .long gdw, .int gdi, .int gde, .int gdc, .ref gdt, .int gdg, .ref gdu, .int gdn, .ref gdx]))]) [0, 1] (by decide) rfl
    have hK9 := hK.sub (tys' := []) [] rfl
    refine W.widen (k := 0) (n := 0) (by omega) (by omega) ?_
    exact W.zret (v := 0) hx hb hr (by decide) (fun t ht hW => ⟨⟨0, (), rfl, (by first | rfl | ((repeat' split) <;> (first | rfl | (exfalso; omega)))), by rw [ht]; exact hP9, va_K.moved hW.alike hK9, hD9⟩, hS.F ht⟩) hS.2.2 dX6_hasMaze_15
  · have c_1 : 0 < gdl.toInt := i_nle (a := gdl) (b := 0) rfl (by decide) c_1
    refine lv_iconst (v := 1) hx hb dX6_hasMaze_10 (by decide) ?_
    refine lv_goto (tgt := 15) hx hb dX6_hasMaze_11 (by decide) ?_
    have hP9 := hP.sub (ws' := [(h0, .inr (6, [.ref tp, .int ts, .int fn, .int fp, .ref rd, .ref gd, .ref im, .ref rw, .ref gn, .ref ho, .ref sq])), (gd, .inr (0, [.ref pl, .int gdl, .long gdh, .long gdw, .int gdi, .int gde, .int gdc, .ref gdt, .int gdg, .ref gdu, .int gdn, .ref gdx]))]) [0, 1] rfl
    have hD9 := hD.sub (ws' := [(h0, .inr (6, [.ref tp, .int ts, .int fn, .int fp, .ref rd, .ref gd, .ref im, .ref rw, .ref gn, .ref ho, .ref sq])), (gd, .inr (0, [.ref pl, .int gdl, .long gdh, .long gdw, .int gdi, .int gde, .int gdc, .ref gdt, .int gdg, .ref gdu, .int gdn, .ref gdx]))]) [0, 1] (by decide) rfl
    have hK9 := hK.sub (tys' := []) [] rfl
    refine W.widen (k := 0) (n := 0) (by omega) (by omega) ?_
    exact W.zret (v := 1) hx hb hr (by decide) (fun t ht hW => ⟨⟨1, (), rfl, (by first | rfl | ((repeat' split) <;> (first | rfl | (exfalso; omega)))), by rw [ht]; exact hP9, va_K.moved hW.alike hK9, hD9⟩, hS.F ht⟩) hS.2.2 dX6_hasMaze_15

theorem dX6_isCell_0 : decode cX6_isCell 0 = .ok (.iload_n 1, 1) := by decide +kernel
theorem dX6_isCell_1 : decode cX6_isCell 1 = .ok (.ifCond .lt 21, 3) := by decide +kernel
theorem dX6_isCell_4 : decode cX6_isCell 4 = .ok (.iload_n 1, 1) := by decide +kernel
theorem dX6_isCell_5 : decode cX6_isCell 5 = .ok (.aload_n 0, 1) := by decide +kernel
theorem dX6_isCell_6 : decode cX6_isCell 6 = .ok (.getfield 33, 3) := by decide +kernel
theorem dX6_isCell_9 : decode cX6_isCell 9 = .ok (.getfield 90, 3) := by decide +kernel
theorem dX6_isCell_12 : decode cX6_isCell 12 = .ok (.getfield 169, 3) := by decide +kernel
theorem dX6_isCell_15 : decode cX6_isCell 15 = .ok (.if_icmp .ge 7, 3) := by decide +kernel
theorem dX6_isCell_18 : decode cX6_isCell 18 = .ok (.iconst 1, 1) := by decide +kernel
theorem dX6_isCell_19 : decode cX6_isCell 19 = .ok (.goto 4, 3) := by decide +kernel
theorem dX6_isCell_22 : decode cX6_isCell 22 = .ok (.iconst 0, 1) := by decide +kernel
theorem dX6_isCell_23 : decode cX6_isCell 23 = .ok (.ireturn, 1) := by decide +kernel
def wz_X6_isCell : List Cond := .code yX6_isCell cX6_isCell 2 (some .boolean) :: ([Cond.fieldLink RX6 33 "HedgeMaze" "garden" "LHedgeMaze$Garden;", Cond.fieldLink RX6 90 "HedgeMaze$Garden" "plan" "LHedgeMaze$Plan;", Cond.fieldLink RX6 169 "HedgeMaze$Plan" "cellCount" "I"] ++ wsX60 ++ wsX00 ++ wsX30)
theorem wd_X6_isCell_0 : Cond.fieldLink RX6 33 "HedgeMaze" "garden" "LHedgeMaze$Garden;" ∈ wz_X6_isCell := List.mem_of_getElem? (i := 1) rfl
theorem wd_X6_isCell_1 : Cond.fieldLink RX6 90 "HedgeMaze$Garden" "plan" "LHedgeMaze$Plan;" ∈ wz_X6_isCell := List.mem_of_getElem? (i := 2) rfl
theorem wd_X6_isCell_2 : Cond.fieldLink RX6 169 "HedgeMaze$Plan" "cellCount" "I" ∈ wz_X6_isCell := List.mem_of_getElem? (i := 3) rfl
theorem in_X6_isCell_X6 : ∀ w ∈ wsX60, w ∈ wz_X6_isCell := fun _ h => List.mem_cons_of_mem _ (List.mem_append_left _ (List.mem_append_left _ (List.mem_append_right _ h)))
theorem in_X6_isCell_X0 : ∀ w ∈ wsX00, w ∈ wz_X6_isCell := fun _ h => List.mem_cons_of_mem _ (List.mem_append_left _ (List.mem_append_right _ h))
theorem in_X6_isCell_X3 : ∀ w ∈ wsX30, w ∈ wz_X6_isCell := fun _ h => List.mem_cons_of_mem _ (List.mem_append_right _ h)
set_option maxHeartbeats 4000000 in
set_option maxRecDepth 100000 in
theorem c_X6_isCell (l : Launch) (dC : Nat → ClassId) (dI : Nat → Nat → Nat) (sz : Nat) (h0 : Nat) (tp : Nat) (ts : Int32) (fn : Int32) (fp : Int32) (rd : Nat) (gd : Nat) (im : Nat) (rw : Nat) (gn : Nat) (ho : Nat) (sq : Nat) (gdl : Int32) (gdh : Int64) (gdw : Int64) (gdi : Int32) (gde : Int32) (gdc : Int32) (gdt : Nat) (gdg : Int32) (gdu : Nat) (gdn : Int32) (gdx : Nat) (pl : Nat) (plw : Int32) (pld : Int32) (plc : Int32) (pls : Int32) (plm : Int64) (plf : Nat) (plo : Nat) (plb : Nat) (pla : Nat) (p0 : Int32)  : Met l yX6_isCell wz_X6_isCell ({ frames := 0, cells := 0, slots := 0, locals := 0 }) (va_Pc [.ref h0, .int p0] (fun U => U.heap.size = sz ∧ va_P (dC, dI) vwCl [(h0, .inr (6, [.ref tp, .int ts, .int fn, .int fp, .ref rd, .ref gd, .ref im, .ref rw, .ref gn, .ref ho, .ref sq])), (gd, .inr (0, [.ref pl, .int gdl, .long gdh, .long gdw, .int gdi, .int gde, .int gdc, .ref gdt, .int gdg, .ref gdu, .int gdn, .ref gdx])), (pl, .inr (3, [.int plw, .int pld, .int plc, .int pls, .long plm, .ref plf, .ref plo, .ref plb, .ref pla]))] U.heap ∧ va_K (dC, dI) vwCl [] U ∧ va_D (fun _ => True) [(h0, .inr (6, [.ref tp, .int ts, .int fn, .int fp, .ref rd, .ref gd, .ref im, .ref rw, .ref gn, .ref ho, .ref sq])), (gd, .inr (0, [.ref pl, .int gdl, .long gdh, .long gdw, .int gdi, .int gde, .int gdc, .ref gdt, .int gdg, .ref gdu, .int gdn, .ref gdx])), (pl, .inr (3, [.int plw, .int pld, .int plc, .int pls, .long plm, .ref plf, .ref plo, .ref plb, .ref pla]))])) (va_Qi (fun (r : Int32) (u : Unit) => r = if 0 ≤ p0.toInt ∧ p0.toInt < plc.toInt then 1 else 0) (fun (u : Unit) (t : State) => va_P (dC, dI) vwCl [(h0, .inr (6, [.ref tp, .int ts, .int fn, .int fp, .ref rd, .ref gd, .ref im, .ref rw, .ref gn, .ref ho, .ref sq])), (gd, .inr (0, [.ref pl, .int gdl, .long gdh, .long gdw, .int gdi, .int gde, .int gdc, .ref gdt, .int gdg, .ref gdu, .int gdn, .ref gdx])), (pl, .inr (3, [.int plw, .int pld, .int plc, .int pls, .long plm, .ref plf, .ref plo, .ref plb, .ref pla]))] t.heap ∧ va_K (dC, dI) vwCl [] t ∧ va_D (va_A [(h0, .inr (6, [.ref tp, .int ts, .int fn, .int fp, .ref rd, .ref gd, .ref im, .ref rw, .ref gn, .ref ho, .ref sq])), (gd, .inr (0, [.ref pl, .int gdl, .long gdh, .long gdw, .int gdi, .int gde, .int gdc, .ref gdt, .int gdg, .ref gdu, .int gdn, .ref gdx])), (pl, .inr (3, [.int plw, .int pld, .int plc, .int pls, .long plm, .ref plf, .ref plo, .ref plb, .ref pla]))] sz) [(h0, .inr (6, [.ref tp, .int ts, .int fn, .int fp, .ref rd, .ref gd, .ref im, .ref rw, .ref gn, .ref ho, .ref sq])), (gd, .inr (0, [.ref pl, .int gdl, .long gdh, .long gdw, .int gdi, .int gde, .int gdc, .ref gdt, .int gdg, .ref gdu, .int gdn, .ref gdx])), (pl, .inr (3, [.int plw, .int pld, .int plc, .int pls, .long plm, .ref plf, .ref plo, .ref plb, .ref pla]))]) (va_A [(h0, .inr (6, [.ref tp, .int ts, .int fn, .int fp, .ref rd, .ref gd, .ref im, .ref rw, .ref gn, .ref ho, .ref sq])), (gd, .inr (0, [.ref pl, .int gdl, .long gdh, .long gdw, .int gdi, .int gde, .int gdc, .ref gdt, .int gdg, .ref gdu, .int gdn, .ref gdx])), (pl, .inr (3, [.int plw, .int pld, .int plc, .int pls, .long plm, .ref plf, .ref plo, .ref plb, .ref pla]))] sz)) 0 0 (va_A [(h0, .inr (6, [.ref tp, .int ts, .int fn, .int fp, .ref rd, .ref gd, .ref im, .ref rw, .ref gn, .ref ho, .ref sq])), (gd, .inr (0, [.ref pl, .int gdl, .long gdh, .long gdw, .int gdi, .int gde, .int gdc, .ref gdt, .int gdg, .ref gdu, .int gdn, .ref gdx])), (pl, .inr (3, [.int plw, .int pld, .int plc, .int pls, .long plm, .ref plf, .ref plo, .ref plb, .ref pla]))] sz) := by
  refine Met.ofW (cc := cX6_isCell) (maxL := 2) (ret := (some .boolean)) (by decide) rfl ?_
  intro p e s m args below meth c s₁ B hml hv
  obtain ⟨rfl, hsz, hP, hK, hD0⟩ := hv
  have hx := B.exec
  have hb := B.bytes
  have hr := B.returns
  have hts := atoms_spec (ws := wz_X6_isCell) B.pre
  have hown : s.vm.findClass RX6 = some m.cls := findClass_of_methodNamed B.named
  have hlocks := B.notSynchronized
  subst hsz
  have hD := hD0.self (sz := s.heap.size)
  generalize hAe : va_A [(h0, .inr (6, [.ref tp, .int ts, .int fn, .int fp, .ref rd, .ref gd, .ref im, .ref rw, .ref gn, .ref ho, .ref sq])), (gd, .inr (0, [.ref pl, .int gdl, .long gdh, .long gdw, .int gdi, .int gde, .int gdc, .ref gdt, .int gdg, .ref gdu, .int gdn, .ref gdx])), (pl, .inr (3, [.int plw, .int pld, .int plc, .int pls, .long plm, .ref plf, .ref plo, .ref plb, .ref pla]))] s.heap.size = A at hD ⊢
  have hA : ∀ q : Nat, s.heap.size ≤ q → A q := fun q h => by rw [← hAe]; exact Or.inr h
  have hS : va_S A s.heap s.heap [] := va_S.rf
  have hP : va_P (dC, dI) vwCl [(h0, .inr (6, [.ref tp, .int ts, .int fn, .int fp, .ref rd, .ref gd, .ref im, .ref rw, .ref gn, .ref ho, .ref sq])), (gd, .inr (0, [.ref pl, .int gdl, .long gdh, .long gdw, .int gdi, .int gde, .int gdc, .ref gdt, .int gdg, .ref gdu, .int gdn, .ref gdx])), (pl, .inr (3, [.int plw, .int pld, .int plc, .int pls, .long plm, .ref plf, .ref plo, .ref plb, .ref pla]))] s.heap := hP
  have hl := lv_entry ([.ref h0, .int p0]) (n := 2) (Nat.le_of_ble_eq_true rfl)
  rw [lg_entry_eq]
  generalize (lg_sl ([.ref h0, .int p0]) ++ List.replicate (2 - (lg_sl ([.ref h0, .int p0])).length) Slot.unset).toArray = ls at hl ⊢
  have hl : lv_has ls 2 [(0, .ref h0), (1, .int p0)] := hl
  refine lv_iload_n hx hb dX6_isCell_0 rfl (lv_at hl 1 rfl) ?_
  refine lv_if_lt (tgt := 22) hx hb dX6_isCell_1 (by decide) (fun c_1 => ?_) (fun c_1 => ?_)
  · have c_1 : p0.toInt < 0 := i_lt (a := p0) (b := 0) rfl (by decide) c_1
    refine lv_iconst (v := 0) hx hb dX6_isCell_22 (by decide) ?_
    have hP9 := hP.sub (ws' := [(h0, .inr (6, [.ref tp, .int ts, .int fn, .int fp, .ref rd, .ref gd, .ref im, .ref rw, .ref gn, .ref ho, .ref sq])), (gd, .inr (0, [.ref pl, .int gdl, .long gdh, .long gdw, .int gdi, .int gde, .int gdc, .ref gdt, .int gdg, .ref gdu, .int gdn, .ref gdx])), (pl, .inr (3, [.int plw, .int pld, .int plc, .int pls, .long plm, .ref plf, .ref plo, .ref plb, .ref pla]))]) [0, 1, 2] rfl
    have hD9 := hD.sub (ws' := [(h0, .inr (6, [.ref tp, .int ts, .int fn, .int fp, .ref rd, .ref gd, .ref im, .ref rw, .ref gn, .ref ho, .ref sq])), (gd, .inr (0, [.ref pl, .int gdl, .long gdh, .long gdw, .int gdi, .int gde, .int gdc, .ref gdt, .int gdg, .ref gdu, .int gdn, .ref gdx])), (pl, .inr (3, [.int plw, .int pld, .int plc, .int pls, .long plm, .ref plf, .ref plo, .ref plb, .ref pla]))]) [0, 1, 2] (by decide) rfl
    have hK9 := hK.sub (tys' := []) [] rfl
    refine W.widen (k := 0) (n := 0) (by omega) (by omega) ?_
    exact W.zret (v := 0) hx hb hr (by decide) (fun t ht hW => ⟨⟨0, (), rfl, (by first | rfl | ((repeat' split) <;> (first | rfl | (exfalso; omega)))), by rw [ht]; exact hP9, va_K.moved hW.alike hK9, hD9⟩, hS.F ht⟩) hS.2.2 dX6_isCell_23
  · have c_1 : 0 ≤ p0.toInt := i_nlt (a := p0) (b := 0) rfl (by decide) c_1
    refine lv_iload_n hx hb dX6_isCell_4 rfl (lv_at hl 1 rfl) ?_
    refine lv_aload_n hx hb dX6_isCell_5 rfl (lv_at hl 0 rfl) ?_
    refine va_get (D := (dC, dI)) (ci := 6) (v := .ref gd) (C := RX6) (T := TX6) (N := 11) hx hb hts in_X6_isCell_X6 hown hK hP 0 rfl rfl 5 (by decide) (hts _ wd_X6_isCell_0) (fun _ h9 => h9) rfl dX6_isCell_6 ?_
    refine va_get (D := (dC, dI)) (ci := 0) (v := .ref pl) (C := RX0) (T := TX0) (N := 12) hx hb hts in_X6_isCell_X0 hown hK hP 1 rfl rfl 0 (by decide) (hts _ wd_X6_isCell_1) (fun _ h9 => h9) rfl dX6_isCell_9 ?_
    refine va_get (D := (dC, dI)) (ci := 3) (v := .int plc) (C := RX3) (T := TX3) (N := 9) hx hb hts in_X6_isCell_X3 hown hK hP 2 rfl rfl 2 (by decide) (hts _ wd_X6_isCell_2) (fun _ h9 => h9) rfl dX6_isCell_12 ?_
    refine lv_icmp_ge (tgt := 22) hx hb dX6_isCell_15 (by decide) (fun c_2 => ?_) (fun c_2 => ?_)
    · have c_2 : plc.toInt ≤ p0.toInt := i_le (a := plc) (b := p0) rfl rfl c_2
      refine lv_iconst (v := 0) hx hb dX6_isCell_22 (by decide) ?_
      have hP9 := hP.sub (ws' := [(h0, .inr (6, [.ref tp, .int ts, .int fn, .int fp, .ref rd, .ref gd, .ref im, .ref rw, .ref gn, .ref ho, .ref sq])), (gd, .inr (0, [.ref pl, .int gdl, .long gdh, .long gdw, .int gdi, .int gde, .int gdc, .ref gdt, .int gdg, .ref gdu, .int gdn, .ref gdx])), (pl, .inr (3, [.int plw, .int pld, .int plc, .int pls, .long plm, .ref plf, .ref plo, .ref plb, .ref pla]))]) [0, 1, 2] rfl
      have hD9 := hD.sub (ws' := [(h0, .inr (6, [.ref tp, .int ts, .int fn, .int fp, .ref rd, .ref gd, .ref im, .ref rw, .ref gn, .ref ho, .ref sq])), (gd, .inr (0, [.ref pl, .int gdl, .long gdh, .long gdw, .int gdi, .int gde, .int gdc, .ref gdt, .int gdg, .ref gdu, .int gdn, .ref gdx])), (pl, .inr (3, [.int plw, .int pld, .int plc, .int pls, .long plm, .ref plf, .ref plo, .ref plb, .ref pla]))]) [0, 1, 2] (by decide) rfl
      have hK9 := hK.sub (tys' := []) [] rfl
      refine W.widen (k := 0) (n := 0) (by omega) (by omega) ?_
      exact W.zret (v := 0) hx hb hr (by decide) (fun t ht hW => ⟨⟨0, (), rfl, (by first | rfl | ((repeat' split) <;> (first | rfl | (exfalso; omega)))), by rw [ht]; exact hP9, va_K.moved hW.alike hK9, hD9⟩, hS.F ht⟩) hS.2.2 dX6_isCell_23
    · have c_2 : p0.toInt < plc.toInt := i_nle (a := plc) (b := p0) rfl rfl c_2
      refine lv_iconst (v := 1) hx hb dX6_isCell_18 (by decide) ?_
      refine lv_goto (tgt := 23) hx hb dX6_isCell_19 (by decide) ?_
      have hP9 := hP.sub (ws' := [(h0, .inr (6, [.ref tp, .int ts, .int fn, .int fp, .ref rd, .ref gd, .ref im, .ref rw, .ref gn, .ref ho, .ref sq])), (gd, .inr (0, [.ref pl, .int gdl, .long gdh, .long gdw, .int gdi, .int gde, .int gdc, .ref gdt, .int gdg, .ref gdu, .int gdn, .ref gdx])), (pl, .inr (3, [.int plw, .int pld, .int plc, .int pls, .long plm, .ref plf, .ref plo, .ref plb, .ref pla]))]) [0, 1, 2] rfl
      have hD9 := hD.sub (ws' := [(h0, .inr (6, [.ref tp, .int ts, .int fn, .int fp, .ref rd, .ref gd, .ref im, .ref rw, .ref gn, .ref ho, .ref sq])), (gd, .inr (0, [.ref pl, .int gdl, .long gdh, .long gdw, .int gdi, .int gde, .int gdc, .ref gdt, .int gdg, .ref gdu, .int gdn, .ref gdx])), (pl, .inr (3, [.int plw, .int pld, .int plc, .int pls, .long plm, .ref plf, .ref plo, .ref plb, .ref pla]))]) [0, 1, 2] (by decide) rfl
      have hK9 := hK.sub (tys' := []) [] rfl
      refine W.widen (k := 0) (n := 0) (by omega) (by omega) ?_
      exact W.zret (v := 1) hx hb hr (by decide) (fun t ht hW => ⟨⟨1, (), rfl, (by first | rfl | ((repeat' split) <;> (first | rfl | (exfalso; omega)))), by rw [ht]; exact hP9, va_K.moved hW.alike hK9, hD9⟩, hS.F ht⟩) hS.2.2 dX6_isCell_23

theorem dX6_isSide_0 : decode cX6_isSide 0 = .ok (.lload_n 1, 1) := by decide +kernel
theorem dX6_isSide_1 : decode cX6_isSide 1 = .ok (.lconst 0, 1) := by decide +kernel
theorem dX6_isSide_2 : decode cX6_isSide 2 = .ok (.lcmp, 1) := by decide +kernel
theorem dX6_isSide_3 : decode cX6_isSide 3 = .ok (.ifCond .lt 23, 3) := by decide +kernel
theorem dX6_isSide_6 : decode cX6_isSide 6 = .ok (.lload_n 1, 1) := by decide +kernel
theorem dX6_isSide_7 : decode cX6_isSide 7 = .ok (.aload_n 0, 1) := by decide +kernel
theorem dX6_isSide_8 : decode cX6_isSide 8 = .ok (.getfield 33, 3) := by decide +kernel
theorem dX6_isSide_11 : decode cX6_isSide 11 = .ok (.getfield 90, 3) := by decide +kernel
theorem dX6_isSide_14 : decode cX6_isSide 14 = .ok (.getfield 94, 3) := by decide +kernel
theorem dX6_isSide_17 : decode cX6_isSide 17 = .ok (.i2l, 1) := by decide +kernel
theorem dX6_isSide_18 : decode cX6_isSide 18 = .ok (.lcmp, 1) := by decide +kernel
theorem dX6_isSide_19 : decode cX6_isSide 19 = .ok (.ifCond .ge 7, 3) := by decide +kernel
theorem dX6_isSide_22 : decode cX6_isSide 22 = .ok (.iconst 1, 1) := by decide +kernel
theorem dX6_isSide_23 : decode cX6_isSide 23 = .ok (.goto 4, 3) := by decide +kernel
theorem dX6_isSide_26 : decode cX6_isSide 26 = .ok (.iconst 0, 1) := by decide +kernel
theorem dX6_isSide_27 : decode cX6_isSide 27 = .ok (.ireturn, 1) := by decide +kernel
def wz_X6_isSide : List Cond := .code yX6_isSide cX6_isSide 3 (some .boolean) :: ([Cond.fieldLink RX6 33 "HedgeMaze" "garden" "LHedgeMaze$Garden;", Cond.fieldLink RX6 90 "HedgeMaze$Garden" "plan" "LHedgeMaze$Plan;", Cond.fieldLink RX6 94 "HedgeMaze$Plan" "sideCount" "I"] ++ wsX60 ++ wsX00 ++ wsX30)
theorem wd_X6_isSide_0 : Cond.fieldLink RX6 33 "HedgeMaze" "garden" "LHedgeMaze$Garden;" ∈ wz_X6_isSide := List.mem_of_getElem? (i := 1) rfl
theorem wd_X6_isSide_1 : Cond.fieldLink RX6 90 "HedgeMaze$Garden" "plan" "LHedgeMaze$Plan;" ∈ wz_X6_isSide := List.mem_of_getElem? (i := 2) rfl
theorem wd_X6_isSide_2 : Cond.fieldLink RX6 94 "HedgeMaze$Plan" "sideCount" "I" ∈ wz_X6_isSide := List.mem_of_getElem? (i := 3) rfl
theorem in_X6_isSide_X6 : ∀ w ∈ wsX60, w ∈ wz_X6_isSide := fun _ h => List.mem_cons_of_mem _ (List.mem_append_left _ (List.mem_append_left _ (List.mem_append_right _ h)))
theorem in_X6_isSide_X0 : ∀ w ∈ wsX00, w ∈ wz_X6_isSide := fun _ h => List.mem_cons_of_mem _ (List.mem_append_left _ (List.mem_append_right _ h))
theorem in_X6_isSide_X3 : ∀ w ∈ wsX30, w ∈ wz_X6_isSide := fun _ h => List.mem_cons_of_mem _ (List.mem_append_right _ h)
set_option maxHeartbeats 4000000 in
set_option maxRecDepth 100000 in
theorem c_X6_isSide (l : Launch) (dC : Nat → ClassId) (dI : Nat → Nat → Nat) (sz : Nat) (h0 : Nat) (tp : Nat) (ts : Int32) (fn : Int32) (fp : Int32) (rd : Nat) (gd : Nat) (im : Nat) (rw : Nat) (gn : Nat) (ho : Nat) (sq : Nat) (gdl : Int32) (gdh : Int64) (gdw : Int64) (gdi : Int32) (gde : Int32) (gdc : Int32) (gdt : Nat) (gdg : Int32) (gdu : Nat) (gdn : Int32) (gdx : Nat) (pl : Nat) (plw : Int32) (pld : Int32) (plc : Int32) (pls : Int32) (plm : Int64) (plf : Nat) (plo : Nat) (plb : Nat) (pla : Nat) (p0 : Int64) (zv : Int) (hv : p0.toInt = zv) : Met l yX6_isSide wz_X6_isSide ({ frames := 0, cells := 0, slots := 0, locals := 0 }) (va_Pc [.ref h0, .long p0] (fun U => U.heap.size = sz ∧ va_P (dC, dI) vwCl [(h0, .inr (6, [.ref tp, .int ts, .int fn, .int fp, .ref rd, .ref gd, .ref im, .ref rw, .ref gn, .ref ho, .ref sq])), (gd, .inr (0, [.ref pl, .int gdl, .long gdh, .long gdw, .int gdi, .int gde, .int gdc, .ref gdt, .int gdg, .ref gdu, .int gdn, .ref gdx])), (pl, .inr (3, [.int plw, .int pld, .int plc, .int pls, .long plm, .ref plf, .ref plo, .ref plb, .ref pla]))] U.heap ∧ va_K (dC, dI) vwCl [] U ∧ va_D (fun _ => True) [(h0, .inr (6, [.ref tp, .int ts, .int fn, .int fp, .ref rd, .ref gd, .ref im, .ref rw, .ref gn, .ref ho, .ref sq])), (gd, .inr (0, [.ref pl, .int gdl, .long gdh, .long gdw, .int gdi, .int gde, .int gdc, .ref gdt, .int gdg, .ref gdu, .int gdn, .ref gdx])), (pl, .inr (3, [.int plw, .int pld, .int plc, .int pls, .long plm, .ref plf, .ref plo, .ref plb, .ref pla]))])) (va_Qi (fun (r : Int32) (u : Unit) => r = if 0 ≤ zv ∧ zv < pls.toInt then 1 else 0) (fun (u : Unit) (t : State) => va_P (dC, dI) vwCl [(h0, .inr (6, [.ref tp, .int ts, .int fn, .int fp, .ref rd, .ref gd, .ref im, .ref rw, .ref gn, .ref ho, .ref sq])), (gd, .inr (0, [.ref pl, .int gdl, .long gdh, .long gdw, .int gdi, .int gde, .int gdc, .ref gdt, .int gdg, .ref gdu, .int gdn, .ref gdx])), (pl, .inr (3, [.int plw, .int pld, .int plc, .int pls, .long plm, .ref plf, .ref plo, .ref plb, .ref pla]))] t.heap ∧ va_K (dC, dI) vwCl [] t ∧ va_D (va_A [(h0, .inr (6, [.ref tp, .int ts, .int fn, .int fp, .ref rd, .ref gd, .ref im, .ref rw, .ref gn, .ref ho, .ref sq])), (gd, .inr (0, [.ref pl, .int gdl, .long gdh, .long gdw, .int gdi, .int gde, .int gdc, .ref gdt, .int gdg, .ref gdu, .int gdn, .ref gdx])), (pl, .inr (3, [.int plw, .int pld, .int plc, .int pls, .long plm, .ref plf, .ref plo, .ref plb, .ref pla]))] sz) [(h0, .inr (6, [.ref tp, .int ts, .int fn, .int fp, .ref rd, .ref gd, .ref im, .ref rw, .ref gn, .ref ho, .ref sq])), (gd, .inr (0, [.ref pl, .int gdl, .long gdh, .long gdw, .int gdi, .int gde, .int gdc, .ref gdt, .int gdg, .ref gdu, .int gdn, .ref gdx])), (pl, .inr (3, [.int plw, .int pld, .int plc, .int pls, .long plm, .ref plf, .ref plo, .ref plb, .ref pla]))]) (va_A [(h0, .inr (6, [.ref tp, .int ts, .int fn, .int fp, .ref rd, .ref gd, .ref im, .ref rw, .ref gn, .ref ho, .ref sq])), (gd, .inr (0, [.ref pl, .int gdl, .long gdh, .long gdw, .int gdi, .int gde, .int gdc, .ref gdt, .int gdg, .ref gdu, .int gdn, .ref gdx])), (pl, .inr (3, [.int plw, .int pld, .int plc, .int pls, .long plm, .ref plf, .ref plo, .ref plb, .ref pla]))] sz)) 0 0 (va_A [(h0, .inr (6, [.ref tp, .int ts, .int fn, .int fp, .ref rd, .ref gd, .ref im, .ref rw, .ref gn, .ref ho, .ref sq])), (gd, .inr (0, [.ref pl, .int gdl, .long gdh, .long gdw, .int gdi, .int gde, .int gdc, .ref gdt, .int gdg, .ref gdu, .int gdn, .ref gdx])), (pl, .inr (3, [.int plw, .int pld, .int plc, .int pls, .long plm, .ref plf, .ref plo, .ref plb, .ref pla]))] sz) := by
  refine Met.ofW (cc := cX6_isSide) (maxL := 3) (ret := (some .boolean)) (by decide) rfl ?_
  intro p e s m args below meth c s₁ B hml hv
  obtain ⟨rfl, hsz, hP, hK, hD0⟩ := hv
  have hx := B.exec
  have hb := B.bytes
  have hr := B.returns
  have hts := atoms_spec (ws := wz_X6_isSide) B.pre
  have hown : s.vm.findClass RX6 = some m.cls := findClass_of_methodNamed B.named
  have hlocks := B.notSynchronized
  subst hsz
  have hD := hD0.self (sz := s.heap.size)
  generalize hAe : va_A [(h0, .inr (6, [.ref tp, .int ts, .int fn, .int fp, .ref rd, .ref gd, .ref im, .ref rw, .ref gn, .ref ho, .ref sq])), (gd, .inr (0, [.ref pl, .int gdl, .long gdh, .long gdw, .int gdi, .int gde, .int gdc, .ref gdt, .int gdg, .ref gdu, .int gdn, .ref gdx])), (pl, .inr (3, [.int plw, .int pld, .int plc, .int pls, .long plm, .ref plf, .ref plo, .ref plb, .ref pla]))] s.heap.size = A at hD ⊢
  have hA : ∀ q : Nat, s.heap.size ≤ q → A q := fun q h => by rw [← hAe]; exact Or.inr h
  have hS : va_S A s.heap s.heap [] := va_S.rf
  have hP : va_P (dC, dI) vwCl [(h0, .inr (6, [.ref tp, .int ts, .int fn, .int fp, .ref rd, .ref gd, .ref im, .ref rw, .ref gn, .ref ho, .ref sq])), (gd, .inr (0, [.ref pl, .int gdl, .long gdh, .long gdw, .int gdi, .int gde, .int gdc, .ref gdt, .int gdg, .ref gdu, .int gdn, .ref gdx])), (pl, .inr (3, [.int plw, .int pld, .int plc, .int pls, .long plm, .ref plf, .ref plo, .ref plb, .ref pla]))] s.heap := hP
  have hl := lv_entry ([.ref h0, .long p0]) (n := 3) (Nat.le_of_ble_eq_true rfl)
  rw [lg_entry_eq]
  generalize (lg_sl ([.ref h0, .long p0]) ++ List.replicate (3 - (lg_sl ([.ref h0, .long p0])).length) Slot.unset).toArray = ls at hl ⊢
  have hl : lv_has ls 3 [(0, .ref h0), (1, .long p0)] := hl
  refine lv_lload_n hx hb dX6_isSide_0 rfl (lv_at hl 1 rfl) ?_
  refine lv_lconst (v := 0) hx hb dX6_isSide_1 (by decide) ?_
  refine W.lcmp hx hb dX6_isSide_2 ?_
  refine lv_if_lt (tgt := 26) hx hb dX6_isSide_3 (by decide) (fun c_1 => ?_) (fun c_1 => ?_)
  · have c_1 := (lg_cmp_lt p0 0).mp c_1
    have c_1 : zv < 0 := i_ltL (a := p0) (b := 0) hv (by decide) c_1
    refine lv_iconst (v := 0) hx hb dX6_isSide_26 (by decide) ?_
    have hP9 := hP.sub (ws' := [(h0, .inr (6, [.ref tp, .int ts, .int fn, .int fp, .ref rd, .ref gd, .ref im, .ref rw, .ref gn, .ref ho, .ref sq])), (gd, .inr (0, [.ref pl, .int gdl, .long gdh, .long gdw, .int gdi, .int gde, .int gdc, .ref gdt, .int gdg, .ref gdu, .int gdn, .ref gdx])), (pl, .inr (3, [.int plw, .int pld, .int plc, .int pls, .long plm, .ref plf, .ref plo, .ref plb, .ref pla]))]) [0, 1, 2] rfl
    have hD9 := hD.sub (ws' := [(h0, .inr (6, [.ref tp, .int ts, .int fn, .int fp, .ref rd, .ref gd, .ref im, .ref rw, .ref gn, .ref ho, .ref sq])), (gd, .inr (0, [.ref pl, .int gdl, .long gdh, .long gdw, .int gdi, .int gde, .int gdc, .ref gdt, .int gdg, .ref gdu, .int gdn, .ref gdx])), (pl, .inr (3, [.int plw, .int pld, .int plc, .int pls, .long plm, .ref plf, .ref plo, .ref plb, .ref pla]))]) [0, 1, 2] (by decide) rfl
    have hK9 := hK.sub (tys' := []) [] rfl
    refine W.widen (k := 0) (n := 0) (by omega) (by omega) ?_
    exact W.zret (v := 0) hx hb hr (by decide) (fun t ht hW => ⟨⟨0, (), rfl, (by first | rfl | ((repeat' split) <;> (first | rfl | (exfalso; omega)))), by rw [ht]; exact hP9, va_K.moved hW.alike hK9, hD9⟩, hS.F ht⟩) hS.2.2 dX6_isSide_27
  · have c_1 := fun h => c_1 ((lg_cmp_lt p0 0).mpr h)
    have c_1 : 0 ≤ zv := i_nltL (a := p0) (b := 0) hv (by decide) c_1
    refine lv_lload_n hx hb dX6_isSide_6 rfl (lv_at hl 1 rfl) ?_
    refine lv_aload_n hx hb dX6_isSide_7 rfl (lv_at hl 0 rfl) ?_
    refine va_get (D := (dC, dI)) (ci := 6) (v := .ref gd) (C := RX6) (T := TX6) (N := 11) hx hb hts in_X6_isSide_X6 hown hK hP 0 rfl rfl 5 (by decide) (hts _ wd_X6_isSide_0) (fun _ h9 => h9) rfl dX6_isSide_8 ?_
    refine va_get (D := (dC, dI)) (ci := 0) (v := .ref pl) (C := RX0) (T := TX0) (N := 12) hx hb hts in_X6_isSide_X0 hown hK hP 1 rfl rfl 0 (by decide) (hts _ wd_X6_isSide_1) (fun _ h9 => h9) rfl dX6_isSide_11 ?_
    refine va_get (D := (dC, dI)) (ci := 3) (v := .int pls) (C := RX3) (T := TX3) (N := 9) hx hb hts in_X6_isSide_X3 hown hK hP 2 rfl rfl 3 (by decide) (hts _ wd_X6_isSide_2) (fun _ h9 => h9) rfl dX6_isSide_14 ?_
    refine lv_i2l (v := pls.toInt64) hx hb dX6_isSide_17 rfl ?_
    refine W.lcmp hx hb dX6_isSide_18 ?_
    refine lv_if_ge (tgt := 26) hx hb dX6_isSide_19 (by decide) (fun c_2 => ?_) (fun c_2 => ?_)
    · have c_2 := (lg_cmp_ge p0 pls.toInt64).mp c_2
      have c_2 : pls.toInt ≤ zv := i_leL (a := pls.toInt64) (b := p0) (i_wide rfl) hv c_2
      refine lv_iconst (v := 0) hx hb dX6_isSide_26 (by decide) ?_
      have hP9 := hP.sub (ws' := [(h0, .inr (6, [.ref tp, .int ts, .int fn, .int fp, .ref rd, .ref gd, .ref im, .ref rw, .ref gn, .ref ho, .ref sq])), (gd, .inr (0, [.ref pl, .int gdl, .long gdh, .long gdw, .int gdi, .int gde, .int gdc, .ref gdt, .int gdg, .ref gdu, .int gdn, .ref gdx])), (pl, .inr (3, [.int plw, .int pld, .int plc, .int pls, .long plm, .ref plf, .ref plo, .ref plb, .ref pla]))]) [0, 1, 2] rfl
      have hD9 := hD.sub (ws' := [(h0, .inr (6, [.ref tp, .int ts, .int fn, .int fp, .ref rd, .ref gd, .ref im, .ref rw, .ref gn, .ref ho, .ref sq])), (gd, .inr (0, [.ref pl, .int gdl, .long gdh, .long gdw, .int gdi, .int gde, .int gdc, .ref gdt, .int gdg, .ref gdu, .int gdn, .ref gdx])), (pl, .inr (3, [.int plw, .int pld, .int plc, .int pls, .long plm, .ref plf, .ref plo, .ref plb, .ref pla]))]) [0, 1, 2] (by decide) rfl
      have hK9 := hK.sub (tys' := []) [] rfl
      refine W.widen (k := 0) (n := 0) (by omega) (by omega) ?_
      exact W.zret (v := 0) hx hb hr (by decide) (fun t ht hW => ⟨⟨0, (), rfl, (by first | rfl | ((repeat' split) <;> (first | rfl | (exfalso; omega)))), by rw [ht]; exact hP9, va_K.moved hW.alike hK9, hD9⟩, hS.F ht⟩) hS.2.2 dX6_isSide_27
    · have c_2 := fun h => c_2 ((lg_cmp_ge p0 pls.toInt64).mpr h)
      have c_2 : zv < pls.toInt := i_nleL (a := pls.toInt64) (b := p0) (i_wide rfl) hv c_2
      refine lv_iconst (v := 1) hx hb dX6_isSide_22 (by decide) ?_
      refine lv_goto (tgt := 27) hx hb dX6_isSide_23 (by decide) ?_
      have hP9 := hP.sub (ws' := [(h0, .inr (6, [.ref tp, .int ts, .int fn, .int fp, .ref rd, .ref gd, .ref im, .ref rw, .ref gn, .ref ho, .ref sq])), (gd, .inr (0, [.ref pl, .int gdl, .long gdh, .long gdw, .int gdi, .int gde, .int gdc, .ref gdt, .int gdg, .ref gdu, .int gdn, .ref gdx])), (pl, .inr (3, [.int plw, .int pld, .int plc, .int pls, .long plm, .ref plf, .ref plo, .ref plb, .ref pla]))]) [0, 1, 2] rfl
      have hD9 := hD.sub (ws' := [(h0, .inr (6, [.ref tp, .int ts, .int fn, .int fp, .ref rd, .ref gd, .ref im, .ref rw, .ref gn, .ref ho, .ref sq])), (gd, .inr (0, [.ref pl, .int gdl, .long gdh, .long gdw, .int gdi, .int gde, .int gdc, .ref gdt, .int gdg, .ref gdu, .int gdn, .ref gdx])), (pl, .inr (3, [.int plw, .int pld, .int plc, .int pls, .long plm, .ref plf, .ref plo, .ref plb, .ref pla]))]) [0, 1, 2] (by decide) rfl
      have hK9 := hK.sub (tys' := []) [] rfl
      refine W.widen (k := 0) (n := 0) (by omega) (by omega) ?_
      exact W.zret (v := 1) hx hb hr (by decide) (fun t ht hW => ⟨⟨1, (), rfl, (by first | rfl | ((repeat' split) <;> (first | rfl | (exfalso; omega)))), by rw [ht]; exact hP9, va_K.moved hW.alike hK9, hD9⟩, hS.F ht⟩) hS.2.2 dX6_isSide_27

theorem dX6_isGuest_0 : decode cX6_isGuest 0 = .ok (.iload_n 1, 1) := by decide +kernel
theorem dX6_isGuest_1 : decode cX6_isGuest 1 = .ok (.ifCond .lt 18, 3) := by decide +kernel
theorem dX6_isGuest_4 : decode cX6_isGuest 4 = .ok (.iload_n 1, 1) := by decide +kernel
theorem dX6_isGuest_5 : decode cX6_isGuest 5 = .ok (.aload_n 0, 1) := by decide +kernel
theorem dX6_isGuest_6 : decode cX6_isGuest 6 = .ok (.getfield 33, 3) := by decide +kernel
theorem dX6_isGuest_9 : decode cX6_isGuest 9 = .ok (.getfield 258, 3) := by decide +kernel
theorem dX6_isGuest_12 : decode cX6_isGuest 12 = .ok (.if_icmp .ge 7, 3) := by decide +kernel
theorem dX6_isGuest_15 : decode cX6_isGuest 15 = .ok (.iconst 1, 1) := by decide +kernel
theorem dX6_isGuest_16 : decode cX6_isGuest 16 = .ok (.goto 4, 3) := by decide +kernel
theorem dX6_isGuest_19 : decode cX6_isGuest 19 = .ok (.iconst 0, 1) := by decide +kernel
theorem dX6_isGuest_20 : decode cX6_isGuest 20 = .ok (.ireturn, 1) := by decide +kernel
def wz_X6_isGuest : List Cond := .code yX6_isGuest cX6_isGuest 2 (some .boolean) :: ([Cond.fieldLink RX6 33 "HedgeMaze" "garden" "LHedgeMaze$Garden;", Cond.fieldLink RX6 258 "HedgeMaze$Garden" "guestCount" "I"] ++ wsX60 ++ wsX00)
theorem wd_X6_isGuest_0 : Cond.fieldLink RX6 33 "HedgeMaze" "garden" "LHedgeMaze$Garden;" ∈ wz_X6_isGuest := List.mem_of_getElem? (i := 1) rfl
theorem wd_X6_isGuest_1 : Cond.fieldLink RX6 258 "HedgeMaze$Garden" "guestCount" "I" ∈ wz_X6_isGuest := List.mem_of_getElem? (i := 2) rfl
theorem in_X6_isGuest_X6 : ∀ w ∈ wsX60, w ∈ wz_X6_isGuest := fun _ h => List.mem_cons_of_mem _ (List.mem_append_left _ (List.mem_append_right _ h))
theorem in_X6_isGuest_X0 : ∀ w ∈ wsX00, w ∈ wz_X6_isGuest := fun _ h => List.mem_cons_of_mem _ (List.mem_append_right _ h)
set_option maxHeartbeats 4000000 in
set_option maxRecDepth 100000 in
theorem c_X6_isGuest (l : Launch) (dC : Nat → ClassId) (dI : Nat → Nat → Nat) (sz : Nat) (h0 : Nat) (tp : Nat) (ts : Int32) (fn : Int32) (fp : Int32) (rd : Nat) (gd : Nat) (im : Nat) (rw : Nat) (gn : Nat) (ho : Nat) (sq : Nat) (gdl : Int32) (gdh : Int64) (gdw : Int64) (gdi : Int32) (gde : Int32) (gdc : Int32) (gdt : Nat) (gdg : Int32) (gdu : Nat) (gdn : Int32) (gdx : Nat) (pl : Nat) (p0 : Int32)  : Met l yX6_isGuest wz_X6_isGuest ({ frames := 0, cells := 0, slots := 0, locals := 0 }) (va_Pc [.ref h0, .int p0] (fun U => U.heap.size = sz ∧ va_P (dC, dI) vwCl [(h0, .inr (6, [.ref tp, .int ts, .int fn, .int fp, .ref rd, .ref gd, .ref im, .ref rw, .ref gn, .ref ho, .ref sq])), (gd, .inr (0, [.ref pl, .int gdl, .long gdh, .long gdw, .int gdi, .int gde, .int gdc, .ref gdt, .int gdg, .ref gdu, .int gdn, .ref gdx]))] U.heap ∧ va_K (dC, dI) vwCl [] U ∧ va_D (fun _ => True) [(h0, .inr (6, [.ref tp, .int ts, .int fn, .int fp, .ref rd, .ref gd, .ref im, .ref rw, .ref gn, .ref ho, .ref sq])), (gd, .inr (0, [.ref pl, .int gdl, .long gdh, .long gdw, .int gdi, .int gde, .int gdc, .ref gdt, .int gdg, .ref gdu, .int gdn, .ref gdx]))])) (va_Qi (fun (r : Int32) (u : Unit) => r = if 0 ≤ p0.toInt ∧ p0.toInt < gdg.toInt then 1 else 0) (fun (u : Unit) (t : State) => va_P (dC, dI) vwCl [(h0, .inr (6, [.ref tp, .int ts, .int fn, .int fp, .ref rd, .ref gd, .ref im, .ref rw, .ref gn, .ref ho, .ref sq])), (gd, .inr (0, [.ref pl, .int gdl, .long gdh, .long gdw, .int gdi, .int gde, .int gdc, .ref gdt, .int gdg, .ref gdu, .int gdn, .ref gdx]))] t.heap ∧ va_K (dC, dI) vwCl [] t ∧ va_D (va_A [(h0, .inr (6, [.ref tp, .int ts, .int fn, .int fp, .ref rd, .ref gd, .ref im, .ref rw, .ref gn, .ref ho, .ref sq])), (gd, .inr (0, [.ref pl, .int gdl, .long gdh, .long gdw, .int gdi, .int gde, .int gdc, .ref gdt, .int gdg, .ref gdu, .int gdn, .ref gdx]))] sz) [(h0, .inr (6, [.ref tp, .int ts, .int fn, .int fp, .ref rd, .ref gd, .ref im, .ref rw, .ref gn, .ref ho, .ref sq])), (gd, .inr (0, [.ref pl, .int gdl, .long gdh, .long gdw, .int gdi, .int gde, .int gdc, .ref gdt, .int gdg, .ref gdu, .int gdn, .ref gdx]))]) (va_A [(h0, .inr (6, [.ref tp, .int ts, .int fn, .int fp, .ref rd, .ref gd, .ref im, .ref rw, .ref gn, .ref ho, .ref sq])), (gd, .inr (0, [.ref pl, .int gdl, .long gdh, .long gdw, .int gdi, .int gde, .int gdc, .ref gdt, .int gdg, .ref gdu, .int gdn, .ref gdx]))] sz)) 0 0 (va_A [(h0, .inr (6, [.ref tp, .int ts, .int fn, .int fp, .ref rd, .ref gd, .ref im, .ref rw, .ref gn, .ref ho, .ref sq])), (gd, .inr (0, [.ref pl, .int gdl, .long gdh, .long gdw, .int gdi, .int gde, .int gdc, .ref gdt, .int gdg, .ref gdu, .int gdn, .ref gdx]))] sz) := by
  refine Met.ofW (cc := cX6_isGuest) (maxL := 2) (ret := (some .boolean)) (by decide) rfl ?_
  intro p e s m args below meth c s₁ B hml hv
  obtain ⟨rfl, hsz, hP, hK, hD0⟩ := hv
  have hx := B.exec
  have hb := B.bytes
  have hr := B.returns
  have hts := atoms_spec (ws := wz_X6_isGuest) B.pre
  have hown : s.vm.findClass RX6 = some m.cls := findClass_of_methodNamed B.named
  have hlocks := B.notSynchronized
  subst hsz
  have hD := hD0.self (sz := s.heap.size)
  generalize hAe : va_A [(h0, .inr (6, [.ref tp, .int ts, .int fn, .int fp, .ref rd, .ref gd, .ref im, .ref rw, .ref gn, .ref ho, .ref sq])), (gd, .inr (0, [.ref pl, .int gdl, .long gdh, .long gdw, .int gdi, .int gde, .int gdc, .ref gdt, .int gdg, .ref gdu, .int gdn, .ref gdx]))] s.heap.size = A at hD ⊢
  have hA : ∀ q : Nat, s.heap.size ≤ q → A q := fun q h => by rw [← hAe]; exact Or.inr h
  have hS : va_S A s.heap s.heap [] := va_S.rf
  have hP : va_P (dC, dI) vwCl [(h0, .inr (6, [.ref tp, .int ts, .int fn, .int fp, .ref rd, .ref gd, .ref im, .ref rw, .ref gn, .ref ho, .ref sq])), (gd, .inr (0, [.ref pl, .int gdl, .long gdh, .long gdw, .int gdi, .int gde, .int gdc, .ref gdt, .int gdg, .ref gdu, .int gdn, .ref gdx]))] s.heap := hP
  have hl := lv_entry ([.ref h0, .int p0]) (n := 2) (Nat.le_of_ble_eq_true rfl)
  rw [lg_entry_eq]
  generalize (lg_sl ([.ref h0, .int p0]) ++ List.replicate (2 - (lg_sl ([.ref h0, .int p0])).length) Slot.unset).toArray = ls at hl ⊢
  have hl : lv_has ls 2 [(0, .ref h0), (1, .int p0)] := hl
  refine lv_iload_n hx hb dX6_isGuest_0 rfl (lv_at hl 1 rfl) ?_
  refine lv_if_lt (tgt := 19) hx hb dX6_isGuest_1 (by decide) (fun c_1 => ?_) (fun c_1 => ?_)
  · have c_1 : p0.toInt < 0 := i_lt (a := p0) (b := 0) rfl (by decide) c_1
    refine lv_iconst (v := 0) hx hb dX6_isGuest_19 (by decide) ?_
    have hP9 := hP.sub (ws' := [(h0, .inr (6, [.ref tp, .int ts, .int fn, .int fp, .ref rd, .ref gd, .ref im, .ref rw, .ref gn, .ref ho, .ref sq])), (gd, .inr (0, [.ref pl, .int gdl, .long gdh, .long gdw, .int gdi, .int gde, .int gdc, .ref gdt, .int gdg, .ref gdu, .int gdn, .ref gdx]))]) [0, 1] rfl
    have hD9 := hD.sub (ws' := [(h0, .inr (6, [.ref tp, .int ts, .int fn, .int fp, .ref rd, .ref gd, .ref im, .ref rw, .ref gn, .ref ho, .ref sq])), (gd, .inr (0, [.ref pl, .int gdl, .long gdh, .long gdw, .int gdi, .int gde, .int gdc, .ref gdt, .int gdg, .ref gdu, .int gdn, .ref gdx]))]) [0, 1] (by decide) rfl
    have hK9 := hK.sub (tys' := []) [] rfl
    refine W.widen (k := 0) (n := 0) (by omega) (by omega) ?_
    exact W.zret (v := 0) hx hb hr (by decide) (fun t ht hW => ⟨⟨0, (), rfl, (by first | rfl | ((repeat' split) <;> (first | rfl | (exfalso; omega)))), by rw [ht]; exact hP9, va_K.moved hW.alike hK9, hD9⟩, hS.F ht⟩) hS.2.2 dX6_isGuest_20
  · have c_1 : 0 ≤ p0.toInt := i_nlt (a := p0) (b := 0) rfl (by decide) c_1
    refine lv_iload_n hx hb dX6_isGuest_4 rfl (lv_at hl 1 rfl) ?_
    refine lv_aload_n hx hb dX6_isGuest_5 rfl (lv_at hl 0 rfl) ?_
    refine va_get (D := (dC, dI)) (ci := 6) (v := .ref gd) (C := RX6) (T := TX6) (N := 11) hx hb hts in_X6_isGuest_X6 hown hK hP 0 rfl rfl 5 (by decide) (hts _ wd_X6_isGuest_0) (fun _ h9 => h9) rfl dX6_isGuest_6 ?_
    refine va_get (D := (dC, dI)) (ci := 0) (v := .int gdg) (C := RX0) (T := TX0) (N := 12) hx hb hts in_X6_isGuest_X0 hown hK hP 1 rfl rfl 8 (by decide) (hts _ wd_X6_isGuest_1) (fun _ h9 => h9) rfl dX6_isGuest_9 ?_
    refine lv_icmp_ge (tgt := 19) hx hb dX6_isGuest_12 (by decide) (fun c_2 => ?_) (fun c_2 => ?_)
    · have c_2 : gdg.toInt ≤ p0.toInt := i_le (a := gdg) (b := p0) rfl rfl c_2
      refine lv_iconst (v := 0) hx hb dX6_isGuest_19 (by decide) ?_
      have hP9 := hP.sub (ws' := [(h0, .inr (6, [.ref tp, .int ts, .int fn, .int fp, .ref rd, .ref gd, .ref im, .ref rw, .ref gn, .ref ho, .ref sq])), (gd, .inr (0, [.ref pl, .int gdl, .long gdh, .long gdw, .int gdi, .int gde, .int gdc, .ref gdt, .int gdg, .ref gdu, .int gdn, .ref gdx]))]) [0, 1] rfl
      have hD9 := hD.sub (ws' := [(h0, .inr (6, [.ref tp, .int ts, .int fn, .int fp, .ref rd, .ref gd, .ref im, .ref rw, .ref gn, .ref ho, .ref sq])), (gd, .inr (0, [.ref pl, .int gdl, .long gdh, .long gdw, .int gdi, .int gde, .int gdc, .ref gdt, .int gdg, .ref gdu, .int gdn, .ref gdx]))]) [0, 1] (by decide) rfl
      have hK9 := hK.sub (tys' := []) [] rfl
      refine W.widen (k := 0) (n := 0) (by omega) (by omega) ?_
      exact W.zret (v := 0) hx hb hr (by decide) (fun t ht hW => ⟨⟨0, (), rfl, (by first | rfl | ((repeat' split) <;> (first | rfl | (exfalso; omega)))), by rw [ht]; exact hP9, va_K.moved hW.alike hK9, hD9⟩, hS.F ht⟩) hS.2.2 dX6_isGuest_20
    · have c_2 : p0.toInt < gdg.toInt := i_nle (a := gdg) (b := p0) rfl rfl c_2
      refine lv_iconst (v := 1) hx hb dX6_isGuest_15 (by decide) ?_
      refine lv_goto (tgt := 20) hx hb dX6_isGuest_16 (by decide) ?_
      have hP9 := hP.sub (ws' := [(h0, .inr (6, [.ref tp, .int ts, .int fn, .int fp, .ref rd, .ref gd, .ref im, .ref rw, .ref gn, .ref ho, .ref sq])), (gd, .inr (0, [.ref pl, .int gdl, .long gdh, .long gdw, .int gdi, .int gde, .int gdc, .ref gdt, .int gdg, .ref gdu, .int gdn, .ref gdx]))]) [0, 1] rfl
      have hD9 := hD.sub (ws' := [(h0, .inr (6, [.ref tp, .int ts, .int fn, .int fp, .ref rd, .ref gd, .ref im, .ref rw, .ref gn, .ref ho, .ref sq])), (gd, .inr (0, [.ref pl, .int gdl, .long gdh, .long gdw, .int gdi, .int gde, .int gdc, .ref gdt, .int gdg, .ref gdu, .int gdn, .ref gdx]))]) [0, 1] (by decide) rfl
      have hK9 := hK.sub (tys' := []) [] rfl
      refine W.widen (k := 0) (n := 0) (by omega) (by omega) ?_
      exact W.zret (v := 1) hx hb hr (by decide) (fun t ht hW => ⟨⟨1, (), rfl, (by first | rfl | ((repeat' split) <;> (first | rfl | (exfalso; omega)))), by rw [ht]; exact hP9, va_K.moved hW.alike hK9, hD9⟩, hS.F ht⟩) hS.2.2 dX6_isGuest_20

theorem dX6_isSlot_0 : decode cX6_isSlot 0 = .ok (.iload_n 0, 1) := by decide +kernel
theorem dX6_isSlot_1 : decode cX6_isSlot 1 = .ok (.ifCond .lt 12, 3) := by decide +kernel
theorem dX6_isSlot_4 : decode cX6_isSlot 4 = .ok (.iload_n 0, 1) := by decide +kernel
theorem dX6_isSlot_5 : decode cX6_isSlot 5 = .ok (.iconst 4, 1) := by decide +kernel
theorem dX6_isSlot_6 : decode cX6_isSlot 6 = .ok (.if_icmp .ge 7, 3) := by decide +kernel
theorem dX6_isSlot_9 : decode cX6_isSlot 9 = .ok (.iconst 1, 1) := by decide +kernel
theorem dX6_isSlot_10 : decode cX6_isSlot 10 = .ok (.goto 4, 3) := by decide +kernel
theorem dX6_isSlot_13 : decode cX6_isSlot 13 = .ok (.iconst 0, 1) := by decide +kernel
theorem dX6_isSlot_14 : decode cX6_isSlot 14 = .ok (.ireturn, 1) := by decide +kernel
def wz_X6_isSlot : List Cond := .code yX6_isSlot cX6_isSlot 1 (some .boolean) :: ([])
set_option maxHeartbeats 4000000 in
set_option maxRecDepth 100000 in
theorem c_X6_isSlot (l : Launch) (dC : Nat → ClassId) (dI : Nat → Nat → Nat) (sz : Nat) (p0 : Int32)  : Met l yX6_isSlot wz_X6_isSlot ({ frames := 0, cells := 0, slots := 0, locals := 0 }) (va_Pc [.int p0] (fun U => U.heap.size = sz ∧ va_P (dC, dI) vwCl [] U.heap ∧ va_K (dC, dI) vwCl [] U ∧ va_D (fun _ => True) [])) (va_Qi (fun (r : Int32) (u : Unit) => r = if 0 ≤ p0.toInt ∧ p0.toInt ≤ 3 then 1 else 0) (fun (_ : Unit) (_ : State) => True) (va_A [] sz)) 0 0 (va_A [] sz) := by
  refine Met.ofW (cc := cX6_isSlot) (maxL := 1) (ret := (some .boolean)) (by decide) rfl ?_
  intro p e s m args below meth c s₁ B hml hv
  obtain ⟨rfl, hsz, hP, hK, hD0⟩ := hv
  have hx := B.exec
  have hb := B.bytes
  have hr := B.returns
  have hts := atoms_spec (ws := wz_X6_isSlot) B.pre
  have hown : s.vm.findClass RX6 = some m.cls := findClass_of_methodNamed B.named
  have hlocks := B.notSynchronized
  subst hsz
  have hD := hD0.self (sz := s.heap.size)
  generalize hAe : va_A [] s.heap.size = A at hD ⊢
  have hA : ∀ q : Nat, s.heap.size ≤ q → A q := fun q h => by rw [← hAe]; exact Or.inr h
  have hS : va_S A s.heap s.heap [] := va_S.rf
  have hP : va_P (dC, dI) vwCl [] s.heap := hP
  have hl := lv_entry ([.int p0]) (n := 1) (Nat.le_of_ble_eq_true rfl)
  rw [lg_entry_eq]
  generalize (lg_sl ([.int p0]) ++ List.replicate (1 - (lg_sl ([.int p0])).length) Slot.unset).toArray = ls at hl ⊢
  have hl : lv_has ls 1 [(0, .int p0)] := hl
  refine lv_iload_n hx hb dX6_isSlot_0 rfl (lv_at hl 0 rfl) ?_
  refine lv_if_lt (tgt := 13) hx hb dX6_isSlot_1 (by decide) (fun c_1 => ?_) (fun c_1 => ?_)
  · have c_1 : p0.toInt < 0 := i_lt (a := p0) (b := 0) rfl (by decide) c_1
    refine lv_iconst (v := 0) hx hb dX6_isSlot_13 (by decide) ?_
    refine W.widen (k := 0) (n := 0) (by omega) (by omega) ?_
    exact W.zret (v := 0) hx hb hr (by decide) (fun t ht hW => ⟨⟨0, (), rfl, (by first | rfl | ((repeat' split) <;> (first | rfl | (exfalso; omega)))), trivial⟩, hS.F ht⟩) hS.2.2 dX6_isSlot_14
  · have c_1 : 0 ≤ p0.toInt := i_nlt (a := p0) (b := 0) rfl (by decide) c_1
    refine lv_iload_n hx hb dX6_isSlot_4 rfl (lv_at hl 0 rfl) ?_
    refine lv_iconst (v := 4) hx hb dX6_isSlot_5 (by decide) ?_
    refine lv_icmp_ge (tgt := 13) hx hb dX6_isSlot_6 (by decide) (fun c_2 => ?_) (fun c_2 => ?_)
    · have c_2 : 4 ≤ p0.toInt := i_le (a := 4) (b := p0) (by decide) rfl c_2
      refine lv_iconst (v := 0) hx hb dX6_isSlot_13 (by decide) ?_
      refine W.widen (k := 0) (n := 0) (by omega) (by omega) ?_
      exact W.zret (v := 0) hx hb hr (by decide) (fun t ht hW => ⟨⟨0, (), rfl, (by first | rfl | ((repeat' split) <;> (first | rfl | (exfalso; omega)))), trivial⟩, hS.F ht⟩) hS.2.2 dX6_isSlot_14
    · have c_2 : p0.toInt < 4 := i_nle (a := 4) (b := p0) (by decide) rfl c_2
      refine lv_iconst (v := 1) hx hb dX6_isSlot_9 (by decide) ?_
      refine lv_goto (tgt := 14) hx hb dX6_isSlot_10 (by decide) ?_
      refine W.widen (k := 0) (n := 0) (by omega) (by omega) ?_
      exact W.zret (v := 1) hx hb hr (by decide) (fun t ht hW => ⟨⟨1, (), rfl, (by first | rfl | ((repeat' split) <;> (first | rfl | (exfalso; omega)))), trivial⟩, hS.F ht⟩) hS.2.2 dX6_isSlot_14

theorem dX6_areDays_0 : decode cX6_areDays 0 = .ok (.iload_n 0, 1) := by decide +kernel
theorem dX6_areDays_1 : decode cX6_areDays 1 = .ok (.iconst 1, 1) := by decide +kernel
theorem dX6_areDays_2 : decode cX6_areDays 2 = .ok (.if_icmp .lt 23, 3) := by decide +kernel
theorem dX6_areDays_5 : decode cX6_areDays 5 = .ok (.iload_n 0, 1) := by decide +kernel
theorem dX6_areDays_6 : decode cX6_areDays 6 = .ok (.bipush 99, 2) := by decide +kernel
theorem dX6_areDays_8 : decode cX6_areDays 8 = .ok (.if_icmp .gt 17, 3) := by decide +kernel
theorem dX6_areDays_11 : decode cX6_areDays 11 = .ok (.iload_n 1, 1) := by decide +kernel
theorem dX6_areDays_12 : decode cX6_areDays 12 = .ok (.iconst 1, 1) := by decide +kernel
theorem dX6_areDays_13 : decode cX6_areDays 13 = .ok (.if_icmp .lt 12, 3) := by decide +kernel
theorem dX6_areDays_16 : decode cX6_areDays 16 = .ok (.iload_n 1, 1) := by decide +kernel
theorem dX6_areDays_17 : decode cX6_areDays 17 = .ok (.iconst 3, 1) := by decide +kernel
theorem dX6_areDays_18 : decode cX6_areDays 18 = .ok (.if_icmp .gt 7, 3) := by decide +kernel
theorem dX6_areDays_21 : decode cX6_areDays 21 = .ok (.iconst 1, 1) := by decide +kernel
theorem dX6_areDays_22 : decode cX6_areDays 22 = .ok (.goto 4, 3) := by decide +kernel
theorem dX6_areDays_25 : decode cX6_areDays 25 = .ok (.iconst 0, 1) := by decide +kernel
theorem dX6_areDays_26 : decode cX6_areDays 26 = .ok (.ireturn, 1) := by decide +kernel
def wz_X6_areDays : List Cond := .code yX6_areDays cX6_areDays 2 (some .boolean) :: ([])
set_option maxHeartbeats 4000000 in
set_option maxRecDepth 100000 in
theorem c_X6_areDays (l : Launch) (dC : Nat → ClassId) (dI : Nat → Nat → Nat) (sz : Nat) (p0 : Int32) (p1 : Int32)  : Met l yX6_areDays wz_X6_areDays ({ frames := 0, cells := 0, slots := 0, locals := 0 }) (va_Pc [.int p0, .int p1] (fun U => U.heap.size = sz ∧ va_P (dC, dI) vwCl [] U.heap ∧ va_K (dC, dI) vwCl [] U ∧ va_D (fun _ => True) [])) (va_Qi (fun (r : Int32) (u : Unit) => r = if 1 ≤ p0.toInt ∧ p0.toInt ≤ 99 ∧ 1 ≤ p1.toInt ∧ p1.toInt ≤ 3 then 1 else 0) (fun (_ : Unit) (_ : State) => True) (va_A [] sz)) 0 0 (va_A [] sz) := by
  refine Met.ofW (cc := cX6_areDays) (maxL := 2) (ret := (some .boolean)) (by decide) rfl ?_
  intro p e s m args below meth c s₁ B hml hv
  obtain ⟨rfl, hsz, hP, hK, hD0⟩ := hv
  have hx := B.exec
  have hb := B.bytes
  have hr := B.returns
  have hts := atoms_spec (ws := wz_X6_areDays) B.pre
  have hown : s.vm.findClass RX6 = some m.cls := findClass_of_methodNamed B.named
  have hlocks := B.notSynchronized
  subst hsz
  have hD := hD0.self (sz := s.heap.size)
  generalize hAe : va_A [] s.heap.size = A at hD ⊢
  have hA : ∀ q : Nat, s.heap.size ≤ q → A q := fun q h => by rw [← hAe]; exact Or.inr h
  have hS : va_S A s.heap s.heap [] := va_S.rf
  have hP : va_P (dC, dI) vwCl [] s.heap := hP
  have hl := lv_entry ([.int p0, .int p1]) (n := 2) (Nat.le_of_ble_eq_true rfl)
  rw [lg_entry_eq]
  generalize (lg_sl ([.int p0, .int p1]) ++ List.replicate (2 - (lg_sl ([.int p0, .int p1])).length) Slot.unset).toArray = ls at hl ⊢
  have hl : lv_has ls 2 [(0, .int p0), (1, .int p1)] := hl
  refine lv_iload_n hx hb dX6_areDays_0 rfl (lv_at hl 0 rfl) ?_
  refine lv_iconst (v := 1) hx hb dX6_areDays_1 (by decide) ?_
  refine lv_icmp_lt (tgt := 25) hx hb dX6_areDays_2 (by decide) (fun c_1 => ?_) (fun c_1 => ?_)
  · have c_1 : p0.toInt < 1 := i_lt (a := p0) (b := 1) rfl (by decide) c_1
    refine lv_iconst (v := 0) hx hb dX6_areDays_25 (by decide) ?_
    refine W.widen (k := 0) (n := 0) (by omega) (by omega) ?_
    exact W.zret (v := 0) hx hb hr (by decide) (fun t ht hW => ⟨⟨0, (), rfl, (by first | rfl | ((repeat' split) <;> (first | rfl | (exfalso; omega)))), trivial⟩, hS.F ht⟩) hS.2.2 dX6_areDays_26
  · have c_1 : 1 ≤ p0.toInt := i_nlt (a := p0) (b := 1) rfl (by decide) c_1
    refine lv_iload_n hx hb dX6_areDays_5 rfl (lv_at hl 0 rfl) ?_
    refine lv_bipush (v := 99) hx hb dX6_areDays_6 (by decide) ?_
    refine lv_icmp_gt (tgt := 25) hx hb dX6_areDays_8 (by decide) (fun c_2 => ?_) (fun c_2 => ?_)
    · have c_2 : 99 < p0.toInt := i_lt (a := 99) (b := p0) (by decide) rfl c_2
      refine lv_iconst (v := 0) hx hb dX6_areDays_25 (by decide) ?_
      refine W.widen (k := 0) (n := 0) (by omega) (by omega) ?_
      exact W.zret (v := 0) hx hb hr (by decide) (fun t ht hW => ⟨⟨0, (), rfl, (by first | rfl | ((repeat' split) <;> (first | rfl | (exfalso; omega)))), trivial⟩, hS.F ht⟩) hS.2.2 dX6_areDays_26
    · have c_2 : p0.toInt ≤ 99 := i_nlt (a := 99) (b := p0) (by decide) rfl c_2
      refine lv_iload_n hx hb dX6_areDays_11 rfl (lv_at hl 1 rfl) ?_
      refine lv_iconst (v := 1) hx hb dX6_areDays_12 (by decide) ?_
      refine lv_icmp_lt (tgt := 25) hx hb dX6_areDays_13 (by decide) (fun c_3 => ?_) (fun c_3 => ?_)
      · have c_3 : p1.toInt < 1 := i_lt (a := p1) (b := 1) rfl (by decide) c_3
        refine lv_iconst (v := 0) hx hb dX6_areDays_25 (by decide) ?_
        refine W.widen (k := 0) (n := 0) (by omega) (by omega) ?_
        exact W.zret (v := 0) hx hb hr (by decide) (fun t ht hW => ⟨⟨0, (), rfl, (by first | rfl | ((repeat' split) <;> (first | rfl | (exfalso; omega)))), trivial⟩, hS.F ht⟩) hS.2.2 dX6_areDays_26
      · have c_3 : 1 ≤ p1.toInt := i_nlt (a := p1) (b := 1) rfl (by decide) c_3
        refine lv_iload_n hx hb dX6_areDays_16 rfl (lv_at hl 1 rfl) ?_
        refine lv_iconst (v := 3) hx hb dX6_areDays_17 (by decide) ?_
        refine lv_icmp_gt (tgt := 25) hx hb dX6_areDays_18 (by decide) (fun c_4 => ?_) (fun c_4 => ?_)
        · have c_4 : 3 < p1.toInt := i_lt (a := 3) (b := p1) (by decide) rfl c_4
          refine lv_iconst (v := 0) hx hb dX6_areDays_25 (by decide) ?_
          refine W.widen (k := 0) (n := 0) (by omega) (by omega) ?_
          exact W.zret (v := 0) hx hb hr (by decide) (fun t ht hW => ⟨⟨0, (), rfl, (by first | rfl | ((repeat' split) <;> (first | rfl | (exfalso; omega)))), trivial⟩, hS.F ht⟩) hS.2.2 dX6_areDays_26
        · have c_4 : p1.toInt ≤ 3 := i_nlt (a := 3) (b := p1) (by decide) rfl c_4
          refine lv_iconst (v := 1) hx hb dX6_areDays_21 (by decide) ?_
          refine lv_goto (tgt := 26) hx hb dX6_areDays_22 (by decide) ?_
          refine W.widen (k := 0) (n := 0) (by omega) (by omega) ?_
          exact W.zret (v := 1) hx hb hr (by decide) (fun t ht hW => ⟨⟨1, (), rfl, (by first | rfl | ((repeat' split) <;> (first | rfl | (exfalso; omega)))), trivial⟩, hS.F ht⟩) hS.2.2 dX6_areDays_26

theorem dX6_areDraws_0 : decode cX6_areDraws 0 = .ok (.iload_n 0, 1) := by decide +kernel
theorem dX6_areDraws_1 : decode cX6_areDraws 1 = .ok (.ifCond .lt 24, 3) := by decide +kernel
theorem dX6_areDraws_4 : decode cX6_areDraws 4 = .ok (.iload_n 0, 1) := by decide +kernel
theorem dX6_areDraws_5 : decode cX6_areDraws 5 = .ok (.ldc_w 325, 3) := by decide +kernel
theorem dX6_areDraws_8 : decode cX6_areDraws 8 = .ok (.if_icmp .gt 17, 3) := by decide +kernel
theorem dX6_areDraws_11 : decode cX6_areDraws 11 = .ok (.iload_n 1, 1) := by decide +kernel
theorem dX6_areDraws_12 : decode cX6_areDraws 12 = .ok (.ifCond .lt 13, 3) := by decide +kernel
theorem dX6_areDraws_15 : decode cX6_areDraws 15 = .ok (.iload_n 1, 1) := by decide +kernel
theorem dX6_areDraws_16 : decode cX6_areDraws 16 = .ok (.bipush 40, 2) := by decide +kernel
theorem dX6_areDraws_18 : decode cX6_areDraws 18 = .ok (.if_icmp .gt 7, 3) := by decide +kernel
theorem dX6_areDraws_21 : decode cX6_areDraws 21 = .ok (.iconst 1, 1) := by decide +kernel
theorem dX6_areDraws_22 : decode cX6_areDraws 22 = .ok (.goto 4, 3) := by decide +kernel
theorem dX6_areDraws_25 : decode cX6_areDraws 25 = .ok (.iconst 0, 1) := by decide +kernel
theorem dX6_areDraws_26 : decode cX6_areDraws 26 = .ok (.ireturn, 1) := by decide +kernel
def wz_X6_areDraws : List Cond := .code yX6_areDraws cX6_areDraws 2 (some .boolean) :: ([Cond.constant RX6 325 (2000000000)])
theorem wd_X6_areDraws_0 : Cond.constant RX6 325 (2000000000) ∈ wz_X6_areDraws := List.mem_of_getElem? (i := 1) rfl
set_option maxHeartbeats 4000000 in
set_option maxRecDepth 100000 in
theorem c_X6_areDraws (l : Launch) (dC : Nat → ClassId) (dI : Nat → Nat → Nat) (sz : Nat) (p0 : Int32) (p1 : Int32)  : Met l yX6_areDraws wz_X6_areDraws ({ frames := 0, cells := 0, slots := 0, locals := 0 }) (va_Pc [.int p0, .int p1] (fun U => U.heap.size = sz ∧ va_P (dC, dI) vwCl [] U.heap ∧ va_K (dC, dI) vwCl [] U ∧ va_D (fun _ => True) [])) (va_Qi (fun (r : Int32) (u : Unit) => r = if 0 ≤ p0.toInt ∧ p0.toInt ≤ 2000000000 ∧ 0 ≤ p1.toInt ∧ p1.toInt ≤ 40 then 1 else 0) (fun (_ : Unit) (_ : State) => True) (va_A [] sz)) 0 0 (va_A [] sz) := by
  refine Met.ofW (cc := cX6_areDraws) (maxL := 2) (ret := (some .boolean)) (by decide) rfl ?_
  intro p e s m args below meth c s₁ B hml hv
  obtain ⟨rfl, hsz, hP, hK, hD0⟩ := hv
  have hx := B.exec
  have hb := B.bytes
  have hr := B.returns
  have hts := atoms_spec (ws := wz_X6_areDraws) B.pre
  have hown : s.vm.findClass RX6 = some m.cls := findClass_of_methodNamed B.named
  have hlocks := B.notSynchronized
  subst hsz
  have hD := hD0.self (sz := s.heap.size)
  generalize hAe : va_A [] s.heap.size = A at hD ⊢
  have hA : ∀ q : Nat, s.heap.size ≤ q → A q := fun q h => by rw [← hAe]; exact Or.inr h
  have hS : va_S A s.heap s.heap [] := va_S.rf
  have hP : va_P (dC, dI) vwCl [] s.heap := hP
  have hl := lv_entry ([.int p0, .int p1]) (n := 2) (Nat.le_of_ble_eq_true rfl)
  rw [lg_entry_eq]
  generalize (lg_sl ([.int p0, .int p1]) ++ List.replicate (2 - (lg_sl ([.int p0, .int p1])).length) Slot.unset).toArray = ls at hl ⊢
  have hl : lv_has ls 2 [(0, .int p0), (1, .int p1)] := hl
  refine lv_iload_n hx hb dX6_areDraws_0 rfl (lv_at hl 0 rfl) ?_
  refine lv_if_lt (tgt := 25) hx hb dX6_areDraws_1 (by decide) (fun c_1 => ?_) (fun c_1 => ?_)
  · have c_1 : p0.toInt < 0 := i_lt (a := p0) (b := 0) rfl (by decide) c_1
    refine lv_iconst (v := 0) hx hb dX6_areDraws_25 (by decide) ?_
    refine W.widen (k := 0) (n := 0) (by omega) (by omega) ?_
    exact W.zret (v := 0) hx hb hr (by decide) (fun t ht hW => ⟨⟨0, (), rfl, (by first | rfl | ((repeat' split) <;> (first | rfl | (exfalso; omega)))), trivial⟩, hS.F ht⟩) hS.2.2 dX6_areDraws_26
  · have c_1 : 0 ≤ p0.toInt := i_nlt (a := p0) (b := 0) rfl (by decide) c_1
    refine lv_iload_n hx hb dX6_areDraws_4 rfl (lv_at hl 0 rfl) ?_
    refine lv_ldcw hx hb hown (hts _ wd_X6_areDraws_0) dX6_areDraws_5 ?_
    refine lv_icmp_gt (tgt := 25) hx hb dX6_areDraws_8 (by decide) (fun c_2 => ?_) (fun c_2 => ?_)
    · have c_2 : 2000000000 < p0.toInt := i_lt (a := 2000000000) (b := p0) (by decide) rfl c_2
      refine lv_iconst (v := 0) hx hb dX6_areDraws_25 (by decide) ?_
      refine W.widen (k := 0) (n := 0) (by omega) (by omega) ?_
      exact W.zret (v := 0) hx hb hr (by decide) (fun t ht hW => ⟨⟨0, (), rfl, (by first | rfl | ((repeat' split) <;> (first | rfl | (exfalso; omega)))), trivial⟩, hS.F ht⟩) hS.2.2 dX6_areDraws_26
    · have c_2 : p0.toInt ≤ 2000000000 := i_nlt (a := 2000000000) (b := p0) (by decide) rfl c_2
      refine lv_iload_n hx hb dX6_areDraws_11 rfl (lv_at hl 1 rfl) ?_
      refine lv_if_lt (tgt := 25) hx hb dX6_areDraws_12 (by decide) (fun c_3 => ?_) (fun c_3 => ?_)
      · have c_3 : p1.toInt < 0 := i_lt (a := p1) (b := 0) rfl (by decide) c_3
        refine lv_iconst (v := 0) hx hb dX6_areDraws_25 (by decide) ?_
        refine W.widen (k := 0) (n := 0) (by omega) (by omega) ?_
        exact W.zret (v := 0) hx hb hr (by decide) (fun t ht hW => ⟨⟨0, (), rfl, (by first | rfl | ((repeat' split) <;> (first | rfl | (exfalso; omega)))), trivial⟩, hS.F ht⟩) hS.2.2 dX6_areDraws_26
      · have c_3 : 0 ≤ p1.toInt := i_nlt (a := p1) (b := 0) rfl (by decide) c_3
        refine lv_iload_n hx hb dX6_areDraws_15 rfl (lv_at hl 1 rfl) ?_
        refine lv_bipush (v := 40) hx hb dX6_areDraws_16 (by decide) ?_
        refine lv_icmp_gt (tgt := 25) hx hb dX6_areDraws_18 (by decide) (fun c_4 => ?_) (fun c_4 => ?_)
        · have c_4 : 40 < p1.toInt := i_lt (a := 40) (b := p1) (by decide) rfl c_4
          refine lv_iconst (v := 0) hx hb dX6_areDraws_25 (by decide) ?_
          refine W.widen (k := 0) (n := 0) (by omega) (by omega) ?_
          exact W.zret (v := 0) hx hb hr (by decide) (fun t ht hW => ⟨⟨0, (), rfl, (by first | rfl | ((repeat' split) <;> (first | rfl | (exfalso; omega)))), trivial⟩, hS.F ht⟩) hS.2.2 dX6_areDraws_26
        · have c_4 : p1.toInt ≤ 40 := i_nlt (a := 40) (b := p1) (by decide) rfl c_4
          refine lv_iconst (v := 1) hx hb dX6_areDraws_21 (by decide) ?_
          refine lv_goto (tgt := 26) hx hb dX6_areDraws_22 (by decide) ?_
          refine W.widen (k := 0) (n := 0) (by omega) (by omega) ?_
          exact W.zret (v := 1) hx hb hr (by decide) (fun t ht hW => ⟨⟨1, (), rfl, (by first | rfl | ((repeat' split) <;> (first | rfl | (exfalso; omega)))), trivial⟩, hS.F ht⟩) hS.2.2 dX6_areDraws_26

