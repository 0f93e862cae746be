theorem dX6_hasMaze_0 : decode cX6_hasMaze 0 = .ok (.aload_n 0, 1) := by decide +kernel
theorem dX6_hasMaze_1 : decode cX6_hasMaze 1 = .ok (.getfield 33, 3) := by decide +kernel
theorem dX6_hasMaze_4 : decode cX6_hasMaze 4 = .ok (.getfield 83, 3) := by decide +kernel
theorem dX6_hasMaze_7 : decode cX6_hasMaze 7 = .ok (.ifCond .le 7, 3) := by decide +kernel
theorem dX6_hasMaze_14 : decode cX6_hasMaze 14 = .ok (.iconst 0, 1) := by decide +kernel
theorem dX6_hasMaze_15 : decode cX6_hasMaze 15 = .ok (.ireturn, 1) := by decide +kernel
def wz_X6_hasMaze : List Cond := .code yX6_hasMaze cX6_hasMaze 1 (some .boolean) :: ([Cond.fieldLink RX6 33 "HedgeMaze" "garden" "LHedgeMaze$Garden;", Cond.fieldLink RX6 83 "HedgeMaze$Garden" "lines" "I"] ++ wsX60 ++ wsX00)
theorem wd_X6_hasMaze_0 : Cond.fieldLink RX6 33 "HedgeMaze" "garden" "LHedgeMaze$Garden;" ∈ wz_X6_hasMaze := List.mem_of_getElem? (i := 1) rfl
theorem wd_X6_hasMaze_1 : Cond.fieldLink RX6 83 "HedgeMaze$Garden" "lines" "I" ∈ wz_X6_hasMaze := List.mem_of_getElem? (i := 2) rfl
theorem in_X6_hasMaze_X6 : ∀ w ∈ wsX60, w ∈ wz_X6_hasMaze := fun _ h => List.mem_cons_of_mem _ (List.mem_append_left _ (List.mem_append_right _ h))
theorem in_X6_hasMaze_X0 : ∀ w ∈ wsX00, w ∈ wz_X6_hasMaze := fun _ h => List.mem_cons_of_mem _ (List.mem_append_right _ h)
set_option maxHeartbeats 4000000 in
set_option maxRecDepth 100000 in
theorem c_X6_hasMaze (l : Launch) (dC : Nat → ClassId) (dI : Nat → Nat → Nat) (sz : Nat) (h0 : Nat) (tp : Nat) (rd : Nat) (gd : Nat) (im : Nat) (rw : Nat) (gn : Nat) (ho : Nat) (sq : Nat) (pl : Nat) (gdt : Nat) (gdu : Nat) (gdn : Nat)  : Met l yX6_hasMaze wz_X6_hasMaze ({ frames := 0, cells := 0, slots := 0, locals := 0 }) (va_Pc [.ref h0] (fun U => U.heap.size = sz ∧ va_P (dC, dI) vwCl [(h0, .inr (6, [.ref tp, .int 0, .int 0, .int (-1), .ref rd, .ref gd, .ref im, .ref rw, .ref gn, .ref ho, .ref sq])), (gd, .inr (0, [.ref pl, .int 0, .long 0, .long 0, .int 0, .int (-1), .int 0, .ref gdt, .int 0, .ref gdu, .int 0, .ref gdn]))] U.heap ∧ va_K (dC, dI) vwCl [] U ∧ va_D (fun _ => True) [(h0, .inr (6, [.ref tp, .int 0, .int 0, .int (-1), .ref rd, .ref gd, .ref im, .ref rw, .ref gn, .ref ho, .ref sq])), (gd, .inr (0, [.ref pl, .int 0, .long 0, .long 0, .int 0, .int (-1), .int 0, .ref gdt, .int 0, .ref gdu, .int 0, .ref gdn]))])) (va_Qi (fun (r : Int32) (u : Unit) => r = 0) (fun (u : Unit) (t : State) => va_P (dC, dI) vwCl [(h0, .inr (6, [.ref tp, .int 0, .int 0, .int (-1), .ref rd, .ref gd, .ref im, .ref rw, .ref gn, .ref ho, .ref sq])), (gd, .inr (0, [.ref pl, .int 0, .long 0, .long 0, .int 0, .int (-1), .int 0, .ref gdt, .int 0, .ref gdu, .int 0, .ref gdn]))] t.heap ∧ va_K (dC, dI) vwCl [] t ∧ va_D (va_A [(h0, .inr (6, [.ref tp, .int 0, .int 0, .int (-1), .ref rd, .ref gd, .ref im, .ref rw, .ref gn, .ref ho, .ref sq])), (gd, .inr (0, [.ref pl, .int 0, .long 0, .long 0, .int 0, .int (-1), .int 0, .ref gdt, .int 0, .ref gdu, .int 0, .ref gdn]))] sz) [(h0, .inr (6, [.ref tp, .int 0, .int 0, .int (-1), .ref rd, .ref gd, .ref im, .ref rw, .ref gn, .ref ho, .ref sq])), (gd, .inr (0, [.ref pl, .int 0, .long 0, .long 0, .int 0, .int (-1), .int 0, .ref gdt, .int 0, .ref gdu, .int 0, .ref gdn]))]) (va_A [(h0, .inr (6, [.ref tp, .int 0, .int 0, .int (-1), .ref rd, .ref gd, .ref im, .ref rw, .ref gn, .ref ho, .ref sq])), (gd, .inr (0, [.ref pl, .int 0, .long 0, .long 0, .int 0, .int (-1), .int 0, .ref gdt, .int 0, .ref gdu, .int 0, .ref gdn]))] sz)) 0 0 (va_A [(h0, .inr (6, [.ref tp, .int 0, .int 0, .int (-1), .ref rd, .ref gd, .ref im, .ref rw, .ref gn, .ref ho, .ref sq])), (gd, .inr (0, [.ref pl, .int 0, .long 0, .long 0, .int 0, .int (-1), .int 0, .ref gdt, .int 0, .ref gdu, .int 0, .ref gdn]))] sz) := by
  refine Met.ofW (cc := cX6_hasMaze) (maxL := 1) (ret := (some .boolean)) (by decide) rfl ?_
  intro p e s m args below meth c s₁ B hml hv
  obtain ⟨rfl, hsz, hP, hK, hD0⟩ := hv
  have hx := B.exec
  have hb := B.bytes
  have hr := B.returns
  have hts := atoms_spec (ws := wz_X6_hasMaze) B.pre
  have hown : s.vm.findClass RX6 = some m.cls := findClass_of_methodNamed B.named
  have hlocks := B.notSynchronized
  subst hsz
  have hD := hD0.self (sz := s.heap.size)
  generalize hAe : va_A [(h0, .inr (6, [.ref tp, .int 0, .int 0, .int (-1), .ref rd, .ref gd, .ref im, .ref rw, .ref gn, .ref ho, .ref sq])), (gd, .inr (0, [.ref pl, .int 0, .long 0, .long 0, .int 0, .int (-1), .int 0, .ref gdt, .int 0, .ref gdu, .int 0, .ref gdn]))] s.heap.size = A at hD ⊢
  have hA : ∀ q : Nat, s.heap.size ≤ q → A q := fun q h => by rw [← hAe]; exact Or.inr h
  have hS : va_S A s.heap s.heap [] := va_S.rf
  have hP : va_P (dC, dI) vwCl [(h0, .inr (6, [.ref tp, .int 0, .int 0, .int (-1), .ref rd, .ref gd, .ref im, .ref rw, .ref gn, .ref ho, .ref sq])), (gd, .inr (0, [.ref pl, .int 0, .long 0, .long 0, .int 0, .int (-1), .int 0, .ref gdt, .int 0, .ref gdu, .int 0, .ref gdn]))] s.heap := hP
  have hl := lv_entry ([.ref h0]) (n := 1) (Nat.le_of_ble_eq_true rfl)
  rw [lg_entry_eq]
  generalize (lg_sl ([.ref h0]) ++ List.replicate (1 - (lg_sl ([.ref h0])).length) Slot.unset).toArray = ls at hl ⊢
  have hl : lv_has ls 1 [(0, .ref h0)] := hl
  refine lv_aload_n hx hb dX6_hasMaze_0 rfl (lv_at hl 0 rfl) ?_
  refine va_get (D := (dC, dI)) (ci := 6) (v := .ref gd) (C := RX6) (T := TX6) (N := 11) hx hb hts in_X6_hasMaze_X6 hown hK hP 0 rfl rfl 5 (by decide) (hts _ wd_X6_hasMaze_0) (fun _ h9 => h9) rfl dX6_hasMaze_1 ?_
  refine va_get (D := (dC, dI)) (ci := 0) (v := .int 0) (C := RX0) (T := TX0) (N := 12) hx hb hts in_X6_hasMaze_X0 hown hK hP 1 rfl rfl 1 (by decide) (hts _ wd_X6_hasMaze_1) (fun _ h9 => h9) rfl dX6_hasMaze_4 ?_
  refine lv_if_le (tgt := 14) hx hb dX6_hasMaze_7 (by decide) (fun _ => ?_) (fun h => absurd (by decide) h)
  refine lv_iconst (v := 0) hx hb dX6_hasMaze_14 (by decide) ?_
  have hP9 := hP.sub (ws' := [(h0, .inr (6, [.ref tp, .int 0, .int 0, .int (-1), .ref rd, .ref gd, .ref im, .ref rw, .ref gn, .ref ho, .ref sq])), (gd, .inr (0, [.ref pl, .int 0, .long 0, .long 0, .int 0, .int (-1), .int 0, .ref gdt, .int 0, .ref gdu, .int 0, .ref gdn]))]) [0, 1] rfl
  have hD9 := hD.sub (ws' := [(h0, .inr (6, [.ref tp, .int 0, .int 0, .int (-1), .ref rd, .ref gd, .ref im, .ref rw, .ref gn, .ref ho, .ref sq])), (gd, .inr (0, [.ref pl, .int 0, .long 0, .long 0, .int 0, .int (-1), .int 0, .ref gdt, .int 0, .ref gdu, .int 0, .ref gdn]))]) [0, 1] (by decide) rfl
  have hK9 := hK.sub (tys' := []) [] rfl
  refine W.widen (k := 0) (n := 0) (by omega) (by omega) ?_
  exact W.zret (v := 0) hx hb hr (by decide) (fun t ht hW => ⟨⟨0, (), rfl, (by first | rfl | ((repeat' split) <;> (first | rfl | (exfalso; omega)))), by rw [ht]; exact hP9, va_K.moved hW.alike hK9, hD9⟩, hS.F ht⟩) hS.2.2 dX6_hasMaze_15

theorem dX6_isCell_0 : decode cX6_isCell 0 = .ok (.iload_n 1, 1) := by decide +kernel
theorem dX6_isCell_1 : decode cX6_isCell 1 = .ok (.ifCond .lt 21, 3) := by decide +kernel
theorem dX6_isCell_4 : decode cX6_isCell 4 = .ok (.iload_n 1, 1) := by decide +kernel
theorem dX6_isCell_5 : decode cX6_isCell 5 = .ok (.aload_n 0, 1) := by decide +kernel
theorem dX6_isCell_6 : decode cX6_isCell 6 = .ok (.getfield 33, 3) := by decide +kernel
theorem dX6_isCell_9 : decode cX6_isCell 9 = .ok (.getfield 90, 3) := by decide +kernel
theorem dX6_isCell_12 : decode cX6_isCell 12 = .ok (.getfield 169, 3) := by decide +kernel
theorem dX6_isCell_15 : decode cX6_isCell 15 = .ok (.if_icmp .ge 7, 3) := by decide +kernel
theorem dX6_isCell_18 : decode cX6_isCell 18 = .ok (.iconst 1, 1) := by decide +kernel
theorem dX6_isCell_19 : decode cX6_isCell 19 = .ok (.goto 4, 3) := by decide +kernel
theorem dX6_isCell_22 : decode cX6_isCell 22 = .ok (.iconst 0, 1) := by decide +kernel
theorem dX6_isCell_23 : decode cX6_isCell 23 = .ok (.ireturn, 1) := by decide +kernel
def wz_X6_isCell : List Cond := .code yX6_isCell cX6_isCell 2 (some .boolean) :: ([Cond.fieldLink RX6 33 "HedgeMaze" "garden" "LHedgeMaze$Garden;", Cond.fieldLink RX6 90 "HedgeMaze$Garden" "plan" "LHedgeMaze$Plan;", Cond.fieldLink RX6 169 "HedgeMaze$Plan" "cellCount" "I"] ++ wsX60 ++ wsX00 ++ wsX30)
theorem wd_X6_isCell_0 : Cond.fieldLink RX6 33 "HedgeMaze" "garden" "LHedgeMaze$Garden;" ∈ wz_X6_isCell := List.mem_of_getElem? (i := 1) rfl
theorem wd_X6_isCell_1 : Cond.fieldLink RX6 90 "HedgeMaze$Garden" "plan" "LHedgeMaze$Plan;" ∈ wz_X6_isCell := List.mem_of_getElem? (i := 2) rfl
theorem wd_X6_isCell_2 : Cond.fieldLink RX6 169 "HedgeMaze$Plan" "cellCount" "I" ∈ wz_X6_isCell := List.mem_of_getElem? (i := 3) rfl
theorem in_X6_isCell_X6 : ∀ w ∈ wsX60, w ∈ wz_X6_isCell := fun _ h => List.mem_cons_of_mem _ (List.mem_append_left _ (List.mem_append_left _ (List.mem_append_right _ h)))
theorem in_X6_isCell_X0 : ∀ w ∈ wsX00, w ∈ wz_X6_isCell := fun _ h => List.mem_cons_of_mem _ (List.mem_append_left _ (List.mem_append_right _ h))
theorem in_X6_isCell_X3 : ∀ w ∈ wsX30, w ∈ wz_X6_isCell := fun _ h => List.mem_cons_of_mem _ (List.mem_append_right _ h)
set_option maxHeartbeats 4000000 in
set_option maxRecDepth 100000 in
theorem c_X6_isCell (l : Launch) (dC : Nat → ClassId) (dI : Nat → Nat → Nat) (sz : Nat) (h0 : Nat) (tp : Nat) (rd : Nat) (gd : Nat) (im : Nat) (rw : Nat) (gn : Nat) (ho : Nat) (sq : Nat) (pl : Nat) (gdt : Nat) (gdu : Nat) (gdn : Nat) (plf : Nat) (plo : Nat) (plb : Nat) (pla : Nat) (p0 : Int32)  : Met l yX6_isCell wz_X6_isCell ({ frames := 0, cells := 0, slots := 0, locals := 0 }) (va_Pc [.ref h0, .int p0] (fun U => U.heap.size = sz ∧ va_P (dC, dI) vwCl [(h0, .inr (6, [.ref tp, .int 0, .int 0, .int (-1), .ref rd, .ref gd, .ref im, .ref rw, .ref gn, .ref ho, .ref sq])), (gd, .inr (0, [.ref pl, .int 0, .long 0, .long 0, .int 0, .int (-1), .int 0, .ref gdt, .int 0, .ref gdu, .int 0, .ref gdn])), (pl, .inr (3, [.int 0, .int 0, .int 0, .int 0, .long 0, .ref plf, .ref plo, .ref plb, .ref pla]))] U.heap ∧ va_K (dC, dI) vwCl [] U ∧ va_D (fun _ => True) [(h0, .inr (6, [.ref tp, .int 0, .int 0, .int (-1), .ref rd, .ref gd, .ref im, .ref rw, .ref gn, .ref ho, .ref sq])), (gd, .inr (0, [.ref pl, .int 0, .long 0, .long 0, .int 0, .int (-1), .int 0, .ref gdt, .int 0, .ref gdu, .int 0, .ref gdn])), (pl, .inr (3, [.int 0, .int 0, .int 0, .int 0, .long 0, .ref plf, .ref plo, .ref plb, .ref pla]))])) (va_Qi (fun (r : Int32) (u : Unit) => r = 0) (fun (u : Unit) (t : State) => va_P (dC, dI) vwCl [(h0, .inr (6, [.ref tp, .int 0, .int 0, .int (-1), .ref rd, .ref gd, .ref im, .ref rw, .ref gn, .ref ho, .ref sq])), (gd, .inr (0, [.ref pl, .int 0, .long 0, .long 0, .int 0, .int (-1), .int 0, .ref gdt, .int 0, .ref gdu, .int 0, .ref gdn])), (pl, .inr (3, [.int 0, .int 0, .int 0, .int 0, .long 0, .ref plf, .ref plo, .ref plb, .ref pla]))] t.heap ∧ va_K (dC, dI) vwCl [] t ∧ va_D (va_A [(h0, .inr (6, [.ref tp, .int 0, .int 0, .int (-1), .ref rd, .ref gd, .ref im, .ref rw, .ref gn, .ref ho, .ref sq])), (gd, .inr (0, [.ref pl, .int 0, .long 0, .long 0, .int 0, .int (-1), .int 0, .ref gdt, .int 0, .ref gdu, .int 0, .ref gdn])), (pl, .inr (3, [.int 0, .int 0, .int 0, .int 0, .long 0, .ref plf, .ref plo, .ref plb, .ref pla]))] sz) [(h0, .inr (6, [.ref tp, .int 0, .int 0, .int (-1), .ref rd, .ref gd, .ref im, .ref rw, .ref gn, .ref ho, .ref sq])), (gd, .inr (0, [.ref pl, .int 0, .long 0, .long 0, .int 0, .int (-1), .int 0, .ref gdt, .int 0, .ref gdu, .int 0, .ref gdn])), (pl, .inr (3, [.int 0, .int 0, .int 0, .int 0, .long 0, .ref plf, .ref plo, .ref plb, .ref pla]))]) (va_A [(h0, .inr (6, [.ref tp, .int 0, .int 0, .int (-1), .ref rd, .ref gd, .ref im, .ref rw, .ref gn, .ref ho, .ref sq])), (gd, .inr (0, [.ref pl, .int 0, .long 0, .long 0, .int 0, .int (-1), .int 0, .ref gdt, .int 0, .ref gdu, .int 0, .ref gdn])), (pl, .inr (3, [.int 0, .int 0, .int 0, .int 0, .long 0, .ref plf, .ref plo, .ref plb, .ref pla]))] sz)) 0 0 (va_A [(h0, .inr (6, [.ref tp, .int 0, .int 0, .int (-1), .ref rd, .ref gd, .ref im, .ref rw, .ref gn, .ref ho, .ref sq])), (gd, .inr (0, [.ref pl, .int 0, .long 0, .long 0, .int 0, .int (-1), .int 0, .ref gdt, .int 0, .ref gdu, .int 0, .ref gdn])), (pl, .inr (3, [.int 0, .int 0, .int 0, .int 0, .long 0, .ref plf, .ref plo, .ref plb, .ref pla]))] sz) := by
  refine Met.ofW (cc := cX6_isCell) (maxL := 2) (ret := (some .boolean)) (by decide) rfl ?_
  intro p e s m args below meth c s₁ B hml hv
  obtain ⟨rfl, hsz, hP, hK, hD0⟩ := hv
  have hx := B.exec
  have hb := B.bytes
  have hr := B.returns
  have hts := atoms_spec (ws := wz_X6_isCell) B.pre
  have hown : s.vm.findClass RX6 = some m.cls := findClass_of_methodNamed B.named
  have hlocks := B.notSynchronized
  subst hsz
  have hD := hD0.self (sz := s.heap.size)
  generalize hAe : va_A [(h0, .inr (6, [.ref tp, .int 0, .int 0, .int (-1), .ref rd, .ref gd, .ref im, .ref rw, .ref gn, .ref ho, .ref sq])), (gd, .inr (0, [.ref pl, .int 0, .long 0, .long 0, .int 0, .int (-1), .int 0, .ref gdt, .int 0, .ref gdu, .int 0, .ref gdn])), (pl, .inr (3, [.int 0, .int 0, .int 0, .int 0, .long 0, .ref plf, .ref plo, .ref plb, .ref pla]))] s.heap.size = A at hD ⊢
  have hA : ∀ q : Nat, s.heap.size ≤ q → A q := fun q h => by rw [← hAe]; exact Or.inr h
  have hS : va_S A s.heap s.heap [] := va_S.rf
  have hP : va_P (dC, dI) vwCl [(h0, .inr (6, [.ref tp, .int 0, .int 0, .int (-1), .ref rd, .ref gd, .ref im, .ref rw, .ref gn, .ref ho, .ref sq])), (gd, .inr (0, [.ref pl, .int 0, .long 0, .long 0, .int 0, .int (-1), .int 0, .ref gdt, .int 0, .ref gdu, .int 0, .ref gdn])), (pl, .inr (3, [.int 0, .int 0, .int 0, .int 0, .long 0, .ref plf, .ref plo, .ref plb, .ref pla]))] s.heap := hP
  have hl := lv_entry ([.ref h0, .int p0]) (n := 2) (Nat.le_of_ble_eq_true rfl)
  rw [lg_entry_eq]
  generalize (lg_sl ([.ref h0, .int p0]) ++ List.replicate (2 - (lg_sl ([.ref h0, .int p0])).length) Slot.unset).toArray = ls at hl ⊢
  have hl : lv_has ls 2 [(0, .ref h0), (1, .int p0)] := hl
  refine lv_iload_n hx hb dX6_isCell_0 rfl (lv_at hl 1 rfl) ?_
  refine lv_if_lt (tgt := 22) hx hb dX6_isCell_1 (by decide) (fun c_1 => ?_) (fun c_1 => ?_)
  · have c_1 : p0.toInt < 0 := i_lt (a := p0) (b := 0) rfl (by decide) c_1
    refine lv_iconst (v := 0) hx hb dX6_isCell_22 (by decide) ?_
    have hP9 := hP.sub (ws' := [(h0, .inr (6, [.ref tp, .int 0, .int 0, .int (-1), .ref rd, .ref gd, .ref im, .ref rw, .ref gn, .ref ho, .ref sq])), (gd, .inr (0, [.ref pl, .int 0, .long 0, .long 0, .int 0, .int (-1), .int 0, .ref gdt, .int 0, .ref gdu, .int 0, .ref gdn])), (pl, .inr (3, [.int 0, .int 0, .int 0, .int 0, .long 0, .ref plf, .ref plo, .ref plb, .ref pla]))]) [0, 1, 2] rfl
    have hD9 := hD.sub (ws' := [(h0, .inr (6, [.ref tp, .int 0, .int 0, .int (-1), .ref rd, .ref gd, .ref im, .ref rw, .ref gn, .ref ho, .ref sq])), (gd, .inr (0, [.ref pl, .int 0, .long 0, .long 0, .int 0, .int (-1), .int 0, .ref gdt, .int 0, .ref gdu, .int 0, .ref gdn])), (pl, .inr (3, [.int 0, .int 0, .int 0, .int 0, .long 0, .ref plf, .ref plo, .ref plb, .ref pla]))]) [0, 1, 2] (by decide) rfl
    have hK9 := hK.sub (tys' := []) [] rfl
    refine W.widen (k := 0) (n := 0) (by omega) (by omega) ?_
    exact W.zret (v := 0) hx hb hr (by decide) (fun t ht hW => ⟨⟨0, (), rfl, (by first | rfl | ((repeat' split) <;> (first | rfl | (exfalso; omega)))), by rw [ht]; exact hP9, va_K.moved hW.alike hK9, hD9⟩, hS.F ht⟩) hS.2.2 dX6_isCell_23
  · have c_1 : 0 ≤ p0.toInt := i_nlt (a := p0) (b := 0) rfl (by decide) c_1
    refine lv_iload_n hx hb dX6_isCell_4 rfl (lv_at hl 1 rfl) ?_
    refine lv_aload_n hx hb dX6_isCell_5 rfl (lv_at hl 0 rfl) ?_
    refine va_get (D := (dC, dI)) (ci := 6) (v := .ref gd) (C := RX6) (T := TX6) (N := 11) hx hb hts in_X6_isCell_X6 hown hK hP 0 rfl rfl 5 (by decide) (hts _ wd_X6_isCell_0) (fun _ h9 => h9) rfl dX6_isCell_6 ?_
    refine va_get (D := (dC, dI)) (ci := 0) (v := .ref pl) (C := RX0) (T := TX0) (N := 12) hx hb hts in_X6_isCell_X0 hown hK hP 1 rfl rfl 0 (by decide) (hts _ wd_X6_isCell_1) (fun _ h9 => h9) rfl dX6_isCell_9 ?_
    refine va_get (D := (dC, dI)) (ci := 3) (v := .int 0) (C := RX3) (T := TX3) (N := 9) hx hb hts in_X6_isCell_X3 hown hK hP 2 rfl rfl 2 (by decide) (hts _ wd_X6_isCell_2) (fun _ h9 => h9) rfl dX6_isCell_12 ?_
    refine lv_icmp_ge (tgt := 22) hx hb dX6_isCell_15 (by decide) (fun c_2 => ?_) (fun c_2 => ?_)
    · have c_2 : 0 ≤ p0.toInt := i_le (a := 0) (b := p0) (by decide) rfl c_2
      refine lv_iconst (v := 0) hx hb dX6_isCell_22 (by decide) ?_
      have hP9 := hP.sub (ws' := [(h0, .inr (6, [.ref tp, .int 0, .int 0, .int (-1), .ref rd, .ref gd, .ref im, .ref rw, .ref gn, .ref ho, .ref sq])), (gd, .inr (0, [.ref pl, .int 0, .long 0, .long 0, .int 0, .int (-1), .int 0, .ref gdt, .int 0, .ref gdu, .int 0, .ref gdn])), (pl, .inr (3, [.int 0, .int 0, .int 0, .int 0, .long 0, .ref plf, .ref plo, .ref plb, .ref pla]))]) [0, 1, 2] rfl
      have hD9 := hD.sub (ws' := [(h0, .inr (6, [.ref tp, .int 0, .int 0, .int (-1), .ref rd, .ref gd, .ref im, .ref rw, .ref gn, .ref ho, .ref sq])), (gd, .inr (0, [.ref pl, .int 0, .long 0, .long 0, .int 0, .int (-1), .int 0, .ref gdt, .int 0, .ref gdu, .int 0, .ref gdn])), (pl, .inr (3, [.int 0, .int 0, .int 0, .int 0, .long 0, .ref plf, .ref plo, .ref plb, .ref pla]))]) [0, 1, 2] (by decide) rfl
      have hK9 := hK.sub (tys' := []) [] rfl
      refine W.widen (k := 0) (n := 0) (by omega) (by omega) ?_
      exact W.zret (v := 0) hx hb hr (by decide) (fun t ht hW => ⟨⟨0, (), rfl, (by first | rfl | ((repeat' split) <;> (first | rfl | (exfalso; omega)))), by rw [ht]; exact hP9, va_K.moved hW.alike hK9, hD9⟩, hS.F ht⟩) hS.2.2 dX6_isCell_23
    · have c_2 : p0.toInt < 0 := i_nle (a := 0) (b := p0) (by decide) rfl c_2
      refine lv_iconst (v := 1) hx hb dX6_isCell_18 (by decide) ?_
      refine lv_goto (tgt := 23) hx hb dX6_isCell_19 (by decide) ?_
      have hP9 := hP.sub (ws' := [(h0, .inr (6, [.ref tp, .int 0, .int 0, .int (-1), .ref rd, .ref gd, .ref im, .ref rw, .ref gn, .ref ho, .ref sq])), (gd, .inr (0, [.ref pl, .int 0, .long 0, .long 0, .int 0, .int (-1), .int 0, .ref gdt, .int 0, .ref gdu, .int 0, .ref gdn])), (pl, .inr (3, [.int 0, .int 0, .int 0, .int 0, .long 0, .ref plf, .ref plo, .ref plb, .ref pla]))]) [0, 1, 2] rfl
      have hD9 := hD.sub (ws' := [(h0, .inr (6, [.ref tp, .int 0, .int 0, .int (-1), .ref rd, .ref gd, .ref im, .ref rw, .ref gn, .ref ho, .ref sq])), (gd, .inr (0, [.ref pl, .int 0, .long 0, .long 0, .int 0, .int (-1), .int 0, .ref gdt, .int 0, .ref gdu, .int 0, .ref gdn])), (pl, .inr (3, [.int 0, .int 0, .int 0, .int 0, .long 0, .ref plf, .ref plo, .ref plb, .ref pla]))]) [0, 1, 2] (by decide) rfl
      have hK9 := hK.sub (tys' := []) [] rfl
      refine W.widen (k := 0) (n := 0) (by omega) (by omega) ?_
      exact W.zret (v := 1) hx hb hr (by decide) (fun t ht hW => ⟨⟨1, (), rfl, (by first | rfl | ((repeat' split) <;> (first | rfl | (exfalso; omega)))), by rw [ht]; exact hP9, va_K.moved hW.alike hK9, hD9⟩, hS.F ht⟩) hS.2.2 dX6_isCell_23

theorem dX6_isSide_0 : decode cX6_isSide 0 = .ok (.lload_n 1, 1) := by decide +kernel
theorem dX6_isSide_1 : decode cX6_isSide 1 = .ok (.lconst 0, 1) := by decide +kernel
theorem dX6_isSide_2 : decode cX6_isSide 2 = .ok (.lcmp, 1) := by decide +kernel
theorem dX6_isSide_3 : decode cX6_isSide 3 = .ok (.ifCond .lt 23, 3) := by decide +kernel
theorem dX6_isSide_6 : decode cX6_isSide 6 = .ok (.lload_n 1, 1) := by decide +kernel
theorem dX6_isSide_7 : decode cX6_isSide 7 = .ok (.aload_n 0, 1) := by decide +kernel
theorem dX6_isSide_8 : decode cX6_isSide 8 = .ok (.getfield 33, 3) := by decide +kernel
theorem dX6_isSide_11 : decode cX6_isSide 11 = .ok (.getfield 90, 3) := by decide +kernel
theorem dX6_isSide_14 : decode cX6_isSide 14 = .ok (.getfield 94, 3) := by decide +kernel
theorem dX6_isSide_17 : decode cX6_isSide 17 = .ok (.i2l, 1) := by decide +kernel
theorem dX6_isSide_18 : decode cX6_isSide 18 = .ok (.lcmp, 1) := by decide +kernel
theorem dX6_isSide_19 : decode cX6_isSide 19 = .ok (.ifCond .ge 7, 3) := by decide +kernel
theorem dX6_isSide_22 : decode cX6_isSide 22 = .ok (.iconst 1, 1) := by decide +kernel
theorem dX6_isSide_23 : decode cX6_isSide 23 = .ok (.goto 4, 3) := by decide +kernel
theorem dX6_isSide_26 : decode cX6_isSide 26 = .ok (.iconst 0, 1) := by decide +kernel
theorem dX6_isSide_27 : decode cX6_isSide 27 = .ok (.ireturn, 1) := by decide +kernel
def wz_X6_isSide : List Cond := .code yX6_isSide cX6_isSide 3 (some .boolean) :: ([Cond.fieldLink RX6 33 "HedgeMaze" "garden" "LHedgeMaze$Garden;", Cond.fieldLink RX6 90 "HedgeMaze$Garden" "plan" "LHedgeMaze$Plan;", Cond.fieldLink RX6 94 "HedgeMaze$Plan" "sideCount" "I"] ++ wsX60 ++ wsX00 ++ wsX30)
theorem wd_X6_isSide_0 : Cond.fieldLink RX6 33 "HedgeMaze" "garden" "LHedgeMaze$Garden;" ∈ wz_X6_isSide := List.mem_of_getElem? (i := 1) rfl
theorem wd_X6_isSide_1 : Cond.fieldLink RX6 90 "HedgeMaze$Garden" "plan" "LHedgeMaze$Plan;" ∈ wz_X6_isSide := List.mem_of_getElem? (i := 2) rfl
theorem wd_X6_isSide_2 : Cond.fieldLink RX6 94 "HedgeMaze$Plan" "sideCount" "I" ∈ wz_X6_isSide := List.mem_of_getElem? (i := 3) rfl
theorem in_X6_isSide_X6 : ∀ w ∈ wsX60, w ∈ wz_X6_isSide := fun _ h => List.mem_cons_of_mem _ (List.mem_append_left _ (List.mem_append_left _ (List.mem_append_right _ h)))
theorem in_X6_isSide_X0 : ∀ w ∈ wsX00, w ∈ wz_X6_isSide := fun _ h => List.mem_cons_of_mem _ (List.mem_append_left _ (List.mem_append_right _ h))
theorem in_X6_isSide_X3 : ∀ w ∈ wsX30, w ∈ wz_X6_isSide := fun _ h => List.mem_cons_of_mem _ (List.mem_append_right _ h)
set_option maxHeartbeats 4000000 in
set_option maxRecDepth 100000 in
theorem c_X6_isSide (l : Launch) (dC : Nat → ClassId) (dI : Nat → Nat → Nat) (sz : Nat) (h0 : Nat) (tp : Nat) (rd : Nat) (gd : Nat) (im : Nat) (rw : Nat) (gn : Nat) (ho : Nat) (sq : Nat) (pl : Nat) (gdt : Nat) (gdu : Nat) (gdn : Nat) (plf : Nat) (plo : Nat) (plb : Nat) (pla : Nat) (p0 : Int64)  : Met l yX6_isSide wz_X6_isSide ({ frames := 0, cells := 0, slots := 0, locals := 0 }) (va_Pc [.ref h0, .long p0] (fun U => U.heap.size = sz ∧ va_P (dC, dI) vwCl [(h0, .inr (6, [.ref tp, .int 0, .int 0, .int (-1), .ref rd, .ref gd, .ref im, .ref rw, .ref gn, .ref ho, .ref sq])), (gd, .inr (0, [.ref pl, .int 0, .long 0, .long 0, .int 0, .int (-1), .int 0, .ref gdt, .int 0, .ref gdu, .int 0, .ref gdn])), (pl, .inr (3, [.int 0, .int 0, .int 0, .int 0, .long 0, .ref plf, .ref plo, .ref plb, .ref pla]))] U.heap ∧ va_K (dC, dI) vwCl [] U ∧ va_D (fun _ => True) [(h0, .inr (6, [.ref tp, .int 0, .int 0, .int (-1), .ref rd, .ref gd, .ref im, .ref rw, .ref gn, .ref ho, .ref sq])), (gd, .inr (0, [.ref pl, .int 0, .long 0, .long 0, .int 0, .int (-1), .int 0, .ref gdt, .int 0, .ref gdu, .int 0, .ref gdn])), (pl, .inr (3, [.int 0, .int 0, .int 0, .int 0, .long 0, .ref plf, .ref plo, .ref plb, .ref pla]))])) (va_Qi (fun (r : Int32) (u : Unit) => r = 0) (fun (u : Unit) (t : State) => va_P (dC, dI) vwCl [(h0, .inr (6, [.ref tp, .int 0, .int 0, .int (-1), .ref rd, .ref gd, .ref im, .ref rw, .ref gn, .ref ho, .ref sq])), (gd, .inr (0, [.ref pl, .int 0, .long 0, .long 0, .int 0, .int (-1), .int 0, .ref gdt, .int 0, .ref gdu, .int 0, .ref gdn])), (pl, .inr (3, [.int 0, .int 0, .int 0, .int 0, .long 0, .ref plf, .ref plo, .ref plb, .ref pla]))] t.heap ∧ va_K (dC, dI) vwCl [] t ∧ va_D (va_A [(h0, .inr (6, [.ref tp, .int 0, .int 0, .int (-1), .ref rd, .ref gd, .ref im, .ref rw, .ref gn, .ref ho, .ref sq])), (gd, .inr (0, [.ref pl, .int 0, .long 0, .long 0, .int 0, .int (-1), .int 0, .ref gdt, .int 0, .ref gdu, .int 0, .ref gdn])), (pl, .inr (3, [.int 0, .int 0, .int 0, .int 0, .long 0, .ref plf, .ref plo, .ref plb, .ref pla]))] sz) [(h0, .inr (6, [.ref tp, .int 0, .int 0, .int (-1), .ref rd, .ref gd, .ref im, .ref rw, .ref gn, .ref ho, .ref sq])), (gd, .inr (0, [.ref pl, .int 0, .long 0, .long 0, .int 0, .int (-1), .int 0, .ref gdt, .int 0, .ref gdu, .int 0, .ref gdn])), (pl, .inr (3, [.int 0, .int 0, .int 0, .int 0, .long 0, .ref plf, .ref plo, .ref plb, .ref pla]))]) (va_A [(h0, .inr (6, [.ref tp, .int 0, .int 0, .int (-1), .ref rd, .ref gd, .ref im, .ref rw, .ref gn, .ref ho, .ref sq])), (gd, .inr (0, [.ref pl, .int 0, .long 0, .long 0, .int 0, .int (-1), .int 0, .ref gdt, .int 0, .ref gdu, .int 0, .ref gdn])), (pl, .inr (3, [.int 0, .int 0, .int 0, .int 0, .long 0, .ref plf, .ref plo, .ref plb, .ref pla]))] sz)) 0 0 (va_A [(h0, .inr (6, [.ref tp, .int 0, .int 0, .int (-1), .ref rd, .ref gd, .ref im, .ref rw, .ref gn, .ref ho, .ref sq])), (gd, .inr (0, [.ref pl, .int 0, .long 0, .long 0, .int 0, .int (-1), .int 0, .ref gdt, .int 0, .ref gdu, .int 0, .ref gdn])), (pl, .inr (3, [.int 0, .int 0, .int 0, .int 0, .long 0, .ref plf, .ref plo, .ref plb, .ref pla]))] sz) := by
  refine Met.ofW (cc := cX6_isSide) (maxL := 3) (ret := (some .boolean)) (by decide) rfl ?_
  intro p e s m args below meth c s₁ B hml hv
  obtain ⟨rfl, hsz, hP, hK, hD0⟩ := hv
  have hx := B.exec
  have hb := B.bytes
  have hr := B.returns
  have hts := atoms_spec (ws := wz_X6_isSide) B.pre
  have hown : s.vm.findClass RX6 = some m.cls := findClass_of_methodNamed B.named
  have hlocks := B.notSynchronized
  subst hsz
  have hD := hD0.self (sz := s.heap.size)
  generalize hAe : va_A [(h0, .inr (6, [.ref tp, .int 0, .int 0, .int (-1), .ref rd, .ref gd, .ref im, .ref rw, .ref gn, .ref ho, .ref sq])), (gd, .inr (0, [.ref pl, .int 0, .long 0, .long 0, .int 0, .int (-1), .int 0, .ref gdt, .int 0, .ref gdu, .int 0, .ref gdn])), (pl, .inr (3, [.int 0, .int 0, .int 0, .int 0, .long 0, .ref plf, .ref plo, .ref plb, .ref pla]))] s.heap.size = A at hD ⊢
  have hA : ∀ q : Nat, s.heap.size ≤ q → A q := fun q h => by rw [← hAe]; exact Or.inr h
  have hS : va_S A s.heap s.heap [] := va_S.rf
  have hP : va_P (dC, dI) vwCl [(h0, .inr (6, [.ref tp, .int 0, .int 0, .int (-1), .ref rd, .ref gd, .ref im, .ref rw, .ref gn, .ref ho, .ref sq])), (gd, .inr (0, [.ref pl, .int 0, .long 0, .long 0, .int 0, .int (-1), .int 0, .ref gdt, .int 0, .ref gdu, .int 0, .ref gdn])), (pl, .inr (3, [.int 0, .int 0, .int 0, .int 0, .long 0, .ref plf, .ref plo, .ref plb, .ref pla]))] s.heap := hP
  have hl := lv_entry ([.ref h0, .long p0]) (n := 3) (Nat.le_of_ble_eq_true rfl)
  rw [lg_entry_eq]
  generalize (lg_sl ([.ref h0, .long p0]) ++ List.replicate (3 - (lg_sl ([.ref h0, .long p0])).length) Slot.unset).toArray = ls at hl ⊢
  have hl : lv_has ls 3 [(0, .ref h0), (1, .long p0)] := hl
  refine lv_lload_n hx hb dX6_isSide_0 rfl (lv_at hl 1 rfl) ?_
  refine lv_lconst (v := 0) hx hb dX6_isSide_1 (by decide) ?_
  refine W.lcmp hx hb dX6_isSide_2 ?_
  refine lv_if_lt (tgt := 26) hx hb dX6_isSide_3 (by decide) (fun c_1 => ?_) (fun c_1 => ?_)
  · have c_1 := (lg_cmp_lt p0 0).mp c_1
    have c_1 : p0.toInt < 0 := i_ltL (a := p0) (b := 0) rfl (by decide) c_1
    refine lv_iconst (v := 0) hx hb dX6_isSide_26 (by decide) ?_
    have hP9 := hP.sub (ws' := [(h0, .inr (6, [.ref tp, .int 0, .int 0, .int (-1), .ref rd, .ref gd, .ref im, .ref rw, .ref gn, .ref ho, .ref sq])), (gd, .inr (0, [.ref pl, .int 0, .long 0, .long 0, .int 0, .int (-1), .int 0, .ref gdt, .int 0, .ref gdu, .int 0, .ref gdn])), (pl, .inr (3, [.int 0, .int 0, .int 0, .int 0, .long 0, .ref plf, .ref plo, .ref plb, .ref pla]))]) [0, 1, 2] rfl
    have hD9 := hD.sub (ws' := [(h0, .inr (6, [.ref tp, .int 0, .int 0, .int (-1), .ref rd, .ref gd, .ref im, .ref rw, .ref gn, .ref ho, .ref sq])), (gd, .inr (0, [.ref pl, .int 0, .long 0, .long 0, .int 0, .int (-1), .int 0, .ref gdt, .int 0, .ref gdu, .int 0, .ref gdn])), (pl, .inr (3, [.int 0, .int 0, .int 0, .int 0, .long 0, .ref plf, .ref plo, .ref plb, .ref pla]))]) [0, 1, 2] (by decide) rfl
    have hK9 := hK.sub (tys' := []) [] rfl
    refine W.widen (k := 0) (n := 0) (by omega) (by omega) ?_
    exact W.zret (v := 0) hx hb hr (by decide) (fun t ht hW => ⟨⟨0, (), rfl, (by first | rfl | ((repeat' split) <;> (first | rfl | (exfalso; omega)))), by rw [ht]; exact hP9, va_K.moved hW.alike hK9, hD9⟩, hS.F ht⟩) hS.2.2 dX6_isSide_27
  · have c_1 := fun h => c_1 ((lg_cmp_lt p0 0).mpr h)
    have c_1 : 0 ≤ p0.toInt := i_nltL (a := p0) (b := 0) rfl (by decide) c_1
    refine lv_lload_n hx hb dX6_isSide_6 rfl (lv_at hl 1 rfl) ?_
    refine lv_aload_n hx hb dX6_isSide_7 rfl (lv_at hl 0 rfl) ?_
    refine va_get (D := (dC, dI)) (ci := 6) (v := .ref gd) (C := RX6) (T := TX6) (N := 11) hx hb hts in_X6_isSide_X6 hown hK hP 0 rfl rfl 5 (by decide) (hts _ wd_X6_isSide_0) (fun _ h9 => h9) rfl dX6_isSide_8 ?_
    refine va_get (D := (dC, dI)) (ci := 0) (v := .ref pl) (C := RX0) (T := TX0) (N := 12) hx hb hts in_X6_isSide_X0 hown hK hP 1 rfl rfl 0 (by decide) (hts _ wd_X6_isSide_1) (fun _ h9 => h9) rfl dX6_isSide_11 ?_
    refine va_get (D := (dC, dI)) (ci := 3) (v := .int 0) (C := RX3) (T := TX3) (N := 9) hx hb hts in_X6_isSide_X3 hown hK hP 2 rfl rfl 3 (by decide) (hts _ wd_X6_isSide_2) (fun _ h9 => h9) rfl dX6_isSide_14 ?_
    refine lv_i2l (v := 0) hx hb dX6_isSide_17 (by decide) ?_
    refine W.lcmp hx hb dX6_isSide_18 ?_
    refine lv_if_ge (tgt := 26) hx hb dX6_isSide_19 (by decide) (fun c_2 => ?_) (fun c_2 => ?_)
    · have c_2 := (lg_cmp_ge p0 0).mp c_2
      have c_2 : 0 ≤ p0.toInt := i_leL (a := 0) (b := p0) (by decide) rfl c_2
      refine lv_iconst (v := 0) hx hb dX6_isSide_26 (by decide) ?_
      have hP9 := hP.sub (ws' := [(h0, .inr (6, [.ref tp, .int 0, .int 0, .int (-1), .ref rd, .ref gd, .ref im, .ref rw, .ref gn, .ref ho, .ref sq])), (gd, .inr (0, [.ref pl, .int 0, .long 0, .long 0, .int 0, .int (-1), .int 0, .ref gdt, .int 0, .ref gdu, .int 0, .ref gdn])), (pl, .inr (3, [.int 0, .int 0, .int 0, .int 0, .long 0, .ref plf, .ref plo, .ref plb, .ref pla]))]) [0, 1, 2] rfl
      have hD9 := hD.sub (ws' := [(h0, .inr (6, [.ref tp, .int 0, .int 0, .int (-1), .ref rd, .ref gd, .ref im, .ref rw, .ref gn, .ref ho, .ref sq])), (gd, .inr (0, [.ref pl, .int 0, .long 0, .long 0, .int 0, .int (-1), .int 0, .ref gdt, .int 0, .ref gdu, .int 0, .ref gdn])), (pl, .inr (3, [.int 0, .int 0, .int 0, .int 0, .long 0, .ref plf, .ref plo, .ref plb, .ref pla]))]) [0, 1, 2] (by decide) rfl
      have hK9 := hK.sub (tys' := []) [] rfl
      refine W.widen (k := 0) (n := 0) (by omega) (by omega) ?_
      exact W.zret (v := 0) hx hb hr (by decide) (fun t ht hW => ⟨⟨0, (), rfl, (by first | rfl | ((repeat' split) <;> (first | rfl | (exfalso; omega)))), by rw [ht]; exact hP9, va_K.moved hW.alike hK9, hD9⟩, hS.F ht⟩) hS.2.2 dX6_isSide_27
    · have c_2 := fun h => c_2 ((lg_cmp_ge p0 0).mpr h)
      have c_2 : p0.toInt < 0 := i_nleL (a := 0) (b := p0) (by decide) rfl c_2
      refine lv_iconst (v := 1) hx hb dX6_isSide_22 (by decide) ?_
      refine lv_goto (tgt := 27) hx hb dX6_isSide_23 (by decide) ?_
      have hP9 := hP.sub (ws' := [(h0, .inr (6, [.ref tp, .int 0, .int 0, .int (-1), .ref rd, .ref gd, .ref im, .ref rw, .ref gn, .ref ho, .ref sq])), (gd, .inr (0, [.ref pl, .int 0, .long 0, .long 0, .int 0, .int (-1), .int 0, .ref gdt, .int 0, .ref gdu, .int 0, .ref gdn])), (pl, .inr (3, [.int 0, .int 0, .int 0, .int 0, .long 0, .ref plf, .ref plo, .ref plb, .ref pla]))]) [0, 1, 2] rfl
      have hD9 := hD.sub (ws' := [(h0, .inr (6, [.ref tp, .int 0, .int 0, .int (-1), .ref rd, .ref gd, .ref im, .ref rw, .ref gn, .ref ho, .ref sq])), (gd, .inr (0, [.ref pl, .int 0, .long 0, .long 0, .int 0, .int (-1), .int 0, .ref gdt, .int 0, .ref gdu, .int 0, .ref gdn])), (pl, .inr (3, [.int 0, .int 0, .int 0, .int 0, .long 0, .ref plf, .ref plo, .ref plb, .ref pla]))]) [0, 1, 2] (by decide) rfl
      have hK9 := hK.sub (tys' := []) [] rfl
      refine W.widen (k := 0) (n := 0) (by omega) (by omega) ?_
      exact W.zret (v := 1) hx hb hr (by decide) (fun t ht hW => ⟨⟨1, (), rfl, (by first | rfl | ((repeat' split) <;> (first | rfl | (exfalso; omega)))), by rw [ht]; exact hP9, va_K.moved hW.alike hK9, hD9⟩, hS.F ht⟩) hS.2.2 dX6_isSide_27

theorem dX6_isGuest_0 : decode cX6_isGuest 0 = .ok (.iload_n 1, 1) := by decide +kernel
theorem dX6_isGuest_1 : decode cX6_isGuest 1 = .ok (.ifCond .lt 18, 3) := by decide +kernel
theorem dX6_isGuest_4 : decode cX6_isGuest 4 = .ok (.iload_n 1, 1) := by decide +kernel
theorem dX6_isGuest_5 : decode cX6_isGuest 5 = .ok (.aload_n 0, 1) := by decide +kernel
theorem dX6_isGuest_6 : decode cX6_isGuest 6 = .ok (.getfield 33, 3) := by decide +kernel
theorem dX6_isGuest_9 : decode cX6_isGuest 9 = .ok (.getfield 258, 3) := by decide +kernel
theorem dX6_isGuest_12 : decode cX6_isGuest 12 = .ok (.if_icmp .ge 7, 3) := by decide +kernel
theorem dX6_isGuest_15 : decode cX6_isGuest 15 = .ok (.iconst 1, 1) := by decide +kernel
theorem dX6_isGuest_16 : decode cX6_isGuest 16 = .ok (.goto 4, 3) := by decide +kernel
theorem dX6_isGuest_19 : decode cX6_isGuest 19 = .ok (.iconst 0, 1) := by decide +kernel
theorem dX6_isGuest_20 : decode cX6_isGuest 20 = .ok (.ireturn, 1) := by decide +kernel
def wz_X6_isGuest : List Cond := .code yX6_isGuest cX6_isGuest 2 (some .boolean) :: ([Cond.fieldLink RX6 33 "HedgeMaze" "garden" "LHedgeMaze$Garden;", Cond.fieldLink RX6 258 "HedgeMaze$Garden" "guestCount" "I"] ++ wsX60 ++ wsX00)
theorem wd_X6_isGuest_0 : Cond.fieldLink RX6 33 "HedgeMaze" "garden" "LHedgeMaze$Garden;" ∈ wz_X6_isGuest := List.mem_of_getElem? (i := 1) rfl
theorem wd_X6_isGuest_1 : Cond.fieldLink RX6 258 "HedgeMaze$Garden" "guestCount" "I" ∈ wz_X6_isGuest := List.mem_of_getElem? (i := 2) rfl
theorem in_X6_isGuest_X6 : ∀ w ∈ wsX60, w ∈ wz_X6_isGuest := fun _ h => List.mem_cons_of_mem _ (List.mem_append_left _ (List.mem_append_right _ h))
theorem in_X6_isGuest_X0 : ∀ w ∈ wsX00, w ∈ wz_X6_isGuest := fun _ h => List.mem_cons_of_mem _ (List.mem_append_right _ h)
set_option maxHeartbeats 4000000 in
set_option maxRecDepth 100000 in
theorem c_X6_isGuest (l : Launch) (dC : Nat → ClassId) (dI : Nat → Nat → Nat) (sz : Nat) (h0 : Nat) (tp : Nat) (rd : Nat) (gd : Nat) (im : Nat) (rw : Nat) (gn : Nat) (ho : Nat) (sq : Nat) (pl : Nat) (gdt : Nat) (gdu : Nat) (gdn : Nat) (p0 : Int32)  : Met l yX6_isGuest wz_X6_isGuest ({ frames := 0, cells := 0, slots := 0, locals := 0 }) (va_Pc [.ref h0, .int p0] (fun U => U.heap.size = sz ∧ va_P (dC, dI) vwCl [(h0, .inr (6, [.ref tp, .int 0, .int 0, .int (-1), .ref rd, .ref gd, .ref im, .ref rw, .ref gn, .ref ho, .ref sq])), (gd, .inr (0, [.ref pl, .int 0, .long 0, .long 0, .int 0, .int (-1), .int 0, .ref gdt, .int 0, .ref gdu, .int 0, .ref gdn]))] U.heap ∧ va_K (dC, dI) vwCl [] U ∧ va_D (fun _ => True) [(h0, .inr (6, [.ref tp, .int 0, .int 0, .int (-1), .ref rd, .ref gd, .ref im, .ref rw, .ref gn, .ref ho, .ref sq])), (gd, .inr (0, [.ref pl, .int 0, .long 0, .long 0, .int 0, .int (-1), .int 0, .ref gdt, .int 0, .ref gdu, .int 0, .ref gdn]))])) (va_Qi (fun (r : Int32) (u : Unit) => r = 0) (fun (u : Unit) (t : State) => va_P (dC, dI) vwCl [(h0, .inr (6, [.ref tp, .int 0, .int 0, .int (-1), .ref rd, .ref gd, .ref im, .ref rw, .ref gn, .ref ho, .ref sq])), (gd, .inr (0, [.ref pl, .int 0, .long 0, .long 0, .int 0, .int (-1), .int 0, .ref gdt, .int 0, .ref gdu, .int 0, .ref gdn]))] t.heap ∧ va_K (dC, dI) vwCl [] t ∧ va_D (va_A [(h0, .inr (6, [.ref tp, .int 0, .int 0, .int (-1), .ref rd, .ref gd, .ref im, .ref rw, .ref gn, .ref ho, .ref sq])), (gd, .inr (0, [.ref pl, .int 0, .long 0, .long 0, .int 0, .int (-1), .int 0, .ref gdt, .int 0, .ref gdu, .int 0, .ref gdn]))] sz) [(h0, .inr (6, [.ref tp, .int 0, .int 0, .int (-1), .ref rd, .ref gd, .ref im, .ref rw, .ref gn, .ref ho, .ref sq])), (gd, .inr (0, [.ref pl, .int 0, .long 0, .long 0, .int 0, .int (-1), .int 0, .ref gdt, .int 0, .ref gdu, .int 0, .ref gdn]))]) (va_A [(h0, .inr (6, [.ref tp, .int 0, .int 0, .int (-1), .ref rd, .ref gd, .ref im, .ref rw, .ref gn, .ref ho, .ref sq])), (gd, .inr (0, [.ref pl, .int 0, .long 0, .long 0, .int 0, .int (-1), .int 0, .ref gdt, .int 0, .ref gdu, .int 0, .ref gdn]))] sz)) 0 0 (va_A [(h0, .inr (6, [.ref tp, .int 0, .int 0, .int (-1), .ref rd, .ref gd, .ref im, .ref rw, .ref gn, .ref ho, .ref sq])), (gd, .inr (0, [.ref pl, .int 0, .long 0, .long 0, .int 0, .int (-1), .int 0, .ref gdt, .int 0, .ref gdu, .int 0, .ref gdn]))] sz) := by
  refine Met.ofW (cc := cX6_isGuest) (maxL := 2) (ret := (some .boolean)) (by decide) rfl ?_
  intro p e s m args below meth c s₁ B hml hv
  obtain ⟨rfl, hsz, hP, hK, hD0⟩ := hv
  have hx := B.exec
  have hb := B.bytes
  have hr := B.returns
  have hts := atoms_spec (ws := wz_X6_isGuest) B.pre
  have hown : s.vm.findClass RX6 = some m.cls := findClass_of_methodNamed B.named
  have hlocks := B.notSynchronized
  subst hsz
  have hD := hD0.self (sz := s.heap.size)
  generalize hAe : va_A [(h0, .inr (6, [.ref tp, .int 0, .int 0, .int (-1), .ref rd, .ref gd, .ref im, .ref rw, .ref gn, .ref ho, .ref sq])), (gd, .inr (0, [.ref pl, .int 0, .long 0, .long 0, .int 0, .int (-1), .int 0, .ref gdt, .int 0, .ref gdu, .int 0, .ref gdn]))] s.heap.size = A at hD ⊢
  have hA : ∀ q : Nat, s.heap.size ≤ q → A q := fun q h => by rw [← hAe]; exact Or.inr h
  have hS : va_S A s.heap s.heap [] := va_S.rf
  have hP : va_P (dC, dI) vwCl [(h0, .inr (6, [.ref tp, .int 0, .int 0, .int (-1), .ref rd, .ref gd, .ref im, .ref rw, .ref gn, .ref ho, .ref sq])), (gd, .inr (0, [.ref pl, .int 0, .long 0, .long 0, .int 0, .int (-1), .int 0, .ref gdt, .int 0, .ref gdu, .int 0, .ref gdn]))] s.heap := hP
  have hl := lv_entry ([.ref h0, .int p0]) (n := 2) (Nat.le_of_ble_eq_true rfl)
  rw [lg_entry_eq]
  generalize (lg_sl ([.ref h0, .int p0]) ++ List.replicate (2 - (lg_sl ([.ref h0, .int p0])).length) Slot.unset).toArray = ls at hl ⊢
  have hl : lv_has ls 2 [(0, .ref h0), (1, .int p0)] := hl
  refine lv_iload_n hx hb dX6_isGuest_0 rfl (lv_at hl 1 rfl) ?_
  refine lv_if_lt (tgt := 19) hx hb dX6_isGuest_1 (by decide) (fun c_1 => ?_) (fun c_1 => ?_)
  · have c_1 : p0.toInt < 0 := i_lt (a := p0) (b := 0) rfl (by decide) c_1
    refine lv_iconst (v := 0) hx hb dX6_isGuest_19 (by decide) ?_
    have hP9 := hP.sub (ws' := [(h0, .inr (6, [.ref tp, .int 0, .int 0, .int (-1), .ref rd, .ref gd, .ref im, .ref rw, .ref gn, .ref ho, .ref sq])), (gd, .inr (0, [.ref pl, .int 0, .long 0, .long 0, .int 0, .int (-1), .int 0, .ref gdt, .int 0, .ref gdu, .int 0, .ref gdn]))]) [0, 1] rfl
    have hD9 := hD.sub (ws' := [(h0, .inr (6, [.ref tp, .int 0, .int 0, .int (-1), .ref rd, .ref gd, .ref im, .ref rw, .ref gn, .ref ho, .ref sq])), (gd, .inr (0, [.ref pl, .int 0, .long 0, .long 0, .int 0, .int (-1), .int 0, .ref gdt, .int 0, .ref gdu, .int 0, .ref gdn]))]) [0, 1] (by decide) rfl
    have hK9 := hK.sub (tys' := []) [] rfl
    refine W.widen (k := 0) (n := 0) (by omega) (by omega) ?_
    exact W.zret (v := 0) hx hb hr (by decide) (fun t ht hW => ⟨⟨0, (), rfl, (by first | rfl | ((repeat' split) <;> (first | rfl | (exfalso; omega)))), by rw [ht]; exact hP9, va_K.moved hW.alike hK9, hD9⟩, hS.F ht⟩) hS.2.2 dX6_isGuest_20
  · have c_1 : 0 ≤ p0.toInt := i_nlt (a := p0) (b := 0) rfl (by decide) c_1
    refine lv_iload_n hx hb dX6_isGuest_4 rfl (lv_at hl 1 rfl) ?_
    refine lv_aload_n hx hb dX6_isGuest_5 rfl (lv_at hl 0 rfl) ?_
    refine va_get (D := (dC, dI)) (ci := 6) (v := .ref gd) (C := RX6) (T := TX6) (N := 11) hx hb hts in_X6_isGuest_X6 hown hK hP 0 rfl rfl 5 (by decide) (hts _ wd_X6_isGuest_0) (fun _ h9 => h9) rfl dX6_isGuest_6 ?_
    refine va_get (D := (dC, dI)) (ci := 0) (v := .int 0) (C := RX0) (T := TX0) (N := 12) hx hb hts in_X6_isGuest_X0 hown hK hP 1 rfl rfl 8 (by decide) (hts _ wd_X6_isGuest_1) (fun _ h9 => h9) rfl dX6_isGuest_9 ?_
    refine lv_icmp_ge (tgt := 19) hx hb dX6_isGuest_12 (by decide) (fun c_2 => ?_) (fun c_2 => ?_)
    · have c_2 : 0 ≤ p0.toInt := i_le (a := 0) (b := p0) (by decide) rfl c_2
      refine lv_iconst (v := 0) hx hb dX6_isGuest_19 (by decide) ?_
      have hP9 := hP.sub (ws' := [(h0, .inr (6, [.ref tp, .int 0, .int 0, .int (-1), .ref rd, .ref gd, .ref im, .ref rw, .ref gn, .ref ho, .ref sq])), (gd, .inr (0, [.ref pl, .int 0, .long 0, .long 0, .int 0, .int (-1), .int 0, .ref gdt, .int 0, .ref gdu, .int 0, .ref gdn]))]) [0, 1] rfl
      have hD9 := hD.sub (ws' := [(h0, .inr (6, [.ref tp, .int 0, .int 0, .int (-1), .ref rd, .ref gd, .ref im, .ref rw, .ref gn, .ref ho, .ref sq])), (gd, .inr (0, [.ref pl, .int 0, .long 0, .long 0, .int 0, .int (-1), .int 0, .ref gdt, .int 0, .ref gdu, .int 0, .ref gdn]))]) [0, 1] (by decide) rfl
      have hK9 := hK.sub (tys' := []) [] rfl
      refine W.widen (k := 0) (n := 0) (by omega) (by omega) ?_
      exact W.zret (v := 0) hx hb hr (by decide) (fun t ht hW => ⟨⟨0, (), rfl, (by first | rfl | ((repeat' split) <;> (first | rfl | (exfalso; omega)))), by rw [ht]; exact hP9, va_K.moved hW.alike hK9, hD9⟩, hS.F ht⟩) hS.2.2 dX6_isGuest_20
    · have c_2 : p0.toInt < 0 := i_nle (a := 0) (b := p0) (by decide) rfl c_2
      refine lv_iconst (v := 1) hx hb dX6_isGuest_15 (by decide) ?_
      refine lv_goto (tgt := 20) hx hb dX6_isGuest_16 (by decide) ?_
      have hP9 := hP.sub (ws' := [(h0, .inr (6, [.ref tp, .int 0, .int 0, .int (-1), .ref rd, .ref gd, .ref im, .ref rw, .ref gn, .ref ho, .ref sq])), (gd, .inr (0, [.ref pl, .int 0, .long 0, .long 0, .int 0, .int (-1), .int 0, .ref gdt, .int 0, .ref gdu, .int 0, .ref gdn]))]) [0, 1] rfl
      have hD9 := hD.sub (ws' := [(h0, .inr (6, [.ref tp, .int 0, .int 0, .int (-1), .ref rd, .ref gd, .ref im, .ref rw, .ref gn, .ref ho, .ref sq])), (gd, .inr (0, [.ref pl, .int 0, .long 0, .long 0, .int 0, .int (-1), .int 0, .ref gdt, .int 0, .ref gdu, .int 0, .ref gdn]))]) [0, 1] (by decide) rfl
      have hK9 := hK.sub (tys' := []) [] rfl
      refine W.widen (k := 0) (n := 0) (by omega) (by omega) ?_
      exact W.zret (v := 1) hx hb hr (by decide) (fun t ht hW => ⟨⟨1, (), rfl, (by first | rfl | ((repeat' split) <;> (first | rfl | (exfalso; omega)))), by rw [ht]; exact hP9, va_K.moved hW.alike hK9, hD9⟩, hS.F ht⟩) hS.2.2 dX6_isGuest_20

theorem dX6_isSlot_0 : decode cX6_isSlot 0 = .ok (.iload_n 0, 1) := by decide +kernel
theorem dX6_isSlot_1 : decode cX6_isSlot 1 = .ok (.ifCond .lt 12, 3) := by decide +kernel
theorem dX6_isSlot_4 : decode cX6_isSlot 4 = .ok (.iload_n 0, 1) := by decide +kernel
theorem dX6_isSlot_5 : decode cX6_isSlot 5 = .ok (.iconst 4, 1) := by decide +kernel
theorem dX6_isSlot_6 : decode cX6_isSlot 6 = .ok (.if_icmp .ge 7, 3) := by decide +kernel
theorem dX6_isSlot_9 : decode cX6_isSlot 9 = .ok (.iconst 1, 1) := by decide +kernel
theorem dX6_isSlot_10 : decode cX6_isSlot 10 = .ok (.goto 4, 3) := by decide +kernel
theorem dX6_isSlot_13 : decode cX6_isSlot 13 = .ok (.iconst 0, 1) := by decide +kernel
theorem dX6_isSlot_14 : decode cX6_isSlot 14 = .ok (.ireturn, 1) := by decide +kernel
def wz_X6_isSlot : List Cond := .code yX6_isSlot cX6_isSlot 1 (some .boolean) :: ([])
set_option maxHeartbeats 4000000 in
set_option maxRecDepth 100000 in
theorem c_X6_isSlot (l : Launch) (dC : Nat → ClassId) (dI : Nat → Nat → Nat) (sz : Nat) (p0 : Int32)  : Met l yX6_isSlot wz_X6_isSlot ({ frames := 0, cells := 0, slots := 0, locals := 0 }) (va_Pc [.int p0] (fun U => U.heap.size = sz ∧ va_P (dC, dI) vwCl [] U.heap ∧ va_K (dC, dI) vwCl [] U ∧ va_D (fun _ => True) [])) (va_Qi (fun (r : Int32) (u : Unit) => r = if 0 ≤ p0.toInt ∧ p0.toInt ≤ 3 then 1 else 0) (fun (_ : Unit) (_ : State) => True) (va_A [] sz)) 0 0 (va_A [] sz) := by
  refine Met.ofW (cc := cX6_isSlot) (maxL := 1) (ret := (some .boolean)) (by decide) rfl ?_
  intro p e s m args below meth c s₁ B hml hv
  obtain ⟨rfl, hsz, hP, hK, hD0⟩ := hv
  have hx := B.exec
  have hb := B.bytes
  have hr := B.returns
  have hts := atoms_spec (ws := wz_X6_isSlot) B.pre
  have hown : s.vm.findClass RX6 = some m.cls := findClass_of_methodNamed B.named
  have hlocks := B.notSynchronized
  subst hsz
  have hD := hD0.self (sz := s.heap.size)
  generalize hAe : va_A [] s.heap.size = A at hD ⊢
  have hA : ∀ q : Nat, s.heap.size ≤ q → A q := fun q h => by rw [← hAe]; exact Or.inr h
  have hS : va_S A s.heap s.heap [] := va_S.rf
  have hP : va_P (dC, dI) vwCl [] s.heap := hP
  have hl := lv_entry ([.int p0]) (n := 1) (Nat.le_of_ble_eq_true rfl)
  rw [lg_entry_eq]
  generalize (lg_sl ([.int p0]) ++ List.replicate (1 - (lg_sl ([.int p0])).length) Slot.unset).toArray = ls at hl ⊢
  have hl : lv_has ls 1 [(0, .int p0)] := hl
  refine lv_iload_n hx hb dX6_isSlot_0 rfl (lv_at hl 0 rfl) ?_
  refine lv_if_lt (tgt := 13) hx hb dX6_isSlot_1 (by decide) (fun c_1 => ?_) (fun c_1 => ?_)
  · have c_1 : p0.toInt < 0 := i_lt (a := p0) (b := 0) rfl (by decide) c_1
    refine lv_iconst (v := 0) hx hb dX6_isSlot_13 (by decide) ?_
    refine W.widen (k := 0) (n := 0) (by omega) (by omega) ?_
    exact W.zret (v := 0) hx hb hr (by decide) (fun t ht hW => ⟨⟨0, (), rfl, (by first | rfl | ((repeat' split) <;> (first | rfl | (exfalso; omega)))), trivial⟩, hS.F ht⟩) hS.2.2 dX6_isSlot_14
  · have c_1 : 0 ≤ p0.toInt := i_nlt (a := p0) (b := 0) rfl (by decide) c_1
    refine lv_iload_n hx hb dX6_isSlot_4 rfl (lv_at hl 0 rfl) ?_
    refine lv_iconst (v := 4) hx hb dX6_isSlot_5 (by decide) ?_
    refine lv_icmp_ge (tgt := 13) hx hb dX6_isSlot_6 (by decide) (fun c_2 => ?_) (fun c_2 => ?_)
    · have c_2 : 4 ≤ p0.toInt := i_le (a := 4) (b := p0) (by decide) rfl c_2
      refine lv_iconst (v := 0) hx hb dX6_isSlot_13 (by decide) ?_
      refine W.widen (k := 0) (n := 0) (by omega) (by omega) ?_
      exact W.zret (v := 0) hx hb hr (by decide) (fun t ht hW => ⟨⟨0, (), rfl, (by first | rfl | ((repeat' split) <;> (first | rfl | (exfalso; omega)))), trivial⟩, hS.F ht⟩) hS.2.2 dX6_isSlot_14
    · have c_2 : p0.toInt < 4 := i_nle (a := 4) (b := p0) (by decide) rfl c_2
      refine lv_iconst (v := 1) hx hb dX6_isSlot_9 (by decide) ?_
      refine lv_goto (tgt := 14) hx hb dX6_isSlot_10 (by decide) ?_
      refine W.widen (k := 0) (n := 0) (by omega) (by omega) ?_
      exact W.zret (v := 1) hx hb hr (by decide) (fun t ht hW => ⟨⟨1, (), rfl, (by first | rfl | ((repeat' split) <;> (first | rfl | (exfalso; omega)))), trivial⟩, hS.F ht⟩) hS.2.2 dX6_isSlot_14

theorem dX6_refusalOfWalk_0 : decode cX6_refusalOfWalk 0 = .ok (.iload_n 1, 1) := by decide +kernel
theorem dX6_refusalOfWalk_1 : decode cX6_refusalOfWalk 1 = .ok (.invokestatic 211, 3) := by decide +kernel
theorem dX6_refusalOfWalk_4 : decode cX6_refusalOfWalk 4 = .ok (.ifCond .eq 11, 3) := by decide +kernel
theorem dX6_refusalOfWalk_7 : decode cX6_refusalOfWalk 7 = .ok (.aload_n 0, 1) := by decide +kernel
theorem dX6_refusalOfWalk_8 : decode cX6_refusalOfWalk 8 = .ok (.iload_n 2, 1) := by decide +kernel
theorem dX6_refusalOfWalk_9 : decode cX6_refusalOfWalk 9 = .ok (.invokevirtual 99, 3) := by decide +kernel
theorem dX6_refusalOfWalk_12 : decode cX6_refusalOfWalk 12 = .ok (.ifCond .ne 6, 3) := by decide +kernel
theorem dX6_refusalOfWalk_15 : decode cX6_refusalOfWalk 15 = .ok (.bipush (-2), 2) := by decide +kernel
theorem dX6_refusalOfWalk_17 : decode cX6_refusalOfWalk 17 = .ok (.ireturn, 1) := by decide +kernel
def wz_X6_refusalOfWalk : List Cond := .code yX6_refusalOfWalk cX6_refusalOfWalk 5 (some .int) :: ([Cond.methodLink RX6 211 yX6_isSlot, Cond.static yX6_isSlot, Cond.initialized RX6, Cond.code yX6_isSlot cX6_isSlot 1 (some .boolean), Cond.methodLink RX6 99 yX6_isCell, Cond.instanceMethod yX6_isCell, Cond.selects RX6 yX6_isCell yX6_isCell, Cond.code yX6_isCell cX6_isCell 2 (some .boolean), Cond.fieldLink RX6 33 "HedgeMaze" "garden" "LHedgeMaze$Garden;", Cond.fieldLink RX6 90 "HedgeMaze$Garden" "plan" "LHedgeMaze$Plan;", Cond.fieldLink RX6 169 "HedgeMaze$Plan" "cellCount" "I"] ++ wsX60 ++ wsX00 ++ wsX30)
set_option maxRecDepth 20000 in
theorem g_X6_refusalOfWalk_X6_isSlot : GoodIn wz_X6_refusalOfWalk (va_wsS RX6 211 yX6_isSlot wz_X6_isSlot) := goodIn_r _ [1, 2, 3, 4] rfl (by decide +kernel)
set_option maxRecDepth 20000 in
theorem g_X6_refusalOfWalk_X6_isCell : GoodIn wz_X6_refusalOfWalk (wsV RX6 99 RX6 yX6_isCell wz_X6_isCell) := goodIn_r _ [5, 6, 7, 3, 8, 9, 10, 11, 12, 13, 14, 15, 16, 17, 18, 19, 20, 21, 22, 23, 24, 25, 26, 27, 28, 29, 30, 31, 32, 33, 34, 35, 36, 37, 38, 39, 40, 41, 42, 43] rfl (by decide +kernel)
set_option maxHeartbeats 4000000 in
set_option maxRecDepth 100000 in
theorem c_X6_refusalOfWalk (l : Launch) (dC : Nat → ClassId) (dI : Nat → Nat → Nat) (sz : Nat) (h0 : Nat) (tp : Nat) (rd : Nat) (gd : Nat) (im : Nat) (rw : Nat) (gn : Nat) (ho : Nat) (sq : Nat) (pl : Nat) (gdt : Nat) (gdu : Nat) (gdn : Nat) (plf : Nat) (plo : Nat) (plb : Nat) (pla : Nat) (p0 : Int32) (p1 : Int32)  : Met l yX6_refusalOfWalk wz_X6_refusalOfWalk ({ frames := 1, cells := 0, slots := 0, locals := 21 }) (va_Pc [.ref h0, .int p0, .int p1] (fun U => U.heap.size = sz ∧ va_P (dC, dI) vwCl [(h0, .inr (6, [.ref tp, .int 0, .int 0, .int (-1), .ref rd, .ref gd, .ref im, .ref rw, .ref gn, .ref ho, .ref sq])), (gd, .inr (0, [.ref pl, .int 0, .long 0, .long 0, .int 0, .int (-1), .int 0, .ref gdt, .int 0, .ref gdu, .int 0, .ref gdn])), (pl, .inr (3, [.int 0, .int 0, .int 0, .int 0, .long 0, .ref plf, .ref plo, .ref plb, .ref pla]))] U.heap ∧ va_K (dC, dI) vwCl [] U ∧ va_D (fun _ => True) [(h0, .inr (6, [.ref tp, .int 0, .int 0, .int (-1), .ref rd, .ref gd, .ref im, .ref rw, .ref gn, .ref ho, .ref sq])), (gd, .inr (0, [.ref pl, .int 0, .long 0, .long 0, .int 0, .int (-1), .int 0, .ref gdt, .int 0, .ref gdu, .int 0, .ref gdn])), (pl, .inr (3, [.int 0, .int 0, .int 0, .int 0, .long 0, .ref plf, .ref plo, .ref plb, .ref pla]))])) (va_Qi (fun (r : Int32) (u : Unit) => r = -2) (fun (_ : Unit) (_ : State) => True) (va_A [(h0, .inr (6, [.ref tp, .int 0, .int 0, .int (-1), .ref rd, .ref gd, .ref im, .ref rw, .ref gn, .ref ho, .ref sq])), (gd, .inr (0, [.ref pl, .int 0, .long 0, .long 0, .int 0, .int (-1), .int 0, .ref gdt, .int 0, .ref gdu, .int 0, .ref gdn])), (pl, .inr (3, [.int 0, .int 0, .int 0, .int 0, .long 0, .ref plf, .ref plo, .ref plb, .ref pla]))] sz)) 0 0 (va_A [(h0, .inr (6, [.ref tp, .int 0, .int 0, .int (-1), .ref rd, .ref gd, .ref im, .ref rw, .ref gn, .ref ho, .ref sq])), (gd, .inr (0, [.ref pl, .int 0, .long 0, .long 0, .int 0, .int (-1), .int 0, .ref gdt, .int 0, .ref gdu, .int 0, .ref gdn])), (pl, .inr (3, [.int 0, .int 0, .int 0, .int 0, .long 0, .ref plf, .ref plo, .ref plb, .ref pla]))] sz) := by
  refine Met.ofW (cc := cX6_refusalOfWalk) (maxL := 5) (ret := (some .int)) (by decide) rfl ?_
  intro p e s m args below meth c s₁ B hml hv
  obtain ⟨rfl, hsz, hP, hK, hD0⟩ := hv
  have hx := B.exec
  have hb := B.bytes
  have hr := B.returns
  have hts := atoms_spec (ws := wz_X6_refusalOfWalk) B.pre
  have hown : s.vm.findClass RX6 = some m.cls := findClass_of_methodNamed B.named
  have hlocks := B.notSynchronized
  subst hsz
  have hD := hD0.self (sz := s.heap.size)
  generalize hAe : va_A [(h0, .inr (6, [.ref tp, .int 0, .int 0, .int (-1), .ref rd, .ref gd, .ref im, .ref rw, .ref gn, .ref ho, .ref sq])), (gd, .inr (0, [.ref pl, .int 0, .long 0, .long 0, .int 0, .int (-1), .int 0, .ref gdt, .int 0, .ref gdu, .int 0, .ref gdn])), (pl, .inr (3, [.int 0, .int 0, .int 0, .int 0, .long 0, .ref plf, .ref plo, .ref plb, .ref pla]))] s.heap.size = A at hD ⊢
  have hA : ∀ q : Nat, s.heap.size ≤ q → A q := fun q h => by rw [← hAe]; exact Or.inr h
  have hS : va_S A s.heap s.heap [] := va_S.rf
  have hP : va_P (dC, dI) vwCl [(h0, .inr (6, [.ref tp, .int 0, .int 0, .int (-1), .ref rd, .ref gd, .ref im, .ref rw, .ref gn, .ref ho, .ref sq])), (gd, .inr (0, [.ref pl, .int 0, .long 0, .long 0, .int 0, .int (-1), .int 0, .ref gdt, .int 0, .ref gdu, .int 0, .ref gdn])), (pl, .inr (3, [.int 0, .int 0, .int 0, .int 0, .long 0, .ref plf, .ref plo, .ref plb, .ref pla]))] s.heap := hP
  have hl := lv_entry ([.ref h0, .int p0, .int p1]) (n := 5) (Nat.le_of_ble_eq_true rfl)
  rw [lg_entry_eq]
  generalize (lg_sl ([.ref h0, .int p0, .int p1]) ++ List.replicate (5 - (lg_sl ([.ref h0, .int p0, .int p1])).length) Slot.unset).toArray = ls at hl ⊢
  have hl : lv_has ls 5 [(0, .ref h0), (1, .int p0), (2, .int p1)] := hl
  refine lv_iload_n hx hb dX6_refusalOfWalk_0 rfl (lv_at hl 1 rfl) ?_
  have hPc := hP.sub (ws' := []) [] rfl
  have hDc := hD.sub (ws' := []) [] (by decide) rfl
  have hKc := hK.sub (tys' := []) [] rfl
  have hFc := va_free (wc := []) hD hS hA [] rfl
  refine va_calli (va_runS (As := [.int p0]) (rest := []) ⟨hx, hb, hml, hown, hts⟩ (c_X6_isSlot l dC dI s.heap.size p0 ) (va_cwS 1 hts g_X6_refusalOfWalk_X6_isSlot rfl rfl rfl (by decide +kernel) ⟨Nat.le_of_ble_eq_true rfl, Nat.le_of_ble_eq_true rfl⟩) ⟨fun a U g mk q => by obtain ⟨q0, q1, qP, qK, qD⟩ := q; exact ⟨q0, q1, qP, va_K.moved (u := U) (U := U.calling g mk a) (Vm.Alike.refl U.vm) qK, qD⟩, fun U hU hW => ⟨rfl, by rw [hU], by rw [hU]; exact hPc, va_K.moved hW.alike hKc, hDc.weaken (fun _ _ _ _ => trivial)⟩⟩ rfl rfl hl.1 rfl (lv_room (Nat.le_of_ble_eq_true rfl)) dX6_refusalOfWalk_1 ⟨Nat.le_of_ble_eq_true rfl, Nat.le_of_ble_eq_true rfl⟩) hS (fun q _ h => hFc q h) hFc (fun r_1 u t H1 locs ht hvm hw_2 hB hz1 hk1 hS => ?_)
  have hP1 : va_P (dC, dI) vwCl [] H1 := i_nilP
  have hD1 : va_D (va_A [] s.heap.size) [] := i_nilD
  try dsimp only at hw_2
  obtain ⟨hP, hD⟩ := va_join (wr := [(h0, .inr (6, [.ref tp, .int 0, .int 0, .int (-1), .ref rd, .ref gd, .ref im, .ref rw, .ref gn, .ref ho, .ref sq])), (gd, .inr (0, [.ref pl, .int 0, .long 0, .long 0, .int 0, .int (-1), .int 0, .ref gdt, .int 0, .ref gdu, .int 0, .ref gdn])), (pl, .inr (3, [.int 0, .int 0, .int 0, .int 0, .long 0, .ref plf, .ref plo, .ref plb, .ref pla]))]) (w1 := []) hP hD [] [0, 1, 2] rfl rfl (by decide) (by decide) hk1 hFc hP1 hD1
  generalize H1 = H at hP hS ⊢
  have hP : va_P (dC, dI) vwCl [(h0, .inr (6, [.ref tp, .int 0, .int 0, .int (-1), .ref rd, .ref gd, .ref im, .ref rw, .ref gn, .ref ho, .ref sq])), (gd, .inr (0, [.ref pl, .int 0, .long 0, .long 0, .int 0, .int (-1), .int 0, .ref gdt, .int 0, .ref gdu, .int 0, .ref gdn])), (pl, .inr (3, [.int 0, .int 0, .int 0, .int 0, .long 0, .ref plf, .ref plo, .ref plb, .ref pla]))] H := hP
  have hD : va_D A [(h0, .inr (6, [.ref tp, .int 0, .int 0, .int (-1), .ref rd, .ref gd, .ref im, .ref rw, .ref gn, .ref ho, .ref sq])), (gd, .inr (0, [.ref pl, .int 0, .long 0, .long 0, .int 0, .int (-1), .int 0, .ref gdt, .int 0, .ref gdu, .int 0, .ref gdn])), (pl, .inr (3, [.int 0, .int 0, .int 0, .int 0, .long 0, .ref plf, .ref plo, .ref plb, .ref pla]))] := hD
  rcases i_bool hw_2 with ⟨r_19, hC⟩ | ⟨r_19, hC⟩
  · obtain rfl : r_1 = 1 := r_19
    have hC_3 := hC
    refine lv_if_eq (tgt := 15) hx hb dX6_refusalOfWalk_4 (by decide) (fun h => absurd h (by decide)) (fun _ => ?_)
    refine lv_aload_n hx hb dX6_refusalOfWalk_7 rfl (lv_at hl 0 rfl) ?_
    refine lv_iload_n hx hb dX6_refusalOfWalk_8 rfl (lv_at hl 2 rfl) ?_
    have hPc := hP.sub (ws' := [(h0, .inr (6, [.ref tp, .int 0, .int 0, .int (-1), .ref rd, .ref gd, .ref im, .ref rw, .ref gn, .ref ho, .ref sq])), (gd, .inr (0, [.ref pl, .int 0, .long 0, .long 0, .int 0, .int (-1), .int 0, .ref gdt, .int 0, .ref gdu, .int 0, .ref gdn])), (pl, .inr (3, [.int 0, .int 0, .int 0, .int 0, .long 0, .ref plf, .ref plo, .ref plb, .ref pla]))]) [0, 1, 2] rfl
    have hDc := hD.sub (ws' := [(h0, .inr (6, [.ref tp, .int 0, .int 0, .int (-1), .ref rd, .ref gd, .ref im, .ref rw, .ref gn, .ref ho, .ref sq])), (gd, .inr (0, [.ref pl, .int 0, .long 0, .long 0, .int 0, .int (-1), .int 0, .ref gdt, .int 0, .ref gdu, .int 0, .ref gdn])), (pl, .inr (3, [.int 0, .int 0, .int 0, .int 0, .long 0, .ref plf, .ref plo, .ref plb, .ref pla]))]) [0, 1, 2] (by decide) rfl
    have hKc := hK.sub (tys' := []) [] rfl
    have hFc := va_free (wc := [(h0, .inr (6, [.ref tp, .int 0, .int 0, .int (-1), .ref rd, .ref gd, .ref im, .ref rw, .ref gn, .ref ho, .ref sq])), (gd, .inr (0, [.ref pl, .int 0, .long 0, .long 0, .int 0, .int (-1), .int 0, .ref gdt, .int 0, .ref gdu, .int 0, .ref gdn])), (pl, .inr (3, [.int 0, .int 0, .int 0, .int 0, .long 0, .ref plf, .ref plo, .ref plb, .ref pla]))]) hD hS hA [0, 1, 2] rfl
    refine va_calli (va_runV (As := [.int p1]) (rest := []) ⟨hx, hb, hml, hown, hts⟩ (c_X6_isCell l dC dI H.size h0 tp rd gd im rw gn ho sq pl gdt gdu gdn plf plo plb pla p1 ) (cwV 1 hts g_X6_refusalOfWalk_X6_isCell rfl rfl rfl (by decide +kernel) ⟨Nat.le_of_ble_eq_true rfl, Nat.le_of_ble_eq_true rfl⟩) ⟨fun a U g mk q => by obtain ⟨q0, q1, qP, qK, qD⟩ := q; exact ⟨q0, q1, qP, va_K.moved (u := U) (U := U.calling g mk a) (Vm.Alike.refl U.vm) qK, qD⟩, va_recv hKc hPc (ci := 6) (q0 := 0) rfl rfl, fun U hU hW => ⟨rfl, by rw [hU], by rw [hU]; exact hPc, va_K.moved hW.alike hKc, hDc.weaken (fun _ _ _ _ => trivial)⟩⟩ rfl rfl hl.1 rfl (lv_room (Nat.le_of_ble_eq_true rfl)) dX6_refusalOfWalk_9 ⟨Nat.le_of_ble_eq_true rfl, Nat.le_of_ble_eq_true rfl⟩) hS (fun q _ h => hFc q h) hFc (fun r_5 u t H1 locs ht hvm hw_6 hB hz1 hk1 hS => ?_)
    obtain ⟨hP1, hK1, hD1⟩ := hB
    have hP1 : va_P (dC, dI) vwCl [(h0, .inr (6, [.ref tp, .int 0, .int 0, .int (-1), .ref rd, .ref gd, .ref im, .ref rw, .ref gn, .ref ho, .ref sq])), (gd, .inr (0, [.ref pl, .int 0, .long 0, .long 0, .int 0, .int (-1), .int 0, .ref gdt, .int 0, .ref gdu, .int 0, .ref gdn])), (pl, .inr (3, [.int 0, .int 0, .int 0, .int 0, .long 0, .ref plf, .ref plo, .ref plb, .ref pla]))] t.heap := hP1
    rw [ht] at hP1
    try dsimp only at hw_6
    obtain ⟨hP, hD⟩ := va_join (wr := []) (w1 := [(h0, .inr (6, [.ref tp, .int 0, .int 0, .int (-1), .ref rd, .ref gd, .ref im, .ref rw, .ref gn, .ref ho, .ref sq])), (gd, .inr (0, [.ref pl, .int 0, .long 0, .long 0, .int 0, .int (-1), .int 0, .ref gdt, .int 0, .ref gdu, .int 0, .ref gdn])), (pl, .inr (3, [.int 0, .int 0, .int 0, .int 0, .long 0, .ref plf, .ref plo, .ref plb, .ref pla]))]) hP hD [0, 1, 2] [] rfl rfl (by decide) (by decide) hk1 hFc hP1 hD1
    generalize H1 = H at hP hS ⊢
    have hP : va_P (dC, dI) vwCl [(h0, .inr (6, [.ref tp, .int 0, .int 0, .int (-1), .ref rd, .ref gd, .ref im, .ref rw, .ref gn, .ref ho, .ref sq])), (gd, .inr (0, [.ref pl, .int 0, .long 0, .long 0, .int 0, .int (-1), .int 0, .ref gdt, .int 0, .ref gdu, .int 0, .ref gdn])), (pl, .inr (3, [.int 0, .int 0, .int 0, .int 0, .long 0, .ref plf, .ref plo, .ref plb, .ref pla]))] H := hP
    have hD : va_D A [(h0, .inr (6, [.ref tp, .int 0, .int 0, .int (-1), .ref rd, .ref gd, .ref im, .ref rw, .ref gn, .ref ho, .ref sq])), (gd, .inr (0, [.ref pl, .int 0, .long 0, .long 0, .int 0, .int (-1), .int 0, .ref gdt, .int 0, .ref gdu, .int 0, .ref gdn])), (pl, .inr (3, [.int 0, .int 0, .int 0, .int 0, .long 0, .ref plf, .ref plo, .ref plb, .ref pla]))] := hD
    obtain rfl : r_5 = 0 := hw_6
    refine lv_if_ne (tgt := 18) hx hb dX6_refusalOfWalk_12 (by decide) (fun h => absurd (by decide) h) (fun _ => ?_)
    refine lv_bipush (v := -2) hx hb dX6_refusalOfWalk_15 (by decide) ?_
    refine W.widen (k := 0) (n := 0) (by omega) (by omega) ?_
    exact W.iret (v := -2) hx hb hr (fun t ht hW => ⟨⟨(-2), (), rfl, (by first | rfl | ((repeat' split) <;> (first | rfl | (exfalso; omega)))), trivial⟩, hS.F ht⟩) hS.2.2 dX6_refusalOfWalk_17
  · obtain rfl : r_1 = 0 := r_19
    have hC_8 := hC
    refine lv_if_eq (tgt := 15) hx hb dX6_refusalOfWalk_4 (by decide) (fun _ => ?_) (fun h => absurd (by decide) h)
    refine lv_bipush (v := -2) hx hb dX6_refusalOfWalk_15 (by decide) ?_
    refine W.widen (k := 0) (n := 0) (by omega) (by omega) ?_
    exact W.iret (v := -2) hx hb hr (fun t ht hW => ⟨⟨(-2), (), rfl, (by first | rfl | ((repeat' split) <;> (first | rfl | (exfalso; omega)))), trivial⟩, hS.F ht⟩) hS.2.2 dX6_refusalOfWalk_17

