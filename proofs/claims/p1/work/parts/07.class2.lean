theorem dX6_sides_0 : decode cX6_sides 0 = .ok (.aload_n 0, 1) := by decide +kernel
theorem dX6_sides_1 : decode cX6_sides 1 = .ok (.invokevirtual 86, 3) := by decide +kernel
theorem dX6_sides_4 : decode cX6_sides 4 = .ok (.ifCond .eq 16, 3) := by decide +kernel
theorem dX6_sides_20 : decode cX6_sides 20 = .ok (.bipush (-2), 2) := by decide +kernel
theorem dX6_sides_22 : decode cX6_sides 22 = .ok (.ireturn, 1) := by decide +kernel
def wz_X6_sides : List Cond := .code yX6_sides cX6_sides 1 (some .int) :: ([Cond.methodLink RX6 86 yX6_hasMaze, Cond.instanceMethod yX6_hasMaze, Cond.selects RX6 yX6_hasMaze yX6_hasMaze, Cond.initialized RX6, Cond.code yX6_hasMaze cX6_hasMaze 1 (some .boolean), Cond.fieldLink RX6 33 "HedgeMaze" "garden" "LHedgeMaze$Garden;", Cond.fieldLink RX6 83 "HedgeMaze$Garden" "lines" "I"] ++ wsX60 ++ wsX00)
set_option maxRecDepth 20000 in
theorem g_X6_sides_X6_hasMaze : GoodIn wz_X6_sides (wsV RX6 86 RX6 yX6_hasMaze wz_X6_hasMaze) := goodIn_r _ [1, 2, 3, 4, 5, 6, 7, 8, 9, 10, 11, 12, 13, 14, 15, 16, 17, 18, 19, 20, 21, 22, 23, 24, 25, 26, 27, 28, 29, 30] rfl (by decide +kernel)
set_option maxHeartbeats 4000000 in
set_option maxRecDepth 100000 in
theorem c_X6_sides (l : Launch) (dC : Nat → ClassId) (dI : Nat → Nat → Nat) (sz : Nat) (h0 : Nat) (tp : Nat) (rd : Nat) (gd : Nat) (im : Nat) (rw : Nat) (gn : Nat) (ho : Nat) (sq : Nat) (pl : Nat) (gdt : Nat) (gdu : Nat) (gdn : Nat) (plf : Nat) (plo : Nat) (plb : Nat) (pla : Nat)  : Met l yX6_sides wz_X6_sides ({ frames := 1, cells := 0, slots := 0, locals := 20 }) (va_Pc [.ref h0] (fun U => U.heap.size = sz ∧ va_P (dC, dI) vwCl [(h0, .inr (6, [.ref tp, .int 0, .int 0, .int (-1), .ref rd, .ref gd, .ref im, .ref rw, .ref gn, .ref ho, .ref sq])), (gd, .inr (0, [.ref pl, .int 0, .long 0, .long 0, .int 0, .int (-1), .int 0, .ref gdt, .int 0, .ref gdu, .int 0, .ref gdn])), (pl, .inr (3, [.int 0, .int 0, .int 0, .int 0, .long 0, .ref plf, .ref plo, .ref plb, .ref pla]))] U.heap ∧ va_K (dC, dI) vwCl [] U ∧ va_D (fun _ => True) [(h0, .inr (6, [.ref tp, .int 0, .int 0, .int (-1), .ref rd, .ref gd, .ref im, .ref rw, .ref gn, .ref ho, .ref sq])), (gd, .inr (0, [.ref pl, .int 0, .long 0, .long 0, .int 0, .int (-1), .int 0, .ref gdt, .int 0, .ref gdu, .int 0, .ref gdn])), (pl, .inr (3, [.int 0, .int 0, .int 0, .int 0, .long 0, .ref plf, .ref plo, .ref plb, .ref pla]))])) (va_Qi (fun (r : Int32) (u : Unit) => r = -2) (fun (_ : Unit) (_ : State) => True) (va_A [(h0, .inr (6, [.ref tp, .int 0, .int 0, .int (-1), .ref rd, .ref gd, .ref im, .ref rw, .ref gn, .ref ho, .ref sq])), (gd, .inr (0, [.ref pl, .int 0, .long 0, .long 0, .int 0, .int (-1), .int 0, .ref gdt, .int 0, .ref gdu, .int 0, .ref gdn])), (pl, .inr (3, [.int 0, .int 0, .int 0, .int 0, .long 0, .ref plf, .ref plo, .ref plb, .ref pla]))] sz)) 0 0 (va_A [(h0, .inr (6, [.ref tp, .int 0, .int 0, .int (-1), .ref rd, .ref gd, .ref im, .ref rw, .ref gn, .ref ho, .ref sq])), (gd, .inr (0, [.ref pl, .int 0, .long 0, .long 0, .int 0, .int (-1), .int 0, .ref gdt, .int 0, .ref gdu, .int 0, .ref gdn])), (pl, .inr (3, [.int 0, .int 0, .int 0, .int 0, .long 0, .ref plf, .ref plo, .ref plb, .ref pla]))] sz) := by
  refine Met.ofW (cc := cX6_sides) (maxL := 1) (ret := (some .int)) (by decide) rfl ?_
  intro p e s m args below meth c s₁ B hml hv
  obtain ⟨rfl, hsz, hP, hK, hD0⟩ := hv
  have hx := B.exec
  have hb := B.bytes
  have hr := B.returns
  have hts := atoms_spec (ws := wz_X6_sides) B.pre
  have hown : s.vm.findClass RX6 = some m.cls := findClass_of_methodNamed B.named
  have hlocks := B.notSynchronized
  subst hsz
  have hD := hD0.self (sz := s.heap.size)
  generalize hAe : va_A [(h0, .inr (6, [.ref tp, .int 0, .int 0, .int (-1), .ref rd, .ref gd, .ref im, .ref rw, .ref gn, .ref ho, .ref sq])), (gd, .inr (0, [.ref pl, .int 0, .long 0, .long 0, .int 0, .int (-1), .int 0, .ref gdt, .int 0, .ref gdu, .int 0, .ref gdn])), (pl, .inr (3, [.int 0, .int 0, .int 0, .int 0, .long 0, .ref plf, .ref plo, .ref plb, .ref pla]))] s.heap.size = A at hD ⊢
  have hA : ∀ q : Nat, s.heap.size ≤ q → A q := fun q h => by rw [← hAe]; exact Or.inr h
  have hS : va_S A s.heap s.heap [] := va_S.rf
  have hP : va_P (dC, dI) vwCl [(h0, .inr (6, [.ref tp, .int 0, .int 0, .int (-1), .ref rd, .ref gd, .ref im, .ref rw, .ref gn, .ref ho, .ref sq])), (gd, .inr (0, [.ref pl, .int 0, .long 0, .long 0, .int 0, .int (-1), .int 0, .ref gdt, .int 0, .ref gdu, .int 0, .ref gdn])), (pl, .inr (3, [.int 0, .int 0, .int 0, .int 0, .long 0, .ref plf, .ref plo, .ref plb, .ref pla]))] s.heap := hP
  have hl := lv_entry ([.ref h0]) (n := 1) (Nat.le_of_ble_eq_true rfl)
  rw [lg_entry_eq]
  generalize (lg_sl ([.ref h0]) ++ List.replicate (1 - (lg_sl ([.ref h0])).length) Slot.unset).toArray = ls at hl ⊢
  have hl : lv_has ls 1 [(0, .ref h0)] := hl
  refine lv_aload_n hx hb dX6_sides_0 rfl (lv_at hl 0 rfl) ?_
  have hPc := hP.sub (ws' := [(h0, .inr (6, [.ref tp, .int 0, .int 0, .int (-1), .ref rd, .ref gd, .ref im, .ref rw, .ref gn, .ref ho, .ref sq])), (gd, .inr (0, [.ref pl, .int 0, .long 0, .long 0, .int 0, .int (-1), .int 0, .ref gdt, .int 0, .ref gdu, .int 0, .ref gdn]))]) [0, 1] rfl
  have hDc := hD.sub (ws' := [(h0, .inr (6, [.ref tp, .int 0, .int 0, .int (-1), .ref rd, .ref gd, .ref im, .ref rw, .ref gn, .ref ho, .ref sq])), (gd, .inr (0, [.ref pl, .int 0, .long 0, .long 0, .int 0, .int (-1), .int 0, .ref gdt, .int 0, .ref gdu, .int 0, .ref gdn]))]) [0, 1] (by decide) rfl
  have hKc := hK.sub (tys' := []) [] rfl
  have hFc := va_free (wc := [(h0, .inr (6, [.ref tp, .int 0, .int 0, .int (-1), .ref rd, .ref gd, .ref im, .ref rw, .ref gn, .ref ho, .ref sq])), (gd, .inr (0, [.ref pl, .int 0, .long 0, .long 0, .int 0, .int (-1), .int 0, .ref gdt, .int 0, .ref gdu, .int 0, .ref gdn]))]) hD hS hA [0, 1] rfl
  refine va_calli (va_runV (As := []) (rest := []) ⟨hx, hb, hml, hown, hts⟩ (c_X6_hasMaze l dC dI s.heap.size h0 tp rd gd im rw gn ho sq pl gdt gdu gdn ) (cwV 0 hts g_X6_sides_X6_hasMaze rfl rfl rfl (by decide +kernel) ⟨Nat.le_of_ble_eq_true rfl, Nat.le_of_ble_eq_true rfl⟩) ⟨fun a U g mk q => by obtain ⟨q0, q1, qP, qK, qD⟩ := q; exact ⟨q0, q1, qP, va_K.moved (u := U) (U := U.calling g mk a) (Vm.Alike.refl U.vm) qK, qD⟩, va_recv hKc hPc (ci := 6) (q0 := 0) rfl rfl, fun U hU hW => ⟨rfl, by rw [hU], by rw [hU]; exact hPc, va_K.moved hW.alike hKc, hDc.weaken (fun _ _ _ _ => trivial)⟩⟩ rfl rfl hl.1 rfl (lv_room (Nat.le_of_ble_eq_true rfl)) dX6_sides_1 ⟨Nat.le_of_ble_eq_true rfl, Nat.le_of_ble_eq_true rfl⟩) hS (fun q _ h => hFc q h) hFc (fun r_1 u t H1 locs ht hvm hw_2 hB hz1 hk1 hS => ?_)
  obtain ⟨hP1, hK1, hD1⟩ := hB
  have hP1 : va_P (dC, dI) vwCl [(h0, .inr (6, [.ref tp, .int 0, .int 0, .int (-1), .ref rd, .ref gd, .ref im, .ref rw, .ref gn, .ref ho, .ref sq])), (gd, .inr (0, [.ref pl, .int 0, .long 0, .long 0, .int 0, .int (-1), .int 0, .ref gdt, .int 0, .ref gdu, .int 0, .ref gdn]))] t.heap := hP1
  rw [ht] at hP1
  try dsimp only at hw_2
  obtain ⟨hP, hD⟩ := va_join (wr := [(pl, .inr (3, [.int 0, .int 0, .int 0, .int 0, .long 0, .ref plf, .ref plo, .ref plb, .ref pla]))]) (w1 := [(h0, .inr (6, [.ref tp, .int 0, .int 0, .int (-1), .ref rd, .ref gd, .ref im, .ref rw, .ref gn, .ref ho, .ref sq])), (gd, .inr (0, [.ref pl, .int 0, .long 0, .long 0, .int 0, .int (-1), .int 0, .ref gdt, .int 0, .ref gdu, .int 0, .ref gdn]))]) hP hD [0, 1] [2] rfl rfl (by decide) (by decide) hk1 hFc hP1 hD1
  generalize H1 = H at hP hS ⊢
  have hP : va_P (dC, dI) vwCl [(pl, .inr (3, [.int 0, .int 0, .int 0, .int 0, .long 0, .ref plf, .ref plo, .ref plb, .ref pla])), (h0, .inr (6, [.ref tp, .int 0, .int 0, .int (-1), .ref rd, .ref gd, .ref im, .ref rw, .ref gn, .ref ho, .ref sq])), (gd, .inr (0, [.ref pl, .int 0, .long 0, .long 0, .int 0, .int (-1), .int 0, .ref gdt, .int 0, .ref gdu, .int 0, .ref gdn]))] H := hP
  have hD : va_D A [(pl, .inr (3, [.int 0, .int 0, .int 0, .int 0, .long 0, .ref plf, .ref plo, .ref plb, .ref pla])), (h0, .inr (6, [.ref tp, .int 0, .int 0, .int (-1), .ref rd, .ref gd, .ref im, .ref rw, .ref gn, .ref ho, .ref sq])), (gd, .inr (0, [.ref pl, .int 0, .long 0, .long 0, .int 0, .int (-1), .int 0, .ref gdt, .int 0, .ref gdu, .int 0, .ref gdn]))] := hD
  obtain rfl : r_1 = 0 := hw_2
  refine lv_if_eq (tgt := 20) hx hb dX6_sides_4 (by decide) (fun _ => ?_) (fun h => absurd (by decide) h)
  refine lv_bipush (v := -2) hx hb dX6_sides_20 (by decide) ?_
  refine W.widen (k := 0) (n := 0) (by omega) (by omega) ?_
  exact W.iret (v := -2) hx hb hr (fun t ht hW => ⟨⟨(-2), (), rfl, (by first | rfl | ((repeat' split) <;> (first | rfl | (exfalso; omega)))), trivial⟩, hS.F ht⟩) hS.2.2 dX6_sides_22

theorem dX6_side_0 : decode cX6_side 0 = .ok (.aload_n 0, 1) := by decide +kernel
theorem dX6_side_1 : decode cX6_side 1 = .ok (.iload_n 1, 1) := by decide +kernel
theorem dX6_side_2 : decode cX6_side 2 = .ok (.invokevirtual 99, 3) := by decide +kernel
theorem dX6_side_5 : decode cX6_side 5 = .ok (.ifCond .eq 12, 3) := by decide +kernel
theorem dX6_side_17 : decode cX6_side 17 = .ok (.bipush (-2), 2) := by decide +kernel
theorem dX6_side_19 : decode cX6_side 19 = .ok (.ireturn, 1) := by decide +kernel
def wz_X6_side : List Cond := .code yX6_side cX6_side 3 (some .int) :: ([Cond.methodLink RX6 99 yX6_isCell, Cond.instanceMethod yX6_isCell, Cond.selects RX6 yX6_isCell yX6_isCell, Cond.initialized RX6, Cond.code yX6_isCell cX6_isCell 2 (some .boolean), Cond.fieldLink RX6 33 "HedgeMaze" "garden" "LHedgeMaze$Garden;", Cond.fieldLink RX6 90 "HedgeMaze$Garden" "plan" "LHedgeMaze$Plan;", Cond.fieldLink RX6 169 "HedgeMaze$Plan" "cellCount" "I"] ++ wsX60 ++ wsX00 ++ wsX30)
set_option maxRecDepth 20000 in
theorem g_X6_side_X6_isCell : GoodIn wz_X6_side (wsV RX6 99 RX6 yX6_isCell wz_X6_isCell) := goodIn_r _ [1, 2, 3, 4, 5, 6, 7, 8, 9, 10, 11, 12, 13, 14, 15, 16, 17, 18, 19, 20, 21, 22, 23, 24, 25, 26, 27, 28, 29, 30, 31, 32, 33, 34, 35, 36, 37, 38, 39, 40] rfl (by decide +kernel)
set_option maxHeartbeats 4000000 in
set_option maxRecDepth 100000 in
theorem c_X6_side (l : Launch) (dC : Nat → ClassId) (dI : Nat → Nat → Nat) (sz : Nat) (h0 : Nat) (tp : Nat) (rd : Nat) (gd : Nat) (im : Nat) (rw : Nat) (gn : Nat) (ho : Nat) (sq : Nat) (pl : Nat) (gdt : Nat) (gdu : Nat) (gdn : Nat) (plf : Nat) (plo : Nat) (plb : Nat) (pla : Nat) (p0 : Int32) (p1 : Int32)  : Met l yX6_side wz_X6_side ({ frames := 1, cells := 0, slots := 0, locals := 21 }) (va_Pc [.ref h0, .int p0, .int p1] (fun U => U.heap.size = sz ∧ va_P (dC, dI) vwCl [(h0, .inr (6, [.ref tp, .int 0, .int 0, .int (-1), .ref rd, .ref gd, .ref im, .ref rw, .ref gn, .ref ho, .ref sq])), (gd, .inr (0, [.ref pl, .int 0, .long 0, .long 0, .int 0, .int (-1), .int 0, .ref gdt, .int 0, .ref gdu, .int 0, .ref gdn])), (pl, .inr (3, [.int 0, .int 0, .int 0, .int 0, .long 0, .ref plf, .ref plo, .ref plb, .ref pla]))] U.heap ∧ va_K (dC, dI) vwCl [] U ∧ va_D (fun _ => True) [(h0, .inr (6, [.ref tp, .int 0, .int 0, .int (-1), .ref rd, .ref gd, .ref im, .ref rw, .ref gn, .ref ho, .ref sq])), (gd, .inr (0, [.ref pl, .int 0, .long 0, .long 0, .int 0, .int (-1), .int 0, .ref gdt, .int 0, .ref gdu, .int 0, .ref gdn])), (pl, .inr (3, [.int 0, .int 0, .int 0, .int 0, .long 0, .ref plf, .ref plo, .ref plb, .ref pla]))])) (va_Qi (fun (r : Int32) (u : Unit) => r = -2) (fun (_ : Unit) (_ : State) => True) (va_A [(h0, .inr (6, [.ref tp, .int 0, .int 0, .int (-1), .ref rd, .ref gd, .ref im, .ref rw, .ref gn, .ref ho, .ref sq])), (gd, .inr (0, [.ref pl, .int 0, .long 0, .long 0, .int 0, .int (-1), .int 0, .ref gdt, .int 0, .ref gdu, .int 0, .ref gdn])), (pl, .inr (3, [.int 0, .int 0, .int 0, .int 0, .long 0, .ref plf, .ref plo, .ref plb, .ref pla]))] sz)) 0 0 (va_A [(h0, .inr (6, [.ref tp, .int 0, .int 0, .int (-1), .ref rd, .ref gd, .ref im, .ref rw, .ref gn, .ref ho, .ref sq])), (gd, .inr (0, [.ref pl, .int 0, .long 0, .long 0, .int 0, .int (-1), .int 0, .ref gdt, .int 0, .ref gdu, .int 0, .ref gdn])), (pl, .inr (3, [.int 0, .int 0, .int 0, .int 0, .long 0, .ref plf, .ref plo, .ref plb, .ref pla]))] sz) := by
  refine Met.ofW (cc := cX6_side) (maxL := 3) (ret := (some .int)) (by decide) rfl ?_
  intro p e s m args below meth c s₁ B hml hv
  obtain ⟨rfl, hsz, hP, hK, hD0⟩ := hv
  have hx := B.exec
  have hb := B.bytes
  have hr := B.returns
  have hts := atoms_spec (ws := wz_X6_side) B.pre
  have hown : s.vm.findClass RX6 = some m.cls := findClass_of_methodNamed B.named
  have hlocks := B.notSynchronized
  subst hsz
  have hD := hD0.self (sz := s.heap.size)
  generalize hAe : va_A [(h0, .inr (6, [.ref tp, .int 0, .int 0, .int (-1), .ref rd, .ref gd, .ref im, .ref rw, .ref gn, .ref ho, .ref sq])), (gd, .inr (0, [.ref pl, .int 0, .long 0, .long 0, .int 0, .int (-1), .int 0, .ref gdt, .int 0, .ref gdu, .int 0, .ref gdn])), (pl, .inr (3, [.int 0, .int 0, .int 0, .int 0, .long 0, .ref plf, .ref plo, .ref plb, .ref pla]))] s.heap.size = A at hD ⊢
  have hA : ∀ q : Nat, s.heap.size ≤ q → A q := fun q h => by rw [← hAe]; exact Or.inr h
  have hS : va_S A s.heap s.heap [] := va_S.rf
  have hP : va_P (dC, dI) vwCl [(h0, .inr (6, [.ref tp, .int 0, .int 0, .int (-1), .ref rd, .ref gd, .ref im, .ref rw, .ref gn, .ref ho, .ref sq])), (gd, .inr (0, [.ref pl, .int 0, .long 0, .long 0, .int 0, .int (-1), .int 0, .ref gdt, .int 0, .ref gdu, .int 0, .ref gdn])), (pl, .inr (3, [.int 0, .int 0, .int 0, .int 0, .long 0, .ref plf, .ref plo, .ref plb, .ref pla]))] s.heap := hP
  have hl := lv_entry ([.ref h0, .int p0, .int p1]) (n := 3) (Nat.le_of_ble_eq_true rfl)
  rw [lg_entry_eq]
  generalize (lg_sl ([.ref h0, .int p0, .int p1]) ++ List.replicate (3 - (lg_sl ([.ref h0, .int p0, .int p1])).length) Slot.unset).toArray = ls at hl ⊢
  have hl : lv_has ls 3 [(0, .ref h0), (1, .int p0), (2, .int p1)] := hl
  refine lv_aload_n hx hb dX6_side_0 rfl (lv_at hl 0 rfl) ?_
  refine lv_iload_n hx hb dX6_side_1 rfl (lv_at hl 1 rfl) ?_
  have hPc := hP.sub (ws' := [(h0, .inr (6, [.ref tp, .int 0, .int 0, .int (-1), .ref rd, .ref gd, .ref im, .ref rw, .ref gn, .ref ho, .ref sq])), (gd, .inr (0, [.ref pl, .int 0, .long 0, .long 0, .int 0, .int (-1), .int 0, .ref gdt, .int 0, .ref gdu, .int 0, .ref gdn])), (pl, .inr (3, [.int 0, .int 0, .int 0, .int 0, .long 0, .ref plf, .ref plo, .ref plb, .ref pla]))]) [0, 1, 2] rfl
  have hDc := hD.sub (ws' := [(h0, .inr (6, [.ref tp, .int 0, .int 0, .int (-1), .ref rd, .ref gd, .ref im, .ref rw, .ref gn, .ref ho, .ref sq])), (gd, .inr (0, [.ref pl, .int 0, .long 0, .long 0, .int 0, .int (-1), .int 0, .ref gdt, .int 0, .ref gdu, .int 0, .ref gdn])), (pl, .inr (3, [.int 0, .int 0, .int 0, .int 0, .long 0, .ref plf, .ref plo, .ref plb, .ref pla]))]) [0, 1, 2] (by decide) rfl
  have hKc := hK.sub (tys' := []) [] rfl
  have hFc := va_free (wc := [(h0, .inr (6, [.ref tp, .int 0, .int 0, .int (-1), .ref rd, .ref gd, .ref im, .ref rw, .ref gn, .ref ho, .ref sq])), (gd, .inr (0, [.ref pl, .int 0, .long 0, .long 0, .int 0, .int (-1), .int 0, .ref gdt, .int 0, .ref gdu, .int 0, .ref gdn])), (pl, .inr (3, [.int 0, .int 0, .int 0, .int 0, .long 0, .ref plf, .ref plo, .ref plb, .ref pla]))]) hD hS hA [0, 1, 2] rfl
  refine va_calli (va_runV (As := [.int p0]) (rest := []) ⟨hx, hb, hml, hown, hts⟩ (c_X6_isCell l dC dI s.heap.size h0 tp rd gd im rw gn ho sq pl gdt gdu gdn plf plo plb pla p0 ) (cwV 1 hts g_X6_side_X6_isCell rfl rfl rfl (by decide +kernel) ⟨Nat.le_of_ble_eq_true rfl, Nat.le_of_ble_eq_true rfl⟩) ⟨fun a U g mk q => by obtain ⟨q0, q1, qP, qK, qD⟩ := q; exact ⟨q0, q1, qP, va_K.moved (u := U) (U := U.calling g mk a) (Vm.Alike.refl U.vm) qK, qD⟩, va_recv hKc hPc (ci := 6) (q0 := 0) rfl rfl, fun U hU hW => ⟨rfl, by rw [hU], by rw [hU]; exact hPc, va_K.moved hW.alike hKc, hDc.weaken (fun _ _ _ _ => trivial)⟩⟩ rfl rfl hl.1 rfl (lv_room (Nat.le_of_ble_eq_true rfl)) dX6_side_2 ⟨Nat.le_of_ble_eq_true rfl, Nat.le_of_ble_eq_true rfl⟩) hS (fun q _ h => hFc q h) hFc (fun r_1 u t H1 locs ht hvm hw_2 hB hz1 hk1 hS => ?_)
  obtain ⟨hP1, hK1, hD1⟩ := hB
  have hP1 : va_P (dC, dI) vwCl [(h0, .inr (6, [.ref tp, .int 0, .int 0, .int (-1), .ref rd, .ref gd, .ref im, .ref rw, .ref gn, .ref ho, .ref sq])), (gd, .inr (0, [.ref pl, .int 0, .long 0, .long 0, .int 0, .int (-1), .int 0, .ref gdt, .int 0, .ref gdu, .int 0, .ref gdn])), (pl, .inr (3, [.int 0, .int 0, .int 0, .int 0, .long 0, .ref plf, .ref plo, .ref plb, .ref pla]))] t.heap := hP1
  rw [ht] at hP1
  try dsimp only at hw_2
  obtain ⟨hP, hD⟩ := va_join (wr := []) (w1 := [(h0, .inr (6, [.ref tp, .int 0, .int 0, .int (-1), .ref rd, .ref gd, .ref im, .ref rw, .ref gn, .ref ho, .ref sq])), (gd, .inr (0, [.ref pl, .int 0, .long 0, .long 0, .int 0, .int (-1), .int 0, .ref gdt, .int 0, .ref gdu, .int 0, .ref gdn])), (pl, .inr (3, [.int 0, .int 0, .int 0, .int 0, .long 0, .ref plf, .ref plo, .ref plb, .ref pla]))]) hP hD [0, 1, 2] [] rfl rfl (by decide) (by decide) hk1 hFc hP1 hD1
  generalize H1 = H at hP hS ⊢
  have hP : va_P (dC, dI) vwCl [(h0, .inr (6, [.ref tp, .int 0, .int 0, .int (-1), .ref rd, .ref gd, .ref im, .ref rw, .ref gn, .ref ho, .ref sq])), (gd, .inr (0, [.ref pl, .int 0, .long 0, .long 0, .int 0, .int (-1), .int 0, .ref gdt, .int 0, .ref gdu, .int 0, .ref gdn])), (pl, .inr (3, [.int 0, .int 0, .int 0, .int 0, .long 0, .ref plf, .ref plo, .ref plb, .ref pla]))] H := hP
  have hD : va_D A [(h0, .inr (6, [.ref tp, .int 0, .int 0, .int (-1), .ref rd, .ref gd, .ref im, .ref rw, .ref gn, .ref ho, .ref sq])), (gd, .inr (0, [.ref pl, .int 0, .long 0, .long 0, .int 0, .int (-1), .int 0, .ref gdt, .int 0, .ref gdu, .int 0, .ref gdn])), (pl, .inr (3, [.int 0, .int 0, .int 0, .int 0, .long 0, .ref plf, .ref plo, .ref plb, .ref pla]))] := hD
  obtain rfl : r_1 = 0 := hw_2
  refine lv_if_eq (tgt := 17) hx hb dX6_side_5 (by decide) (fun _ => ?_) (fun h => absurd (by decide) h)
  refine lv_bipush (v := -2) hx hb dX6_side_17 (by decide) ?_
  refine W.widen (k := 0) (n := 0) (by omega) (by omega) ?_
  exact W.iret (v := -2) hx hb hr (fun t ht hW => ⟨⟨(-2), (), rfl, (by first | rfl | ((repeat' split) <;> (first | rfl | (exfalso; omega)))), trivial⟩, hS.F ht⟩) hS.2.2 dX6_side_19

theorem dX6_what_0 : decode cX6_what 0 = .ok (.aload_n 0, 1) := by decide +kernel
theorem dX6_what_1 : decode cX6_what 1 = .ok (.iload_n 1, 1) := by decide +kernel
theorem dX6_what_2 : decode cX6_what 2 = .ok (.i2l, 1) := by decide +kernel
theorem dX6_what_3 : decode cX6_what 3 = .ok (.invokevirtual 107, 3) := by decide +kernel
theorem dX6_what_6 : decode cX6_what 6 = .ok (.ifCond .eq 12, 3) := by decide +kernel
theorem dX6_what_18 : decode cX6_what 18 = .ok (.bipush (-2), 2) := by decide +kernel
theorem dX6_what_20 : decode cX6_what 20 = .ok (.ireturn, 1) := by decide +kernel
def wz_X6_what : List Cond := .code yX6_what cX6_what 4 (some .int) :: ([Cond.methodLink RX6 107 yX6_isSide, Cond.instanceMethod yX6_isSide, Cond.selects RX6 yX6_isSide yX6_isSide, Cond.initialized RX6, Cond.code yX6_isSide cX6_isSide 3 (some .boolean), Cond.fieldLink RX6 33 "HedgeMaze" "garden" "LHedgeMaze$Garden;", Cond.fieldLink RX6 90 "HedgeMaze$Garden" "plan" "LHedgeMaze$Plan;", Cond.fieldLink RX6 94 "HedgeMaze$Plan" "sideCount" "I"] ++ wsX60 ++ wsX00 ++ wsX30)
set_option maxRecDepth 20000 in
theorem g_X6_what_X6_isSide : GoodIn wz_X6_what (wsV RX6 107 RX6 yX6_isSide wz_X6_isSide) := goodIn_r _ [1, 2, 3, 4, 5, 6, 7, 8, 9, 10, 11, 12, 13, 14, 15, 16, 17, 18, 19, 20, 21, 22, 23, 24, 25, 26, 27, 28, 29, 30, 31, 32, 33, 34, 35, 36, 37, 38, 39, 40] rfl (by decide +kernel)
set_option maxHeartbeats 4000000 in
set_option maxRecDepth 100000 in
theorem c_X6_what (l : Launch) (dC : Nat → ClassId) (dI : Nat → Nat → Nat) (sz : Nat) (h0 : Nat) (tp : Nat) (rd : Nat) (gd : Nat) (im : Nat) (rw : Nat) (gn : Nat) (ho : Nat) (sq : Nat) (pl : Nat) (gdt : Nat) (gdu : Nat) (gdn : Nat) (plf : Nat) (plo : Nat) (plb : Nat) (pla : Nat) (p0 : Int32) (p1 : Int32)  : Met l yX6_what wz_X6_what ({ frames := 1, cells := 0, slots := 0, locals := 22 }) (va_Pc [.ref h0, .int p0, .int p1] (fun U => U.heap.size = sz ∧ va_P (dC, dI) vwCl [(h0, .inr (6, [.ref tp, .int 0, .int 0, .int (-1), .ref rd, .ref gd, .ref im, .ref rw, .ref gn, .ref ho, .ref sq])), (gd, .inr (0, [.ref pl, .int 0, .long 0, .long 0, .int 0, .int (-1), .int 0, .ref gdt, .int 0, .ref gdu, .int 0, .ref gdn])), (pl, .inr (3, [.int 0, .int 0, .int 0, .int 0, .long 0, .ref plf, .ref plo, .ref plb, .ref pla]))] U.heap ∧ va_K (dC, dI) vwCl [] U ∧ va_D (fun _ => True) [(h0, .inr (6, [.ref tp, .int 0, .int 0, .int (-1), .ref rd, .ref gd, .ref im, .ref rw, .ref gn, .ref ho, .ref sq])), (gd, .inr (0, [.ref pl, .int 0, .long 0, .long 0, .int 0, .int (-1), .int 0, .ref gdt, .int 0, .ref gdu, .int 0, .ref gdn])), (pl, .inr (3, [.int 0, .int 0, .int 0, .int 0, .long 0, .ref plf, .ref plo, .ref plb, .ref pla]))])) (va_Qi (fun (r : Int32) (u : Unit) => r = -2) (fun (_ : Unit) (_ : State) => True) (va_A [(h0, .inr (6, [.ref tp, .int 0, .int 0, .int (-1), .ref rd, .ref gd, .ref im, .ref rw, .ref gn, .ref ho, .ref sq])), (gd, .inr (0, [.ref pl, .int 0, .long 0, .long 0, .int 0, .int (-1), .int 0, .ref gdt, .int 0, .ref gdu, .int 0, .ref gdn])), (pl, .inr (3, [.int 0, .int 0, .int 0, .int 0, .long 0, .ref plf, .ref plo, .ref plb, .ref pla]))] sz)) 0 0 (va_A [(h0, .inr (6, [.ref tp, .int 0, .int 0, .int (-1), .ref rd, .ref gd, .ref im, .ref rw, .ref gn, .ref ho, .ref sq])), (gd, .inr (0, [.ref pl, .int 0, .long 0, .long 0, .int 0, .int (-1), .int 0, .ref gdt, .int 0, .ref gdu, .int 0, .ref gdn])), (pl, .inr (3, [.int 0, .int 0, .int 0, .int 0, .long 0, .ref plf, .ref plo, .ref plb, .ref pla]))] sz) := by
  refine Met.ofW (cc := cX6_what) (maxL := 4) (ret := (some .int)) (by decide) rfl ?_
  intro p e s m args below meth c s₁ B hml hv
  obtain ⟨rfl, hsz, hP, hK, hD0⟩ := hv
  have hx := B.exec
  have hb := B.bytes
  have hr := B.returns
  have hts := atoms_spec (ws := wz_X6_what) B.pre
  have hown : s.vm.findClass RX6 = some m.cls := findClass_of_methodNamed B.named
  have hlocks := B.notSynchronized
  subst hsz
  have hD := hD0.self (sz := s.heap.size)
  generalize hAe : va_A [(h0, .inr (6, [.ref tp, .int 0, .int 0, .int (-1), .ref rd, .ref gd, .ref im, .ref rw, .ref gn, .ref ho, .ref sq])), (gd, .inr (0, [.ref pl, .int 0, .long 0, .long 0, .int 0, .int (-1), .int 0, .ref gdt, .int 0, .ref gdu, .int 0, .ref gdn])), (pl, .inr (3, [.int 0, .int 0, .int 0, .int 0, .long 0, .ref plf, .ref plo, .ref plb, .ref pla]))] s.heap.size = A at hD ⊢
  have hA : ∀ q : Nat, s.heap.size ≤ q → A q := fun q h => by rw [← hAe]; exact Or.inr h
  have hS : va_S A s.heap s.heap [] := va_S.rf
  have hP : va_P (dC, dI) vwCl [(h0, .inr (6, [.ref tp, .int 0, .int 0, .int (-1), .ref rd, .ref gd, .ref im, .ref rw, .ref gn, .ref ho, .ref sq])), (gd, .inr (0, [.ref pl, .int 0, .long 0, .long 0, .int 0, .int (-1), .int 0, .ref gdt, .int 0, .ref gdu, .int 0, .ref gdn])), (pl, .inr (3, [.int 0, .int 0, .int 0, .int 0, .long 0, .ref plf, .ref plo, .ref plb, .ref pla]))] s.heap := hP
  have hl := lv_entry ([.ref h0, .int p0, .int p1]) (n := 4) (Nat.le_of_ble_eq_true rfl)
  rw [lg_entry_eq]
  generalize (lg_sl ([.ref h0, .int p0, .int p1]) ++ List.replicate (4 - (lg_sl ([.ref h0, .int p0, .int p1])).length) Slot.unset).toArray = ls at hl ⊢
  have hl : lv_has ls 4 [(0, .ref h0), (1, .int p0), (2, .int p1)] := hl
  refine lv_aload_n hx hb dX6_what_0 rfl (lv_at hl 0 rfl) ?_
  refine lv_iload_n hx hb dX6_what_1 rfl (lv_at hl 1 rfl) ?_
  refine lv_i2l (v := p0.toInt64) hx hb dX6_what_2 rfl ?_
  have hPc := hP.sub (ws' := [(h0, .inr (6, [.ref tp, .int 0, .int 0, .int (-1), .ref rd, .ref gd, .ref im, .ref rw, .ref gn, .ref ho, .ref sq])), (gd, .inr (0, [.ref pl, .int 0, .long 0, .long 0, .int 0, .int (-1), .int 0, .ref gdt, .int 0, .ref gdu, .int 0, .ref gdn])), (pl, .inr (3, [.int 0, .int 0, .int 0, .int 0, .long 0, .ref plf, .ref plo, .ref plb, .ref pla]))]) [0, 1, 2] rfl
  have hDc := hD.sub (ws' := [(h0, .inr (6, [.ref tp, .int 0, .int 0, .int (-1), .ref rd, .ref gd, .ref im, .ref rw, .ref gn, .ref ho, .ref sq])), (gd, .inr (0, [.ref pl, .int 0, .long 0, .long 0, .int 0, .int (-1), .int 0, .ref gdt, .int 0, .ref gdu, .int 0, .ref gdn])), (pl, .inr (3, [.int 0, .int 0, .int 0, .int 0, .long 0, .ref plf, .ref plo, .ref plb, .ref pla]))]) [0, 1, 2] (by decide) rfl
  have hKc := hK.sub (tys' := []) [] rfl
  have hFc := va_free (wc := [(h0, .inr (6, [.ref tp, .int 0, .int 0, .int (-1), .ref rd, .ref gd, .ref im, .ref rw, .ref gn, .ref ho, .ref sq])), (gd, .inr (0, [.ref pl, .int 0, .long 0, .long 0, .int 0, .int (-1), .int 0, .ref gdt, .int 0, .ref gdu, .int 0, .ref gdn])), (pl, .inr (3, [.int 0, .int 0, .int 0, .int 0, .long 0, .ref plf, .ref plo, .ref plb, .ref pla]))]) hD hS hA [0, 1, 2] rfl
  refine va_calli (va_runV (As := [.long p0.toInt64]) (rest := []) ⟨hx, hb, hml, hown, hts⟩ (c_X6_isSide l dC dI s.heap.size h0 tp rd gd im rw gn ho sq pl gdt gdu gdn plf plo plb pla p0.toInt64 ) (cwV 1 hts g_X6_what_X6_isSide rfl rfl rfl (by decide +kernel) ⟨Nat.le_of_ble_eq_true rfl, Nat.le_of_ble_eq_true rfl⟩) ⟨fun a U g mk q => by obtain ⟨q0, q1, qP, qK, qD⟩ := q; exact ⟨q0, q1, qP, va_K.moved (u := U) (U := U.calling g mk a) (Vm.Alike.refl U.vm) qK, qD⟩, va_recv hKc hPc (ci := 6) (q0 := 0) rfl rfl, fun U hU hW => ⟨rfl, by rw [hU], by rw [hU]; exact hPc, va_K.moved hW.alike hKc, hDc.weaken (fun _ _ _ _ => trivial)⟩⟩ rfl rfl hl.1 rfl (lv_room (Nat.le_of_ble_eq_true rfl)) dX6_what_3 ⟨Nat.le_of_ble_eq_true rfl, Nat.le_of_ble_eq_true rfl⟩) hS (fun q _ h => hFc q h) hFc (fun r_1 u t H1 locs ht hvm hw_2 hB hz1 hk1 hS => ?_)
  obtain ⟨hP1, hK1, hD1⟩ := hB
  have hP1 : va_P (dC, dI) vwCl [(h0, .inr (6, [.ref tp, .int 0, .int 0, .int (-1), .ref rd, .ref gd, .ref im, .ref rw, .ref gn, .ref ho, .ref sq])), (gd, .inr (0, [.ref pl, .int 0, .long 0, .long 0, .int 0, .int (-1), .int 0, .ref gdt, .int 0, .ref gdu, .int 0, .ref gdn])), (pl, .inr (3, [.int 0, .int 0, .int 0, .int 0, .long 0, .ref plf, .ref plo, .ref plb, .ref pla]))] t.heap := hP1
  rw [ht] at hP1
  try dsimp only at hw_2
  obtain ⟨hP, hD⟩ := va_join (wr := []) (w1 := [(h0, .inr (6, [.ref tp, .int 0, .int 0, .int (-1), .ref rd, .ref gd, .ref im, .ref rw, .ref gn, .ref ho, .ref sq])), (gd, .inr (0, [.ref pl, .int 0, .long 0, .long 0, .int 0, .int (-1), .int 0, .ref gdt, .int 0, .ref gdu, .int 0, .ref gdn])), (pl, .inr (3, [.int 0, .int 0, .int 0, .int 0, .long 0, .ref plf, .ref plo, .ref plb, .ref pla]))]) hP hD [0, 1, 2] [] rfl rfl (by decide) (by decide) hk1 hFc hP1 hD1
  generalize H1 = H at hP hS ⊢
  have hP : va_P (dC, dI) vwCl [(h0, .inr (6, [.ref tp, .int 0, .int 0, .int (-1), .ref rd, .ref gd, .ref im, .ref rw, .ref gn, .ref ho, .ref sq])), (gd, .inr (0, [.ref pl, .int 0, .long 0, .long 0, .int 0, .int (-1), .int 0, .ref gdt, .int 0, .ref gdu, .int 0, .ref gdn])), (pl, .inr (3, [.int 0, .int 0, .int 0, .int 0, .long 0, .ref plf, .ref plo, .ref plb, .ref pla]))] H := hP
  have hD : va_D A [(h0, .inr (6, [.ref tp, .int 0, .int 0, .int (-1), .ref rd, .ref gd, .ref im, .ref rw, .ref gn, .ref ho, .ref sq])), (gd, .inr (0, [.ref pl, .int 0, .long 0, .long 0, .int 0, .int (-1), .int 0, .ref gdt, .int 0, .ref gdu, .int 0, .ref gdn])), (pl, .inr (3, [.int 0, .int 0, .int 0, .int 0, .long 0, .ref plf, .ref plo, .ref plb, .ref pla]))] := hD
  obtain rfl : r_1 = 0 := hw_2
  refine lv_if_eq (tgt := 18) hx hb dX6_what_6 (by decide) (fun _ => ?_) (fun h => absurd (by decide) h)
  refine lv_bipush (v := -2) hx hb dX6_what_18 (by decide) ?_
  refine W.widen (k := 0) (n := 0) (by omega) (by omega) ?_
  exact W.iret (v := -2) hx hb hr (fun t ht hW => ⟨⟨(-2), (), rfl, (by first | rfl | ((repeat' split) <;> (first | rfl | (exfalso; omega)))), trivial⟩, hS.F ht⟩) hS.2.2 dX6_what_20

theorem dX6_far_0 : decode cX6_far 0 = .ok (.aload_n 0, 1) := by decide +kernel
theorem dX6_far_1 : decode cX6_far 1 = .ok (.iload_n 1, 1) := by decide +kernel
theorem dX6_far_2 : decode cX6_far 2 = .ok (.invokevirtual 99, 3) := by decide +kernel
theorem dX6_far_5 : decode cX6_far 5 = .ok (.ifCond .eq 11, 3) := by decide +kernel
theorem dX6_far_16 : decode cX6_far 16 = .ok (.bipush (-2), 2) := by decide +kernel
theorem dX6_far_18 : decode cX6_far 18 = .ok (.ireturn, 1) := by decide +kernel
def wz_X6_far : List Cond := .code yX6_far cX6_far 3 (some .int) :: ([Cond.methodLink RX6 99 yX6_isCell, Cond.instanceMethod yX6_isCell, Cond.selects RX6 yX6_isCell yX6_isCell, Cond.initialized RX6, Cond.code yX6_isCell cX6_isCell 2 (some .boolean), Cond.fieldLink RX6 33 "HedgeMaze" "garden" "LHedgeMaze$Garden;", Cond.fieldLink RX6 90 "HedgeMaze$Garden" "plan" "LHedgeMaze$Plan;", Cond.fieldLink RX6 169 "HedgeMaze$Plan" "cellCount" "I"] ++ wsX60 ++ wsX00 ++ wsX30)
set_option maxRecDepth 20000 in
theorem g_X6_far_X6_isCell : GoodIn wz_X6_far (wsV RX6 99 RX6 yX6_isCell wz_X6_isCell) := goodIn_r _ [1, 2, 3, 4, 5, 6, 7, 8, 9, 10, 11, 12, 13, 14, 15, 16, 17, 18, 19, 20, 21, 22, 23, 24, 25, 26, 27, 28, 29, 30, 31, 32, 33, 34, 35, 36, 37, 38, 39, 40] rfl (by decide +kernel)
set_option maxHeartbeats 4000000 in
set_option maxRecDepth 100000 in
theorem c_X6_far (l : Launch) (dC : Nat → ClassId) (dI : Nat → Nat → Nat) (sz : Nat) (h0 : Nat) (tp : Nat) (rd : Nat) (gd : Nat) (im : Nat) (rw : Nat) (gn : Nat) (ho : Nat) (sq : Nat) (pl : Nat) (gdt : Nat) (gdu : Nat) (gdn : Nat) (plf : Nat) (plo : Nat) (plb : Nat) (pla : Nat) (p0 : Int32) (p1 : Int32)  : Met l yX6_far wz_X6_far ({ frames := 1, cells := 0, slots := 0, locals := 21 }) (va_Pc [.ref h0, .int p0, .int p1] (fun U => U.heap.size = sz ∧ va_P (dC, dI) vwCl [(h0, .inr (6, [.ref tp, .int 0, .int 0, .int (-1), .ref rd, .ref gd, .ref im, .ref rw, .ref gn, .ref ho, .ref sq])), (gd, .inr (0, [.ref pl, .int 0, .long 0, .long 0, .int 0, .int (-1), .int 0, .ref gdt, .int 0, .ref gdu, .int 0, .ref gdn])), (pl, .inr (3, [.int 0, .int 0, .int 0, .int 0, .long 0, .ref plf, .ref plo, .ref plb, .ref pla]))] U.heap ∧ va_K (dC, dI) vwCl [] U ∧ va_D (fun _ => True) [(h0, .inr (6, [.ref tp, .int 0, .int 0, .int (-1), .ref rd, .ref gd, .ref im, .ref rw, .ref gn, .ref ho, .ref sq])), (gd, .inr (0, [.ref pl, .int 0, .long 0, .long 0, .int 0, .int (-1), .int 0, .ref gdt, .int 0, .ref gdu, .int 0, .ref gdn])), (pl, .inr (3, [.int 0, .int 0, .int 0, .int 0, .long 0, .ref plf, .ref plo, .ref plb, .ref pla]))])) (va_Qi (fun (r : Int32) (u : Unit) => r = -2) (fun (_ : Unit) (_ : State) => True) (va_A [(h0, .inr (6, [.ref tp, .int 0, .int 0, .int (-1), .ref rd, .ref gd, .ref im, .ref rw, .ref gn, .ref ho, .ref sq])), (gd, .inr (0, [.ref pl, .int 0, .long 0, .long 0, .int 0, .int (-1), .int 0, .ref gdt, .int 0, .ref gdu, .int 0, .ref gdn])), (pl, .inr (3, [.int 0, .int 0, .int 0, .int 0, .long 0, .ref plf, .ref plo, .ref plb, .ref pla]))] sz)) 0 0 (va_A [(h0, .inr (6, [.ref tp, .int 0, .int 0, .int (-1), .ref rd, .ref gd, .ref im, .ref rw, .ref gn, .ref ho, .ref sq])), (gd, .inr (0, [.ref pl, .int 0, .long 0, .long 0, .int 0, .int (-1), .int 0, .ref gdt, .int 0, .ref gdu, .int 0, .ref gdn])), (pl, .inr (3, [.int 0, .int 0, .int 0, .int 0, .long 0, .ref plf, .ref plo, .ref plb, .ref pla]))] sz) := by
  refine Met.ofW (cc := cX6_far) (maxL := 3) (ret := (some .int)) (by decide) rfl ?_
  intro p e s m args below meth c s₁ B hml hv
  obtain ⟨rfl, hsz, hP, hK, hD0⟩ := hv
  have hx := B.exec
  have hb := B.bytes
  have hr := B.returns
  have hts := atoms_spec (ws := wz_X6_far) B.pre
  have hown : s.vm.findClass RX6 = some m.cls := findClass_of_methodNamed B.named
  have hlocks := B.notSynchronized
  subst hsz
  have hD := hD0.self (sz := s.heap.size)
  generalize hAe : va_A [(h0, .inr (6, [.ref tp, .int 0, .int 0, .int (-1), .ref rd, .ref gd, .ref im, .ref rw, .ref gn, .ref ho, .ref sq])), (gd, .inr (0, [.ref pl, .int 0, .long 0, .long 0, .int 0, .int (-1), .int 0, .ref gdt, .int 0, .ref gdu, .int 0, .ref gdn])), (pl, .inr (3, [.int 0, .int 0, .int 0, .int 0, .long 0, .ref plf, .ref plo, .ref plb, .ref pla]))] s.heap.size = A at hD ⊢
  have hA : ∀ q : Nat, s.heap.size ≤ q → A q := fun q h => by rw [← hAe]; exact Or.inr h
  have hS : va_S A s.heap s.heap [] := va_S.rf
  have hP : va_P (dC, dI) vwCl [(h0, .inr (6, [.ref tp, .int 0, .int 0, .int (-1), .ref rd, .ref gd, .ref im, .ref rw, .ref gn, .ref ho, .ref sq])), (gd, .inr (0, [.ref pl, .int 0, .long 0, .long 0, .int 0, .int (-1), .int 0, .ref gdt, .int 0, .ref gdu, .int 0, .ref gdn])), (pl, .inr (3, [.int 0, .int 0, .int 0, .int 0, .long 0, .ref plf, .ref plo, .ref plb, .ref pla]))] s.heap := hP
  have hl := lv_entry ([.ref h0, .int p0, .int p1]) (n := 3) (Nat.le_of_ble_eq_true rfl)
  rw [lg_entry_eq]
  generalize (lg_sl ([.ref h0, .int p0, .int p1]) ++ List.replicate (3 - (lg_sl ([.ref h0, .int p0, .int p1])).length) Slot.unset).toArray = ls at hl ⊢
  have hl : lv_has ls 3 [(0, .ref h0), (1, .int p0), (2, .int p1)] := hl
  refine lv_aload_n hx hb dX6_far_0 rfl (lv_at hl 0 rfl) ?_
  refine lv_iload_n hx hb dX6_far_1 rfl (lv_at hl 1 rfl) ?_
  have hPc := hP.sub (ws' := [(h0, .inr (6, [.ref tp, .int 0, .int 0, .int (-1), .ref rd, .ref gd, .ref im, .ref rw, .ref gn, .ref ho, .ref sq])), (gd, .inr (0, [.ref pl, .int 0, .long 0, .long 0, .int 0, .int (-1), .int 0, .ref gdt, .int 0, .ref gdu, .int 0, .ref gdn])), (pl, .inr (3, [.int 0, .int 0, .int 0, .int 0, .long 0, .ref plf, .ref plo, .ref plb, .ref pla]))]) [0, 1, 2] rfl
  have hDc := hD.sub (ws' := [(h0, .inr (6, [.ref tp, .int 0, .int 0, .int (-1), .ref rd, .ref gd, .ref im, .ref rw, .ref gn, .ref ho, .ref sq])), (gd, .inr (0, [.ref pl, .int 0, .long 0, .long 0, .int 0, .int (-1), .int 0, .ref gdt, .int 0, .ref gdu, .int 0, .ref gdn])), (pl, .inr (3, [.int 0, .int 0, .int 0, .int 0, .long 0, .ref plf, .ref plo, .ref plb, .ref pla]))]) [0, 1, 2] (by decide) rfl
  have hKc := hK.sub (tys' := []) [] rfl
  have hFc := va_free (wc := [(h0, .inr (6, [.ref tp, .int 0, .int 0, .int (-1), .ref rd, .ref gd, .ref im, .ref rw, .ref gn, .ref ho, .ref sq])), (gd, .inr (0, [.ref pl, .int 0, .long 0, .long 0, .int 0, .int (-1), .int 0, .ref gdt, .int 0, .ref gdu, .int 0, .ref gdn])), (pl, .inr (3, [.int 0, .int 0, .int 0, .int 0, .long 0, .ref plf, .ref plo, .ref plb, .ref pla]))]) hD hS hA [0, 1, 2] rfl
  refine va_calli (va_runV (As := [.int p0]) (rest := []) ⟨hx, hb, hml, hown, hts⟩ (c_X6_isCell l dC dI s.heap.size h0 tp rd gd im rw gn ho sq pl gdt gdu gdn plf plo plb pla p0 ) (cwV 1 hts g_X6_far_X6_isCell rfl rfl rfl (by decide +kernel) ⟨Nat.le_of_ble_eq_true rfl, Nat.le_of_ble_eq_true rfl⟩) ⟨fun a U g mk q => by obtain ⟨q0, q1, qP, qK, qD⟩ := q; exact ⟨q0, q1, qP, va_K.moved (u := U) (U := U.calling g mk a) (Vm.Alike.refl U.vm) qK, qD⟩, va_recv hKc hPc (ci := 6) (q0 := 0) rfl rfl, fun U hU hW => ⟨rfl, by rw [hU], by rw [hU]; exact hPc, va_K.moved hW.alike hKc, hDc.weaken (fun _ _ _ _ => trivial)⟩⟩ rfl rfl hl.1 rfl (lv_room (Nat.le_of_ble_eq_true rfl)) dX6_far_2 ⟨Nat.le_of_ble_eq_true rfl, Nat.le_of_ble_eq_true rfl⟩) hS (fun q _ h => hFc q h) hFc (fun r_1 u t H1 locs ht hvm hw_2 hB hz1 hk1 hS => ?_)
  obtain ⟨hP1, hK1, hD1⟩ := hB
  have hP1 : va_P (dC, dI) vwCl [(h0, .inr (6, [.ref tp, .int 0, .int 0, .int (-1), .ref rd, .ref gd, .ref im, .ref rw, .ref gn, .ref ho, .ref sq])), (gd, .inr (0, [.ref pl, .int 0, .long 0, .long 0, .int 0, .int (-1), .int 0, .ref gdt, .int 0, .ref gdu, .int 0, .ref gdn])), (pl, .inr (3, [.int 0, .int 0, .int 0, .int 0, .long 0, .ref plf, .ref plo, .ref plb, .ref pla]))] t.heap := hP1
  rw [ht] at hP1
  try dsimp only at hw_2
  obtain ⟨hP, hD⟩ := va_join (wr := []) (w1 := [(h0, .inr (6, [.ref tp, .int 0, .int 0, .int (-1), .ref rd, .ref gd, .ref im, .ref rw, .ref gn, .ref ho, .ref sq])), (gd, .inr (0, [.ref pl, .int 0, .long 0, .long 0, .int 0, .int (-1), .int 0, .ref gdt, .int 0, .ref gdu, .int 0, .ref gdn])), (pl, .inr (3, [.int 0, .int 0, .int 0, .int 0, .long 0, .ref plf, .ref plo, .ref plb, .ref pla]))]) hP hD [0, 1, 2] [] rfl rfl (by decide) (by decide) hk1 hFc hP1 hD1
  generalize H1 = H at hP hS ⊢
  have hP : va_P (dC, dI) vwCl [(h0, .inr (6, [.ref tp, .int 0, .int 0, .int (-1), .ref rd, .ref gd, .ref im, .ref rw, .ref gn, .ref ho, .ref sq])), (gd, .inr (0, [.ref pl, .int 0, .long 0, .long 0, .int 0, .int (-1), .int 0, .ref gdt, .int 0, .ref gdu, .int 0, .ref gdn])), (pl, .inr (3, [.int 0, .int 0, .int 0, .int 0, .long 0, .ref plf, .ref plo, .ref plb, .ref pla]))] H := hP
  have hD : va_D A [(h0, .inr (6, [.ref tp, .int 0, .int 0, .int (-1), .ref rd, .ref gd, .ref im, .ref rw, .ref gn, .ref ho, .ref sq])), (gd, .inr (0, [.ref pl, .int 0, .long 0, .long 0, .int 0, .int (-1), .int 0, .ref gdt, .int 0, .ref gdu, .int 0, .ref gdn])), (pl, .inr (3, [.int 0, .int 0, .int 0, .int 0, .long 0, .ref plf, .ref plo, .ref plb, .ref pla]))] := hD
  obtain rfl : r_1 = 0 := hw_2
  refine lv_if_eq (tgt := 16) hx hb dX6_far_5 (by decide) (fun _ => ?_) (fun h => absurd (by decide) h)
  refine lv_bipush (v := -2) hx hb dX6_far_16 (by decide) ?_
  refine W.widen (k := 0) (n := 0) (by omega) (by omega) ?_
  exact W.iret (v := -2) hx hb hr (fun t ht hW => ⟨⟨(-2), (), rfl, (by first | rfl | ((repeat' split) <;> (first | rfl | (exfalso; omega)))), trivial⟩, hS.F ht⟩) hS.2.2 dX6_far_18

theorem dX6_way_0 : decode cX6_way 0 = .ok (.aload_n 0, 1) := by decide +kernel
theorem dX6_way_1 : decode cX6_way 1 = .ok (.iload_n 1, 1) := by decide +kernel
theorem dX6_way_2 : decode cX6_way 2 = .ok (.invokevirtual 99, 3) := by decide +kernel
theorem dX6_way_5 : decode cX6_way 5 = .ok (.ifCond .eq 11, 3) := by decide +kernel
theorem dX6_way_16 : decode cX6_way 16 = .ok (.bipush (-2), 2) := by decide +kernel
theorem dX6_way_18 : decode cX6_way 18 = .ok (.ireturn, 1) := by decide +kernel
def wz_X6_way : List Cond := .code yX6_way cX6_way 6 (some .int) :: ([Cond.methodLink RX6 99 yX6_isCell, Cond.instanceMethod yX6_isCell, Cond.selects RX6 yX6_isCell yX6_isCell, Cond.initialized RX6, Cond.code yX6_isCell cX6_isCell 2 (some .boolean), Cond.fieldLink RX6 33 "HedgeMaze" "garden" "LHedgeMaze$Garden;", Cond.fieldLink RX6 90 "HedgeMaze$Garden" "plan" "LHedgeMaze$Plan;", Cond.fieldLink RX6 169 "HedgeMaze$Plan" "cellCount" "I"] ++ wsX60 ++ wsX00 ++ wsX30)
set_option maxRecDepth 20000 in
theorem g_X6_way_X6_isCell : GoodIn wz_X6_way (wsV RX6 99 RX6 yX6_isCell wz_X6_isCell) := goodIn_r _ [1, 2, 3, 4, 5, 6, 7, 8, 9, 10, 11, 12, 13, 14, 15, 16, 17, 18, 19, 20, 21, 22, 23, 24, 25, 26, 27, 28, 29, 30, 31, 32, 33, 34, 35, 36, 37, 38, 39, 40] rfl (by decide +kernel)
set_option maxHeartbeats 4000000 in
set_option maxRecDepth 100000 in
theorem c_X6_way (l : Launch) (dC : Nat → ClassId) (dI : Nat → Nat → Nat) (sz : Nat) (h0 : Nat) (tp : Nat) (rd : Nat) (gd : Nat) (im : Nat) (rw : Nat) (gn : Nat) (ho : Nat) (sq : Nat) (pl : Nat) (gdt : Nat) (gdu : Nat) (gdn : Nat) (plf : Nat) (plo : Nat) (plb : Nat) (pla : Nat) (p0 : Int32) (p1 : Int32) (p2 : Int32)  : Met l yX6_way wz_X6_way ({ frames := 1, cells := 0, slots := 0, locals := 21 }) (va_Pc [.ref h0, .int p0, .int p1, .int p2] (fun U => U.heap.size = sz ∧ va_P (dC, dI) vwCl [(h0, .inr (6, [.ref tp, .int 0, .int 0, .int (-1), .ref rd, .ref gd, .ref im, .ref rw, .ref gn, .ref ho, .ref sq])), (gd, .inr (0, [.ref pl, .int 0, .long 0, .long 0, .int 0, .int (-1), .int 0, .ref gdt, .int 0, .ref gdu, .int 0, .ref gdn])), (pl, .inr (3, [.int 0, .int 0, .int 0, .int 0, .long 0, .ref plf, .ref plo, .ref plb, .ref pla]))] U.heap ∧ va_K (dC, dI) vwCl [] U ∧ va_D (fun _ => True) [(h0, .inr (6, [.ref tp, .int 0, .int 0, .int (-1), .ref rd, .ref gd, .ref im, .ref rw, .ref gn, .ref ho, .ref sq])), (gd, .inr (0, [.ref pl, .int 0, .long 0, .long 0, .int 0, .int (-1), .int 0, .ref gdt, .int 0, .ref gdu, .int 0, .ref gdn])), (pl, .inr (3, [.int 0, .int 0, .int 0, .int 0, .long 0, .ref plf, .ref plo, .ref plb, .ref pla]))])) (va_Qi (fun (r : Int32) (u : Unit) => r = -2) (fun (_ : Unit) (_ : State) => True) (va_A [(h0, .inr (6, [.ref tp, .int 0, .int 0, .int (-1), .ref rd, .ref gd, .ref im, .ref rw, .ref gn, .ref ho, .ref sq])), (gd, .inr (0, [.ref pl, .int 0, .long 0, .long 0, .int 0, .int (-1), .int 0, .ref gdt, .int 0, .ref gdu, .int 0, .ref gdn])), (pl, .inr (3, [.int 0, .int 0, .int 0, .int 0, .long 0, .ref plf, .ref plo, .ref plb, .ref pla]))] sz)) 0 0 (va_A [(h0, .inr (6, [.ref tp, .int 0, .int 0, .int (-1), .ref rd, .ref gd, .ref im, .ref rw, .ref gn, .ref ho, .ref sq])), (gd, .inr (0, [.ref pl, .int 0, .long 0, .long 0, .int 0, .int (-1), .int 0, .ref gdt, .int 0, .ref gdu, .int 0, .ref gdn])), (pl, .inr (3, [.int 0, .int 0, .int 0, .int 0, .long 0, .ref plf, .ref plo, .ref plb, .ref pla]))] sz) := by
  refine Met.ofW (cc := cX6_way) (maxL := 6) (ret := (some .int)) (by decide) rfl ?_
  intro p e s m args below meth c s₁ B hml hv
  obtain ⟨rfl, hsz, hP, hK, hD0⟩ := hv
  have hx := B.exec
  have hb := B.bytes
  have hr := B.returns
  have hts := atoms_spec (ws := wz_X6_way) B.pre
  have hown : s.vm.findClass RX6 = some m.cls := findClass_of_methodNamed B.named
  have hlocks := B.notSynchronized
  subst hsz
  have hD := hD0.self (sz := s.heap.size)
  generalize hAe : va_A [(h0, .inr (6, [.ref tp, .int 0, .int 0, .int (-1), .ref rd, .ref gd, .ref im, .ref rw, .ref gn, .ref ho, .ref sq])), (gd, .inr (0, [.ref pl, .int 0, .long 0, .long 0, .int 0, .int (-1), .int 0, .ref gdt, .int 0, .ref gdu, .int 0, .ref gdn])), (pl, .inr (3, [.int 0, .int 0, .int 0, .int 0, .long 0, .ref plf, .ref plo, .ref plb, .ref pla]))] s.heap.size = A at hD ⊢
  have hA : ∀ q : Nat, s.heap.size ≤ q → A q := fun q h => by rw [← hAe]; exact Or.inr h
  have hS : va_S A s.heap s.heap [] := va_S.rf
  have hP : va_P (dC, dI) vwCl [(h0, .inr (6, [.ref tp, .int 0, .int 0, .int (-1), .ref rd, .ref gd, .ref im, .ref rw, .ref gn, .ref ho, .ref sq])), (gd, .inr (0, [.ref pl, .int 0, .long 0, .long 0, .int 0, .int (-1), .int 0, .ref gdt, .int 0, .ref gdu, .int 0, .ref gdn])), (pl, .inr (3, [.int 0, .int 0, .int 0, .int 0, .long 0, .ref plf, .ref plo, .ref plb, .ref pla]))] s.heap := hP
  have hl := lv_entry ([.ref h0, .int p0, .int p1, .int p2]) (n := 6) (Nat.le_of_ble_eq_true rfl)
  rw [lg_entry_eq]
  generalize (lg_sl ([.ref h0, .int p0, .int p1, .int p2]) ++ List.replicate (6 - (lg_sl ([.ref h0, .int p0, .int p1, .int p2])).length) Slot.unset).toArray = ls at hl ⊢
  have hl : lv_has ls 6 [(0, .ref h0), (1, .int p0), (2, .int p1), (3, .int p2)] := hl
  refine lv_aload_n hx hb dX6_way_0 rfl (lv_at hl 0 rfl) ?_
  refine lv_iload_n hx hb dX6_way_1 rfl (lv_at hl 1 rfl) ?_
  have hPc := hP.sub (ws' := [(h0, .inr (6, [.ref tp, .int 0, .int 0, .int (-1), .ref rd, .ref gd, .ref im, .ref rw, .ref gn, .ref ho, .ref sq])), (gd, .inr (0, [.ref pl, .int 0, .long 0, .long 0, .int 0, .int (-1), .int 0, .ref gdt, .int 0, .ref gdu, .int 0, .ref gdn])), (pl, .inr (3, [.int 0, .int 0, .int 0, .int 0, .long 0, .ref plf, .ref plo, .ref plb, .ref pla]))]) [0, 1, 2] rfl
  have hDc := hD.sub (ws' := [(h0, .inr (6, [.ref tp, .int 0, .int 0, .int (-1), .ref rd, .ref gd, .ref im, .ref rw, .ref gn, .ref ho, .ref sq])), (gd, .inr (0, [.ref pl, .int 0, .long 0, .long 0, .int 0, .int (-1), .int 0, .ref gdt, .int 0, .ref gdu, .int 0, .ref gdn])), (pl, .inr (3, [.int 0, .int 0, .int 0, .int 0, .long 0, .ref plf, .ref plo, .ref plb, .ref pla]))]) [0, 1, 2] (by decide) rfl
  have hKc := hK.sub (tys' := []) [] rfl
  have hFc := va_free (wc := [(h0, .inr (6, [.ref tp, .int 0, .int 0, .int (-1), .ref rd, .ref gd, .ref im, .ref rw, .ref gn, .ref ho, .ref sq])), (gd, .inr (0, [.ref pl, .int 0, .long 0, .long 0, .int 0, .int (-1), .int 0, .ref gdt, .int 0, .ref gdu, .int 0, .ref gdn])), (pl, .inr (3, [.int 0, .int 0, .int 0, .int 0, .long 0, .ref plf, .ref plo, .ref plb, .ref pla]))]) hD hS hA [0, 1, 2] rfl
  refine va_calli (va_runV (As := [.int p0]) (rest := []) ⟨hx, hb, hml, hown, hts⟩ (c_X6_isCell l dC dI s.heap.size h0 tp rd gd im rw gn ho sq pl gdt gdu gdn plf plo plb pla p0 ) (cwV 1 hts g_X6_way_X6_isCell rfl rfl rfl (by decide +kernel) ⟨Nat.le_of_ble_eq_true rfl, Nat.le_of_ble_eq_true rfl⟩) ⟨fun a U g mk q => by obtain ⟨q0, q1, qP, qK, qD⟩ := q; exact ⟨q0, q1, qP, va_K.moved (u := U) (U := U.calling g mk a) (Vm.Alike.refl U.vm) qK, qD⟩, va_recv hKc hPc (ci := 6) (q0 := 0) rfl rfl, fun U hU hW => ⟨rfl, by rw [hU], by rw [hU]; exact hPc, va_K.moved hW.alike hKc, hDc.weaken (fun _ _ _ _ => trivial)⟩⟩ rfl rfl hl.1 rfl (lv_room (Nat.le_of_ble_eq_true rfl)) dX6_way_2 ⟨Nat.le_of_ble_eq_true rfl, Nat.le_of_ble_eq_true rfl⟩) hS (fun q _ h => hFc q h) hFc (fun r_1 u t H1 locs ht hvm hw_2 hB hz1 hk1 hS => ?_)
  obtain ⟨hP1, hK1, hD1⟩ := hB
  have hP1 : va_P (dC, dI) vwCl [(h0, .inr (6, [.ref tp, .int 0, .int 0, .int (-1), .ref rd, .ref gd, .ref im, .ref rw, .ref gn, .ref ho, .ref sq])), (gd, .inr (0, [.ref pl, .int 0, .long 0, .long 0, .int 0, .int (-1), .int 0, .ref gdt, .int 0, .ref gdu, .int 0, .ref gdn])), (pl, .inr (3, [.int 0, .int 0, .int 0, .int 0, .long 0, .ref plf, .ref plo, .ref plb, .ref pla]))] t.heap := hP1
  rw [ht] at hP1
  try dsimp only at hw_2
  obtain ⟨hP, hD⟩ := va_join (wr := []) (w1 := [(h0, .inr (6, [.ref tp, .int 0, .int 0, .int (-1), .ref rd, .ref gd, .ref im, .ref rw, .ref gn, .ref ho, .ref sq])), (gd, .inr (0, [.ref pl, .int 0, .long 0, .long 0, .int 0, .int (-1), .int 0, .ref gdt, .int 0, .ref gdu, .int 0, .ref gdn])), (pl, .inr (3, [.int 0, .int 0, .int 0, .int 0, .long 0, .ref plf, .ref plo, .ref plb, .ref pla]))]) hP hD [0, 1, 2] [] rfl rfl (by decide) (by decide) hk1 hFc hP1 hD1
  generalize H1 = H at hP hS ⊢
  have hP : va_P (dC, dI) vwCl [(h0, .inr (6, [.ref tp, .int 0, .int 0, .int (-1), .ref rd, .ref gd, .ref im, .ref rw, .ref gn, .ref ho, .ref sq])), (gd, .inr (0, [.ref pl, .int 0, .long 0, .long 0, .int 0, .int (-1), .int 0, .ref gdt, .int 0, .ref gdu, .int 0, .ref gdn])), (pl, .inr (3, [.int 0, .int 0, .int 0, .int 0, .long 0, .ref plf, .ref plo, .ref plb, .ref pla]))] H := hP
  have hD : va_D A [(h0, .inr (6, [.ref tp, .int 0, .int 0, .int (-1), .ref rd, .ref gd, .ref im, .ref rw, .ref gn, .ref ho, .ref sq])), (gd, .inr (0, [.ref pl, .int 0, .long 0, .long 0, .int 0, .int (-1), .int 0, .ref gdt, .int 0, .ref gdu, .int 0, .ref gdn])), (pl, .inr (3, [.int 0, .int 0, .int 0, .int 0, .long 0, .ref plf, .ref plo, .ref plb, .ref pla]))] := hD
  obtain rfl : r_1 = 0 := hw_2
  refine lv_if_eq (tgt := 16) hx hb dX6_way_5 (by decide) (fun _ => ?_) (fun h => absurd (by decide) h)
  refine lv_bipush (v := -2) hx hb dX6_way_16 (by decide) ?_
  refine W.widen (k := 0) (n := 0) (by omega) (by omega) ?_
  exact W.iret (v := -2) hx hb hr (fun t ht hW => ⟨⟨(-2), (), rfl, (by first | rfl | ((repeat' split) <;> (first | rfl | (exfalso; omega)))), trivial⟩, hS.F ht⟩) hS.2.2 dX6_way_18

theorem dX6_gate_0 : decode cX6_gate 0 = .ok (.aload_n 0, 1) := by decide +kernel
theorem dX6_gate_1 : decode cX6_gate 1 = .ok (.iload_n 1, 1) := by decide +kernel
theorem dX6_gate_2 : decode cX6_gate 2 = .ok (.invokevirtual 99, 3) := by decide +kernel
theorem dX6_gate_5 : decode cX6_gate 5 = .ok (.ifCond .eq 21, 3) := by decide +kernel
theorem dX6_gate_26 : decode cX6_gate 26 = .ok (.bipush (-2), 2) := by decide +kernel
theorem dX6_gate_28 : decode cX6_gate 28 = .ok (.ireturn, 1) := by decide +kernel
def wz_X6_gate : List Cond := .code yX6_gate cX6_gate 2 (some .int) :: ([Cond.methodLink RX6 99 yX6_isCell, Cond.instanceMethod yX6_isCell, Cond.selects RX6 yX6_isCell yX6_isCell, Cond.initialized RX6, Cond.code yX6_isCell cX6_isCell 2 (some .boolean), Cond.fieldLink RX6 33 "HedgeMaze" "garden" "LHedgeMaze$Garden;", Cond.fieldLink RX6 90 "HedgeMaze$Garden" "plan" "LHedgeMaze$Plan;", Cond.fieldLink RX6 169 "HedgeMaze$Plan" "cellCount" "I"] ++ wsX60 ++ wsX00 ++ wsX30)
set_option maxRecDepth 20000 in
theorem g_X6_gate_X6_isCell : GoodIn wz_X6_gate (wsV RX6 99 RX6 yX6_isCell wz_X6_isCell) := goodIn_r _ [1, 2, 3, 4, 5, 6, 7, 8, 9, 10, 11, 12, 13, 14, 15, 16, 17, 18, 19, 20, 21, 22, 23, 24, 25, 26, 27, 28, 29, 30, 31, 32, 33, 34, 35, 36, 37, 38, 39, 40] rfl (by decide +kernel)
set_option maxHeartbeats 4000000 in
set_option maxRecDepth 100000 in
theorem c_X6_gate (l : Launch) (dC : Nat → ClassId) (dI : Nat → Nat → Nat) (sz : Nat) (h0 : Nat) (tp : Nat) (rd : Nat) (gd : Nat) (im : Nat) (rw : Nat) (gn : Nat) (ho : Nat) (sq : Nat) (pl : Nat) (gdt : Nat) (gdu : Nat) (gdn : Nat) (plf : Nat) (plo : Nat) (plb : Nat) (pla : Nat) (p0 : Int32)  : Met l yX6_gate wz_X6_gate ({ frames := 1, cells := 0, slots := 0, locals := 21 }) (va_Pc [.ref h0, .int p0] (fun U => U.heap.size = sz ∧ va_P (dC, dI) vwCl [(h0, .inr (6, [.ref tp, .int 0, .int 0, .int (-1), .ref rd, .ref gd, .ref im, .ref rw, .ref gn, .ref ho, .ref sq])), (gd, .inr (0, [.ref pl, .int 0, .long 0, .long 0, .int 0, .int (-1), .int 0, .ref gdt, .int 0, .ref gdu, .int 0, .ref gdn])), (pl, .inr (3, [.int 0, .int 0, .int 0, .int 0, .long 0, .ref plf, .ref plo, .ref plb, .ref pla]))] U.heap ∧ va_K (dC, dI) vwCl [] U ∧ va_D (fun _ => True) [(h0, .inr (6, [.ref tp, .int 0, .int 0, .int (-1), .ref rd, .ref gd, .ref im, .ref rw, .ref gn, .ref ho, .ref sq])), (gd, .inr (0, [.ref pl, .int 0, .long 0, .long 0, .int 0, .int (-1), .int 0, .ref gdt, .int 0, .ref gdu, .int 0, .ref gdn])), (pl, .inr (3, [.int 0, .int 0, .int 0, .int 0, .long 0, .ref plf, .ref plo, .ref plb, .ref pla]))])) (va_Qi (fun (r : Int32) (u : Unit) => r = -2) (fun (_ : Unit) (_ : State) => True) (va_A [(h0, .inr (6, [.ref tp, .int 0, .int 0, .int (-1), .ref rd, .ref gd, .ref im, .ref rw, .ref gn, .ref ho, .ref sq])), (gd, .inr (0, [.ref pl, .int 0, .long 0, .long 0, .int 0, .int (-1), .int 0, .ref gdt, .int 0, .ref gdu, .int 0, .ref gdn])), (pl, .inr (3, [.int 0, .int 0, .int 0, .int 0, .long 0, .ref plf, .ref plo, .ref plb, .ref pla]))] sz)) 0 0 (va_A [(h0, .inr (6, [.ref tp, .int 0, .int 0, .int (-1), .ref rd, .ref gd, .ref im, .ref rw, .ref gn, .ref ho, .ref sq])), (gd, .inr (0, [.ref pl, .int 0, .long 0, .long 0, .int 0, .int (-1), .int 0, .ref gdt, .int 0, .ref gdu, .int 0, .ref gdn])), (pl, .inr (3, [.int 0, .int 0, .int 0, .int 0, .long 0, .ref plf, .ref plo, .ref plb, .ref pla]))] sz) := by
  refine Met.ofW (cc := cX6_gate) (maxL := 2) (ret := (some .int)) (by decide) rfl ?_
  intro p e s m args below meth c s₁ B hml hv
  obtain ⟨rfl, hsz, hP, hK, hD0⟩ := hv
  have hx := B.exec
  have hb := B.bytes
  have hr := B.returns
  have hts := atoms_spec (ws := wz_X6_gate) B.pre
  have hown : s.vm.findClass RX6 = some m.cls := findClass_of_methodNamed B.named
  have hlocks := B.notSynchronized
  subst hsz
  have hD := hD0.self (sz := s.heap.size)
  generalize hAe : va_A [(h0, .inr (6, [.ref tp, .int 0, .int 0, .int (-1), .ref rd, .ref gd, .ref im, .ref rw, .ref gn, .ref ho, .ref sq])), (gd, .inr (0, [.ref pl, .int 0, .long 0, .long 0, .int 0, .int (-1), .int 0, .ref gdt, .int 0, .ref gdu, .int 0, .ref gdn])), (pl, .inr (3, [.int 0, .int 0, .int 0, .int 0, .long 0, .ref plf, .ref plo, .ref plb, .ref pla]))] s.heap.size = A at hD ⊢
  have hA : ∀ q : Nat, s.heap.size ≤ q → A q := fun q h => by rw [← hAe]; exact Or.inr h
  have hS : va_S A s.heap s.heap [] := va_S.rf
  have hP : va_P (dC, dI) vwCl [(h0, .inr (6, [.ref tp, .int 0, .int 0, .int (-1), .ref rd, .ref gd, .ref im, .ref rw, .ref gn, .ref ho, .ref sq])), (gd, .inr (0, [.ref pl, .int 0, .long 0, .long 0, .int 0, .int (-1), .int 0, .ref gdt, .int 0, .ref gdu, .int 0, .ref gdn])), (pl, .inr (3, [.int 0, .int 0, .int 0, .int 0, .long 0, .ref plf, .ref plo, .ref plb, .ref pla]))] s.heap := hP
  have hl := lv_entry ([.ref h0, .int p0]) (n := 2) (Nat.le_of_ble_eq_true rfl)
  rw [lg_entry_eq]
  generalize (lg_sl ([.ref h0, .int p0]) ++ List.replicate (2 - (lg_sl ([.ref h0, .int p0])).length) Slot.unset).toArray = ls at hl ⊢
  have hl : lv_has ls 2 [(0, .ref h0), (1, .int p0)] := hl
  refine lv_aload_n hx hb dX6_gate_0 rfl (lv_at hl 0 rfl) ?_
  refine lv_iload_n hx hb dX6_gate_1 rfl (lv_at hl 1 rfl) ?_
  have hPc := hP.sub (ws' := [(h0, .inr (6, [.ref tp, .int 0, .int 0, .int (-1), .ref rd, .ref gd, .ref im, .ref rw, .ref gn, .ref ho, .ref sq])), (gd, .inr (0, [.ref pl, .int 0, .long 0, .long 0, .int 0, .int (-1), .int 0, .ref gdt, .int 0, .ref gdu, .int 0, .ref gdn])), (pl, .inr (3, [.int 0, .int 0, .int 0, .int 0, .long 0, .ref plf, .ref plo, .ref plb, .ref pla]))]) [0, 1, 2] rfl
  have hDc := hD.sub (ws' := [(h0, .inr (6, [.ref tp, .int 0, .int 0, .int (-1), .ref rd, .ref gd, .ref im, .ref rw, .ref gn, .ref ho, .ref sq])), (gd, .inr (0, [.ref pl, .int 0, .long 0, .long 0, .int 0, .int (-1), .int 0, .ref gdt, .int 0, .ref gdu, .int 0, .ref gdn])), (pl, .inr (3, [.int 0, .int 0, .int 0, .int 0, .long 0, .ref plf, .ref plo, .ref plb, .ref pla]))]) [0, 1, 2] (by decide) rfl
  have hKc := hK.sub (tys' := []) [] rfl
  have hFc := va_free (wc := [(h0, .inr (6, [.ref tp, .int 0, .int 0, .int (-1), .ref rd, .ref gd, .ref im, .ref rw, .ref gn, .ref ho, .ref sq])), (gd, .inr (0, [.ref pl, .int 0, .long 0, .long 0, .int 0, .int (-1), .int 0, .ref gdt, .int 0, .ref gdu, .int 0, .ref gdn])), (pl, .inr (3, [.int 0, .int 0, .int 0, .int 0, .long 0, .ref plf, .ref plo, .ref plb, .ref pla]))]) hD hS hA [0, 1, 2] rfl
  refine va_calli (va_runV (As := [.int p0]) (rest := []) ⟨hx, hb, hml, hown, hts⟩ (c_X6_isCell l dC dI s.heap.size h0 tp rd gd im rw gn ho sq pl gdt gdu gdn plf plo plb pla p0 ) (cwV 1 hts g_X6_gate_X6_isCell rfl rfl rfl (by decide +kernel) ⟨Nat.le_of_ble_eq_true rfl, Nat.le_of_ble_eq_true rfl⟩) ⟨fun a U g mk q => by obtain ⟨q0, q1, qP, qK, qD⟩ := q; exact ⟨q0, q1, qP, va_K.moved (u := U) (U := U.calling g mk a) (Vm.Alike.refl U.vm) qK, qD⟩, va_recv hKc hPc (ci := 6) (q0 := 0) rfl rfl, fun U hU hW => ⟨rfl, by rw [hU], by rw [hU]; exact hPc, va_K.moved hW.alike hKc, hDc.weaken (fun _ _ _ _ => trivial)⟩⟩ rfl rfl hl.1 rfl (lv_room (Nat.le_of_ble_eq_true rfl)) dX6_gate_2 ⟨Nat.le_of_ble_eq_true rfl, Nat.le_of_ble_eq_true rfl⟩) hS (fun q _ h => hFc q h) hFc (fun r_1 u t H1 locs ht hvm hw_2 hB hz1 hk1 hS => ?_)
  obtain ⟨hP1, hK1, hD1⟩ := hB
  have hP1 : va_P (dC, dI) vwCl [(h0, .inr (6, [.ref tp, .int 0, .int 0, .int (-1), .ref rd, .ref gd, .ref im, .ref rw, .ref gn, .ref ho, .ref sq])), (gd, .inr (0, [.ref pl, .int 0, .long 0, .long 0, .int 0, .int (-1), .int 0, .ref gdt, .int 0, .ref gdu, .int 0, .ref gdn])), (pl, .inr (3, [.int 0, .int 0, .int 0, .int 0, .long 0, .ref plf, .ref plo, .ref plb, .ref pla]))] t.heap := hP1
  rw [ht] at hP1
  try dsimp only at hw_2
  obtain ⟨hP, hD⟩ := va_join (wr := []) (w1 := [(h0, .inr (6, [.ref tp, .int 0, .int 0, .int (-1), .ref rd, .ref gd, .ref im, .ref rw, .ref gn, .ref ho, .ref sq])), (gd, .inr (0, [.ref pl, .int 0, .long 0, .long 0, .int 0, .int (-1), .int 0, .ref gdt, .int 0, .ref gdu, .int 0, .ref gdn])), (pl, .inr (3, [.int 0, .int 0, .int 0, .int 0, .long 0, .ref plf, .ref plo, .ref plb, .ref pla]))]) hP hD [0, 1, 2] [] rfl rfl (by decide) (by decide) hk1 hFc hP1 hD1
  generalize H1 = H at hP hS ⊢
  have hP : va_P (dC, dI) vwCl [(h0, .inr (6, [.ref tp, .int 0, .int 0, .int (-1), .ref rd, .ref gd, .ref im, .ref rw, .ref gn, .ref ho, .ref sq])), (gd, .inr (0, [.ref pl, .int 0, .long 0, .long 0, .int 0, .int (-1), .int 0, .ref gdt, .int 0, .ref gdu, .int 0, .ref gdn])), (pl, .inr (3, [.int 0, .int 0, .int 0, .int 0, .long 0, .ref plf, .ref plo, .ref plb, .ref pla]))] H := hP
  have hD : va_D A [(h0, .inr (6, [.ref tp, .int 0, .int 0, .int (-1), .ref rd, .ref gd, .ref im, .ref rw, .ref gn, .ref ho, .ref sq])), (gd, .inr (0, [.ref pl, .int 0, .long 0, .long 0, .int 0, .int (-1), .int 0, .ref gdt, .int 0, .ref gdu, .int 0, .ref gdn])), (pl, .inr (3, [.int 0, .int 0, .int 0, .int 0, .long 0, .ref plf, .ref plo, .ref plb, .ref pla]))] := hD
  obtain rfl : r_1 = 0 := hw_2
  refine lv_if_eq (tgt := 26) hx hb dX6_gate_5 (by decide) (fun _ => ?_) (fun h => absurd (by decide) h)
  refine lv_bipush (v := -2) hx hb dX6_gate_26 (by decide) ?_
  refine W.widen (k := 0) (n := 0) (by omega) (by omega) ?_
  exact W.iret (v := -2) hx hb hr (fun t ht hW => ⟨⟨(-2), (), rfl, (by first | rfl | ((repeat' split) <;> (first | rfl | (exfalso; omega)))), trivial⟩, hS.F ht⟩) hS.2.2 dX6_gate_28

theorem dX6_within_0 : decode cX6_within 0 = .ok (.aload_n 0, 1) := by decide +kernel
theorem dX6_within_1 : decode cX6_within 1 = .ok (.iload_n 1, 1) := by decide +kernel
theorem dX6_within_2 : decode cX6_within 2 = .ok (.invokevirtual 99, 3) := by decide +kernel
theorem dX6_within_5 : decode cX6_within 5 = .ok (.ifCond .eq 13, 3) := by decide +kernel
theorem dX6_within_18 : decode cX6_within 18 = .ok (.bipush (-2), 2) := by decide +kernel
theorem dX6_within_20 : decode cX6_within 20 = .ok (.ireturn, 1) := by decide +kernel
def wz_X6_within : List Cond := .code yX6_within cX6_within 3 (some .int) :: ([Cond.methodLink RX6 99 yX6_isCell, Cond.instanceMethod yX6_isCell, Cond.selects RX6 yX6_isCell yX6_isCell, Cond.initialized RX6, Cond.code yX6_isCell cX6_isCell 2 (some .boolean), Cond.fieldLink RX6 33 "HedgeMaze" "garden" "LHedgeMaze$Garden;", Cond.fieldLink RX6 90 "HedgeMaze$Garden" "plan" "LHedgeMaze$Plan;", Cond.fieldLink RX6 169 "HedgeMaze$Plan" "cellCount" "I"] ++ wsX60 ++ wsX00 ++ wsX30)
set_option maxRecDepth 20000 in
theorem g_X6_within_X6_isCell : GoodIn wz_X6_within (wsV RX6 99 RX6 yX6_isCell wz_X6_isCell) := goodIn_r _ [1, 2, 3, 4, 5, 6, 7, 8, 9, 10, 11, 12, 13, 14, 15, 16, 17, 18, 19, 20, 21, 22, 23, 24, 25, 26, 27, 28, 29, 30, 31, 32, 33, 34, 35, 36, 37, 38, 39, 40] rfl (by decide +kernel)
set_option maxHeartbeats 4000000 in
set_option maxRecDepth 100000 in
theorem c_X6_within (l : Launch) (dC : Nat → ClassId) (dI : Nat → Nat → Nat) (sz : Nat) (h0 : Nat) (tp : Nat) (rd : Nat) (gd : Nat) (im : Nat) (rw : Nat) (gn : Nat) (ho : Nat) (sq : Nat) (pl : Nat) (gdt : Nat) (gdu : Nat) (gdn : Nat) (plf : Nat) (plo : Nat) (plb : Nat) (pla : Nat) (p0 : Int32) (p1 : Int32)  : Met l yX6_within wz_X6_within ({ frames := 1, cells := 0, slots := 0, locals := 21 }) (va_Pc [.ref h0, .int p0, .int p1] (fun U => U.heap.size = sz ∧ va_P (dC, dI) vwCl [(h0, .inr (6, [.ref tp, .int 0, .int 0, .int (-1), .ref rd, .ref gd, .ref im, .ref rw, .ref gn, .ref ho, .ref sq])), (gd, .inr (0, [.ref pl, .int 0, .long 0, .long 0, .int 0, .int (-1), .int 0, .ref gdt, .int 0, .ref gdu, .int 0, .ref gdn])), (pl, .inr (3, [.int 0, .int 0, .int 0, .int 0, .long 0, .ref plf, .ref plo, .ref plb, .ref pla]))] U.heap ∧ va_K (dC, dI) vwCl [] U ∧ va_D (fun _ => True) [(h0, .inr (6, [.ref tp, .int 0, .int 0, .int (-1), .ref rd, .ref gd, .ref im, .ref rw, .ref gn, .ref ho, .ref sq])), (gd, .inr (0, [.ref pl, .int 0, .long 0, .long 0, .int 0, .int (-1), .int 0, .ref gdt, .int 0, .ref gdu, .int 0, .ref gdn])), (pl, .inr (3, [.int 0, .int 0, .int 0, .int 0, .long 0, .ref plf, .ref plo, .ref plb, .ref pla]))])) (va_Qi (fun (r : Int32) (u : Unit) => r = -2) (fun (_ : Unit) (_ : State) => True) (va_A [(h0, .inr (6, [.ref tp, .int 0, .int 0, .int (-1), .ref rd, .ref gd, .ref im, .ref rw, .ref gn, .ref ho, .ref sq])), (gd, .inr (0, [.ref pl, .int 0, .long 0, .long 0, .int 0, .int (-1), .int 0, .ref gdt, .int 0, .ref gdu, .int 0, .ref gdn])), (pl, .inr (3, [.int 0, .int 0, .int 0, .int 0, .long 0, .ref plf, .ref plo, .ref plb, .ref pla]))] sz)) 0 0 (va_A [(h0, .inr (6, [.ref tp, .int 0, .int 0, .int (-1), .ref rd, .ref gd, .ref im, .ref rw, .ref gn, .ref ho, .ref sq])), (gd, .inr (0, [.ref pl, .int 0, .long 0, .long 0, .int 0, .int (-1), .int 0, .ref gdt, .int 0, .ref gdu, .int 0, .ref gdn])), (pl, .inr (3, [.int 0, .int 0, .int 0, .int 0, .long 0, .ref plf, .ref plo, .ref plb, .ref pla]))] sz) := by
  refine Met.ofW (cc := cX6_within) (maxL := 3) (ret := (some .int)) (by decide) rfl ?_
  intro p e s m args below meth c s₁ B hml hv
  obtain ⟨rfl, hsz, hP, hK, hD0⟩ := hv
  have hx := B.exec
  have hb := B.bytes
  have hr := B.returns
  have hts := atoms_spec (ws := wz_X6_within) B.pre
  have hown : s.vm.findClass RX6 = some m.cls := findClass_of_methodNamed B.named
  have hlocks := B.notSynchronized
  subst hsz
  have hD := hD0.self (sz := s.heap.size)
  generalize hAe : va_A [(h0, .inr (6, [.ref tp, .int 0, .int 0, .int (-1), .ref rd, .ref gd, .ref im, .ref rw, .ref gn, .ref ho, .ref sq])), (gd, .inr (0, [.ref pl, .int 0, .long 0, .long 0, .int 0, .int (-1), .int 0, .ref gdt, .int 0, .ref gdu, .int 0, .ref gdn])), (pl, .inr (3, [.int 0, .int 0, .int 0, .int 0, .long 0, .ref plf, .ref plo, .ref plb, .ref pla]))] s.heap.size = A at hD ⊢
  have hA : ∀ q : Nat, s.heap.size ≤ q → A q := fun q h => by rw [← hAe]; exact Or.inr h
  have hS : va_S A s.heap s.heap [] := va_S.rf
  have hP : va_P (dC, dI) vwCl [(h0, .inr (6, [.ref tp, .int 0, .int 0, .int (-1), .ref rd, .ref gd, .ref im, .ref rw, .ref gn, .ref ho, .ref sq])), (gd, .inr (0, [.ref pl, .int 0, .long 0, .long 0, .int 0, .int (-1), .int 0, .ref gdt, .int 0, .ref gdu, .int 0, .ref gdn])), (pl, .inr (3, [.int 0, .int 0, .int 0, .int 0, .long 0, .ref plf, .ref plo, .ref plb, .ref pla]))] s.heap := hP
  have hl := lv_entry ([.ref h0, .int p0, .int p1]) (n := 3) (Nat.le_of_ble_eq_true rfl)
  rw [lg_entry_eq]
  generalize (lg_sl ([.ref h0, .int p0, .int p1]) ++ List.replicate (3 - (lg_sl ([.ref h0, .int p0, .int p1])).length) Slot.unset).toArray = ls at hl ⊢
  have hl : lv_has ls 3 [(0, .ref h0), (1, .int p0), (2, .int p1)] := hl
  refine lv_aload_n hx hb dX6_within_0 rfl (lv_at hl 0 rfl) ?_
  refine lv_iload_n hx hb dX6_within_1 rfl (lv_at hl 1 rfl) ?_
  have hPc := hP.sub (ws' := [(h0, .inr (6, [.ref tp, .int 0, .int 0, .int (-1), .ref rd, .ref gd, .ref im, .ref rw, .ref gn, .ref ho, .ref sq])), (gd, .inr (0, [.ref pl, .int 0, .long 0, .long 0, .int 0, .int (-1), .int 0, .ref gdt, .int 0, .ref gdu, .int 0, .ref gdn])), (pl, .inr (3, [.int 0, .int 0, .int 0, .int 0, .long 0, .ref plf, .ref plo, .ref plb, .ref pla]))]) [0, 1, 2] rfl
  have hDc := hD.sub (ws' := [(h0, .inr (6, [.ref tp, .int 0, .int 0, .int (-1), .ref rd, .ref gd, .ref im, .ref rw, .ref gn, .ref ho, .ref sq])), (gd, .inr (0, [.ref pl, .int 0, .long 0, .long 0, .int 0, .int (-1), .int 0, .ref gdt, .int 0, .ref gdu, .int 0, .ref gdn])), (pl, .inr (3, [.int 0, .int 0, .int 0, .int 0, .long 0, .ref plf, .ref plo, .ref plb, .ref pla]))]) [0, 1, 2] (by decide) rfl
  have hKc := hK.sub (tys' := []) [] rfl
  have hFc := va_free (wc := [(h0, .inr (6, [.ref tp, .int 0, .int 0, .int (-1), .ref rd, .ref gd, .ref im, .ref rw, .ref gn, .ref ho, .ref sq])), (gd, .inr (0, [.ref pl, .int 0, .long 0, .long 0, .int 0, .int (-1), .int 0, .ref gdt, .int 0, .ref gdu, .int 0, .ref gdn])), (pl, .inr (3, [.int 0, .int 0, .int 0, .int 0, .long 0, .ref plf, .ref plo, .ref plb, .ref pla]))]) hD hS hA [0, 1, 2] rfl
  refine va_calli (va_runV (As := [.int p0]) (rest := []) ⟨hx, hb, hml, hown, hts⟩ (c_X6_isCell l dC dI s.heap.size h0 tp rd gd im rw gn ho sq pl gdt gdu gdn plf plo plb pla p0 ) (cwV 1 hts g_X6_within_X6_isCell rfl rfl rfl (by decide +kernel) ⟨Nat.le_of_ble_eq_true rfl, Nat.le_of_ble_eq_true rfl⟩) ⟨fun a U g mk q => by obtain ⟨q0, q1, qP, qK, qD⟩ := q; exact ⟨q0, q1, qP, va_K.moved (u := U) (U := U.calling g mk a) (Vm.Alike.refl U.vm) qK, qD⟩, va_recv hKc hPc (ci := 6) (q0 := 0) rfl rfl, fun U hU hW => ⟨rfl, by rw [hU], by rw [hU]; exact hPc, va_K.moved hW.alike hKc, hDc.weaken (fun _ _ _ _ => trivial)⟩⟩ rfl rfl hl.1 rfl (lv_room (Nat.le_of_ble_eq_true rfl)) dX6_within_2 ⟨Nat.le_of_ble_eq_true rfl, Nat.le_of_ble_eq_true rfl⟩) hS (fun q _ h => hFc q h) hFc (fun r_1 u t H1 locs ht hvm hw_2 hB hz1 hk1 hS => ?_)
  obtain ⟨hP1, hK1, hD1⟩ := hB
  have hP1 : va_P (dC, dI) vwCl [(h0, .inr (6, [.ref tp, .int 0, .int 0, .int (-1), .ref rd, .ref gd, .ref im, .ref rw, .ref gn, .ref ho, .ref sq])), (gd, .inr (0, [.ref pl, .int 0, .long 0, .long 0, .int 0, .int (-1), .int 0, .ref gdt, .int 0, .ref gdu, .int 0, .ref gdn])), (pl, .inr (3, [.int 0, .int 0, .int 0, .int 0, .long 0, .ref plf, .ref plo, .ref plb, .ref pla]))] t.heap := hP1
  rw [ht] at hP1
  try dsimp only at hw_2
  obtain ⟨hP, hD⟩ := va_join (wr := []) (w1 := [(h0, .inr (6, [.ref tp, .int 0, .int 0, .int (-1), .ref rd, .ref gd, .ref im, .ref rw, .ref gn, .ref ho, .ref sq])), (gd, .inr (0, [.ref pl, .int 0, .long 0, .long 0, .int 0, .int (-1), .int 0, .ref gdt, .int 0, .ref gdu, .int 0, .ref gdn])), (pl, .inr (3, [.int 0, .int 0, .int 0, .int 0, .long 0, .ref plf, .ref plo, .ref plb, .ref pla]))]) hP hD [0, 1, 2] [] rfl rfl (by decide) (by decide) hk1 hFc hP1 hD1
  generalize H1 = H at hP hS ⊢
  have hP : va_P (dC, dI) vwCl [(h0, .inr (6, [.ref tp, .int 0, .int 0, .int (-1), .ref rd, .ref gd, .ref im, .ref rw, .ref gn, .ref ho, .ref sq])), (gd, .inr (0, [.ref pl, .int 0, .long 0, .long 0, .int 0, .int (-1), .int 0, .ref gdt, .int 0, .ref gdu, .int 0, .ref gdn])), (pl, .inr (3, [.int 0, .int 0, .int 0, .int 0, .long 0, .ref plf, .ref plo, .ref plb, .ref pla]))] H := hP
  have hD : va_D A [(h0, .inr (6, [.ref tp, .int 0, .int 0, .int (-1), .ref rd, .ref gd, .ref im, .ref rw, .ref gn, .ref ho, .ref sq])), (gd, .inr (0, [.ref pl, .int 0, .long 0, .long 0, .int 0, .int (-1), .int 0, .ref gdt, .int 0, .ref gdu, .int 0, .ref gdn])), (pl, .inr (3, [.int 0, .int 0, .int 0, .int 0, .long 0, .ref plf, .ref plo, .ref plb, .ref pla]))] := hD
  obtain rfl : r_1 = 0 := hw_2
  refine lv_if_eq (tgt := 18) hx hb dX6_within_5 (by decide) (fun _ => ?_) (fun h => absurd (by decide) h)
  refine lv_bipush (v := -2) hx hb dX6_within_18 (by decide) ?_
  refine W.widen (k := 0) (n := 0) (by omega) (by omega) ?_
  exact W.iret (v := -2) hx hb hr (fun t ht hW => ⟨⟨(-2), (), rfl, (by first | rfl | ((repeat' split) <;> (first | rfl | (exfalso; omega)))), trivial⟩, hS.F ht⟩) hS.2.2 dX6_within_20

theorem dX6_shape_0 : decode cX6_shape 0 = .ok (.aload_n 0, 1) := by decide +kernel
theorem dX6_shape_1 : decode cX6_shape 1 = .ok (.invokevirtual 86, 3) := by decide +kernel
theorem dX6_shape_4 : decode cX6_shape 4 = .ok (.ifCond .ne 6, 3) := by decide +kernel
theorem dX6_shape_7 : decode cX6_shape 7 = .ok (.bipush (-2), 2) := by decide +kernel
theorem dX6_shape_9 : decode cX6_shape 9 = .ok (.ireturn, 1) := by decide +kernel
def wz_X6_shape : List Cond := .code yX6_shape cX6_shape 4 (some .int) :: ([Cond.methodLink RX6 86 yX6_hasMaze, Cond.instanceMethod yX6_hasMaze, Cond.selects RX6 yX6_hasMaze yX6_hasMaze, Cond.initialized RX6, Cond.code yX6_hasMaze cX6_hasMaze 1 (some .boolean), Cond.fieldLink RX6 33 "HedgeMaze" "garden" "LHedgeMaze$Garden;", Cond.fieldLink RX6 83 "HedgeMaze$Garden" "lines" "I"] ++ wsX60 ++ wsX00)
set_option maxRecDepth 20000 in
theorem g_X6_shape_X6_hasMaze : GoodIn wz_X6_shape (wsV RX6 86 RX6 yX6_hasMaze wz_X6_hasMaze) := goodIn_r _ [1, 2, 3, 4, 5, 6, 7, 8, 9, 10, 11, 12, 13, 14, 15, 16, 17, 18, 19, 20, 21, 22, 23, 24, 25, 26, 27, 28, 29, 30] rfl (by decide +kernel)
set_option maxHeartbeats 4000000 in
set_option maxRecDepth 100000 in
theorem c_X6_shape (l : Launch) (dC : Nat → ClassId) (dI : Nat → Nat → Nat) (sz : Nat) (h0 : Nat) (tp : Nat) (rd : Nat) (gd : Nat) (im : Nat) (rw : Nat) (gn : Nat) (ho : Nat) (sq : Nat) (pl : Nat) (gdt : Nat) (gdu : Nat) (gdn : Nat) (plf : Nat) (plo : Nat) (plb : Nat) (pla : Nat) (p0 : Int32)  : Met l yX6_shape wz_X6_shape ({ frames := 1, cells := 0, slots := 0, locals := 20 }) (va_Pc [.ref h0, .int p0] (fun U => U.heap.size = sz ∧ va_P (dC, dI) vwCl [(h0, .inr (6, [.ref tp, .int 0, .int 0, .int (-1), .ref rd, .ref gd, .ref im, .ref rw, .ref gn, .ref ho, .ref sq])), (gd, .inr (0, [.ref pl, .int 0, .long 0, .long 0, .int 0, .int (-1), .int 0, .ref gdt, .int 0, .ref gdu, .int 0, .ref gdn])), (pl, .inr (3, [.int 0, .int 0, .int 0, .int 0, .long 0, .ref plf, .ref plo, .ref plb, .ref pla]))] U.heap ∧ va_K (dC, dI) vwCl [] U ∧ va_D (fun _ => True) [(h0, .inr (6, [.ref tp, .int 0, .int 0, .int (-1), .ref rd, .ref gd, .ref im, .ref rw, .ref gn, .ref ho, .ref sq])), (gd, .inr (0, [.ref pl, .int 0, .long 0, .long 0, .int 0, .int (-1), .int 0, .ref gdt, .int 0, .ref gdu, .int 0, .ref gdn])), (pl, .inr (3, [.int 0, .int 0, .int 0, .int 0, .long 0, .ref plf, .ref plo, .ref plb, .ref pla]))])) (va_Qi (fun (r : Int32) (u : Unit) => r = -2) (fun (_ : Unit) (_ : State) => True) (va_A [(h0, .inr (6, [.ref tp, .int 0, .int 0, .int (-1), .ref rd, .ref gd, .ref im, .ref rw, .ref gn, .ref ho, .ref sq])), (gd, .inr (0, [.ref pl, .int 0, .long 0, .long 0, .int 0, .int (-1), .int 0, .ref gdt, .int 0, .ref gdu, .int 0, .ref gdn])), (pl, .inr (3, [.int 0, .int 0, .int 0, .int 0, .long 0, .ref plf, .ref plo, .ref plb, .ref pla]))] sz)) 0 0 (va_A [(h0, .inr (6, [.ref tp, .int 0, .int 0, .int (-1), .ref rd, .ref gd, .ref im, .ref rw, .ref gn, .ref ho, .ref sq])), (gd, .inr (0, [.ref pl, .int 0, .long 0, .long 0, .int 0, .int (-1), .int 0, .ref gdt, .int 0, .ref gdu, .int 0, .ref gdn])), (pl, .inr (3, [.int 0, .int 0, .int 0, .int 0, .long 0, .ref plf, .ref plo, .ref plb, .ref pla]))] sz) := by
  refine Met.ofW (cc := cX6_shape) (maxL := 4) (ret := (some .int)) (by decide) rfl ?_
  intro p e s m args below meth c s₁ B hml hv
  obtain ⟨rfl, hsz, hP, hK, hD0⟩ := hv
  have hx := B.exec
  have hb := B.bytes
  have hr := B.returns
  have hts := atoms_spec (ws := wz_X6_shape) B.pre
  have hown : s.vm.findClass RX6 = some m.cls := findClass_of_methodNamed B.named
  have hlocks := B.notSynchronized
  subst hsz
  have hD := hD0.self (sz := s.heap.size)
  generalize hAe : va_A [(h0, .inr (6, [.ref tp, .int 0, .int 0, .int (-1), .ref rd, .ref gd, .ref im, .ref rw, .ref gn, .ref ho, .ref sq])), (gd, .inr (0, [.ref pl, .int 0, .long 0, .long 0, .int 0, .int (-1), .int 0, .ref gdt, .int 0, .ref gdu, .int 0, .ref gdn])), (pl, .inr (3, [.int 0, .int 0, .int 0, .int 0, .long 0, .ref plf, .ref plo, .ref plb, .ref pla]))] s.heap.size = A at hD ⊢
  have hA : ∀ q : Nat, s.heap.size ≤ q → A q := fun q h => by rw [← hAe]; exact Or.inr h
  have hS : va_S A s.heap s.heap [] := va_S.rf
  have hP : va_P (dC, dI) vwCl [(h0, .inr (6, [.ref tp, .int 0, .int 0, .int (-1), .ref rd, .ref gd, .ref im, .ref rw, .ref gn, .ref ho, .ref sq])), (gd, .inr (0, [.ref pl, .int 0, .long 0, .long 0, .int 0, .int (-1), .int 0, .ref gdt, .int 0, .ref gdu, .int 0, .ref gdn])), (pl, .inr (3, [.int 0, .int 0, .int 0, .int 0, .long 0, .ref plf, .ref plo, .ref plb, .ref pla]))] s.heap := hP
  have hl := lv_entry ([.ref h0, .int p0]) (n := 4) (Nat.le_of_ble_eq_true rfl)
  rw [lg_entry_eq]
  generalize (lg_sl ([.ref h0, .int p0]) ++ List.replicate (4 - (lg_sl ([.ref h0, .int p0])).length) Slot.unset).toArray = ls at hl ⊢
  have hl : lv_has ls 4 [(0, .ref h0), (1, .int p0)] := hl
  refine lv_aload_n hx hb dX6_shape_0 rfl (lv_at hl 0 rfl) ?_
  have hPc := hP.sub (ws' := [(h0, .inr (6, [.ref tp, .int 0, .int 0, .int (-1), .ref rd, .ref gd, .ref im, .ref rw, .ref gn, .ref ho, .ref sq])), (gd, .inr (0, [.ref pl, .int 0, .long 0, .long 0, .int 0, .int (-1), .int 0, .ref gdt, .int 0, .ref gdu, .int 0, .ref gdn]))]) [0, 1] rfl
  have hDc := hD.sub (ws' := [(h0, .inr (6, [.ref tp, .int 0, .int 0, .int (-1), .ref rd, .ref gd, .ref im, .ref rw, .ref gn, .ref ho, .ref sq])), (gd, .inr (0, [.ref pl, .int 0, .long 0, .long 0, .int 0, .int (-1), .int 0, .ref gdt, .int 0, .ref gdu, .int 0, .ref gdn]))]) [0, 1] (by decide) rfl
  have hKc := hK.sub (tys' := []) [] rfl
  have hFc := va_free (wc := [(h0, .inr (6, [.ref tp, .int 0, .int 0, .int (-1), .ref rd, .ref gd, .ref im, .ref rw, .ref gn, .ref ho, .ref sq])), (gd, .inr (0, [.ref pl, .int 0, .long 0, .long 0, .int 0, .int (-1), .int 0, .ref gdt, .int 0, .ref gdu, .int 0, .ref gdn]))]) hD hS hA [0, 1] rfl
  refine va_calli (va_runV (As := []) (rest := []) ⟨hx, hb, hml, hown, hts⟩ (c_X6_hasMaze l dC dI s.heap.size h0 tp rd gd im rw gn ho sq pl gdt gdu gdn ) (cwV 0 hts g_X6_shape_X6_hasMaze rfl rfl rfl (by decide +kernel) ⟨Nat.le_of_ble_eq_true rfl, Nat.le_of_ble_eq_true rfl⟩) ⟨fun a U g mk q => by obtain ⟨q0, q1, qP, qK, qD⟩ := q; exact ⟨q0, q1, qP, va_K.moved (u := U) (U := U.calling g mk a) (Vm.Alike.refl U.vm) qK, qD⟩, va_recv hKc hPc (ci := 6) (q0 := 0) rfl rfl, fun U hU hW => ⟨rfl, by rw [hU], by rw [hU]; exact hPc, va_K.moved hW.alike hKc, hDc.weaken (fun _ _ _ _ => trivial)⟩⟩ rfl rfl hl.1 rfl (lv_room (Nat.le_of_ble_eq_true rfl)) dX6_shape_1 ⟨Nat.le_of_ble_eq_true rfl, Nat.le_of_ble_eq_true rfl⟩) hS (fun q _ h => hFc q h) hFc (fun r_1 u t H1 locs ht hvm hw_2 hB hz1 hk1 hS => ?_)
  obtain ⟨hP1, hK1, hD1⟩ := hB
  have hP1 : va_P (dC, dI) vwCl [(h0, .inr (6, [.ref tp, .int 0, .int 0, .int (-1), .ref rd, .ref gd, .ref im, .ref rw, .ref gn, .ref ho, .ref sq])), (gd, .inr (0, [.ref pl, .int 0, .long 0, .long 0, .int 0, .int (-1), .int 0, .ref gdt, .int 0, .ref gdu, .int 0, .ref gdn]))] t.heap := hP1
  rw [ht] at hP1
  try dsimp only at hw_2
  obtain ⟨hP, hD⟩ := va_join (wr := [(pl, .inr (3, [.int 0, .int 0, .int 0, .int 0, .long 0, .ref plf, .ref plo, .ref plb, .ref pla]))]) (w1 := [(h0, .inr (6, [.ref tp, .int 0, .int 0, .int (-1), .ref rd, .ref gd, .ref im, .ref rw, .ref gn, .ref ho, .ref sq])), (gd, .inr (0, [.ref pl, .int 0, .long 0, .long 0, .int 0, .int (-1), .int 0, .ref gdt, .int 0, .ref gdu, .int 0, .ref gdn]))]) hP hD [0, 1] [2] rfl rfl (by decide) (by decide) hk1 hFc hP1 hD1
  generalize H1 = H at hP hS ⊢
  have hP : va_P (dC, dI) vwCl [(pl, .inr (3, [.int 0, .int 0, .int 0, .int 0, .long 0, .ref plf, .ref plo, .ref plb, .ref pla])), (h0, .inr (6, [.ref tp, .int 0, .int 0, .int (-1), .ref rd, .ref gd, .ref im, .ref rw, .ref gn, .ref ho, .ref sq])), (gd, .inr (0, [.ref pl, .int 0, .long 0, .long 0, .int 0, .int (-1), .int 0, .ref gdt, .int 0, .ref gdu, .int 0, .ref gdn]))] H := hP
  have hD : va_D A [(pl, .inr (3, [.int 0, .int 0, .int 0, .int 0, .long 0, .ref plf, .ref plo, .ref plb, .ref pla])), (h0, .inr (6, [.ref tp, .int 0, .int 0, .int (-1), .ref rd, .ref gd, .ref im, .ref rw, .ref gn, .ref ho, .ref sq])), (gd, .inr (0, [.ref pl, .int 0, .long 0, .long 0, .int 0, .int (-1), .int 0, .ref gdt, .int 0, .ref gdu, .int 0, .ref gdn]))] := hD
  obtain rfl : r_1 = 0 := hw_2
  refine lv_if_ne (tgt := 10) hx hb dX6_shape_4 (by decide) (fun h => absurd (by decide) h) (fun _ => ?_)
  refine lv_bipush (v := -2) hx hb dX6_shape_7 (by decide) ?_
  refine W.widen (k := 0) (n := 0) (by omega) (by omega) ?_
  exact W.iret (v := -2) hx hb hr (fun t ht hW => ⟨⟨(-2), (), rfl, (by first | rfl | ((repeat' split) <;> (first | rfl | (exfalso; omega)))), trivial⟩, hS.F ht⟩) hS.2.2 dX6_shape_9

theorem dX6_bridge_0 : decode cX6_bridge 0 = .ok (.aload_n 0, 1) := by decide +kernel
theorem dX6_bridge_1 : decode cX6_bridge 1 = .ok (.invokevirtual 86, 3) := by decide +kernel
theorem dX6_bridge_4 : decode cX6_bridge 4 = .ok (.ifCond .eq 8, 3) := by decide +kernel
theorem dX6_bridge_12 : decode cX6_bridge 12 = .ok (.bipush (-2), 2) := by decide +kernel
theorem dX6_bridge_14 : decode cX6_bridge 14 = .ok (.ireturn, 1) := by decide +kernel
def wz_X6_bridge : List Cond := .code yX6_bridge cX6_bridge 6 (some .int) :: ([Cond.methodLink RX6 86 yX6_hasMaze, Cond.instanceMethod yX6_hasMaze, Cond.selects RX6 yX6_hasMaze yX6_hasMaze, Cond.initialized RX6, Cond.code yX6_hasMaze cX6_hasMaze 1 (some .boolean), Cond.fieldLink RX6 33 "HedgeMaze" "garden" "LHedgeMaze$Garden;", Cond.fieldLink RX6 83 "HedgeMaze$Garden" "lines" "I"] ++ wsX60 ++ wsX00)
set_option maxRecDepth 20000 in
theorem g_X6_bridge_X6_hasMaze : GoodIn wz_X6_bridge (wsV RX6 86 RX6 yX6_hasMaze wz_X6_hasMaze) := goodIn_r _ [1, 2, 3, 4, 5, 6, 7, 8, 9, 10, 11, 12, 13, 14, 15, 16, 17, 18, 19, 20, 21, 22, 23, 24, 25, 26, 27, 28, 29, 30] rfl (by decide +kernel)
set_option maxHeartbeats 4000000 in
set_option maxRecDepth 100000 in
theorem c_X6_bridge (l : Launch) (dC : Nat → ClassId) (dI : Nat → Nat → Nat) (sz : Nat) (h0 : Nat) (tp : Nat) (rd : Nat) (gd : Nat) (im : Nat) (rw : Nat) (gn : Nat) (ho : Nat) (sq : Nat) (pl : Nat) (gdt : Nat) (gdu : Nat) (gdn : Nat) (plf : Nat) (plo : Nat) (plb : Nat) (pla : Nat) (p0 : Int32)  : Met l yX6_bridge wz_X6_bridge ({ frames := 1, cells := 0, slots := 0, locals := 20 }) (va_Pc [.ref h0, .int p0] (fun U => U.heap.size = sz ∧ va_P (dC, dI) vwCl [(h0, .inr (6, [.ref tp, .int 0, .int 0, .int (-1), .ref rd, .ref gd, .ref im, .ref rw, .ref gn, .ref ho, .ref sq])), (gd, .inr (0, [.ref pl, .int 0, .long 0, .long 0, .int 0, .int (-1), .int 0, .ref gdt, .int 0, .ref gdu, .int 0, .ref gdn])), (pl, .inr (3, [.int 0, .int 0, .int 0, .int 0, .long 0, .ref plf, .ref plo, .ref plb, .ref pla]))] U.heap ∧ va_K (dC, dI) vwCl [] U ∧ va_D (fun _ => True) [(h0, .inr (6, [.ref tp, .int 0, .int 0, .int (-1), .ref rd, .ref gd, .ref im, .ref rw, .ref gn, .ref ho, .ref sq])), (gd, .inr (0, [.ref pl, .int 0, .long 0, .long 0, .int 0, .int (-1), .int 0, .ref gdt, .int 0, .ref gdu, .int 0, .ref gdn])), (pl, .inr (3, [.int 0, .int 0, .int 0, .int 0, .long 0, .ref plf, .ref plo, .ref plb, .ref pla]))])) (va_Qi (fun (r : Int32) (u : Unit) => r = -2) (fun (_ : Unit) (_ : State) => True) (va_A [(h0, .inr (6, [.ref tp, .int 0, .int 0, .int (-1), .ref rd, .ref gd, .ref im, .ref rw, .ref gn, .ref ho, .ref sq])), (gd, .inr (0, [.ref pl, .int 0, .long 0, .long 0, .int 0, .int (-1), .int 0, .ref gdt, .int 0, .ref gdu, .int 0, .ref gdn])), (pl, .inr (3, [.int 0, .int 0, .int 0, .int 0, .long 0, .ref plf, .ref plo, .ref plb, .ref pla]))] sz)) 0 0 (va_A [(h0, .inr (6, [.ref tp, .int 0, .int 0, .int (-1), .ref rd, .ref gd, .ref im, .ref rw, .ref gn, .ref ho, .ref sq])), (gd, .inr (0, [.ref pl, .int 0, .long 0, .long 0, .int 0, .int (-1), .int 0, .ref gdt, .int 0, .ref gdu, .int 0, .ref gdn])), (pl, .inr (3, [.int 0, .int 0, .int 0, .int 0, .long 0, .ref plf, .ref plo, .ref plb, .ref pla]))] sz) := by
  refine Met.ofW (cc := cX6_bridge) (maxL := 6) (ret := (some .int)) (by decide) rfl ?_
  intro p e s m args below meth c s₁ B hml hv
  obtain ⟨rfl, hsz, hP, hK, hD0⟩ := hv
  have hx := B.exec
  have hb := B.bytes
  have hr := B.returns
  have hts := atoms_spec (ws := wz_X6_bridge) B.pre
  have hown : s.vm.findClass RX6 = some m.cls := findClass_of_methodNamed B.named
  have hlocks := B.notSynchronized
  subst hsz
  have hD := hD0.self (sz := s.heap.size)
  generalize hAe : va_A [(h0, .inr (6, [.ref tp, .int 0, .int 0, .int (-1), .ref rd, .ref gd, .ref im, .ref rw, .ref gn, .ref ho, .ref sq])), (gd, .inr (0, [.ref pl, .int 0, .long 0, .long 0, .int 0, .int (-1), .int 0, .ref gdt, .int 0, .ref gdu, .int 0, .ref gdn])), (pl, .inr (3, [.int 0, .int 0, .int 0, .int 0, .long 0, .ref plf, .ref plo, .ref plb, .ref pla]))] s.heap.size = A at hD ⊢
  have hA : ∀ q : Nat, s.heap.size ≤ q → A q := fun q h => by rw [← hAe]; exact Or.inr h
  have hS : va_S A s.heap s.heap [] := va_S.rf
  have hP : va_P (dC, dI) vwCl [(h0, .inr (6, [.ref tp, .int 0, .int 0, .int (-1), .ref rd, .ref gd, .ref im, .ref rw, .ref gn, .ref ho, .ref sq])), (gd, .inr (0, [.ref pl, .int 0, .long 0, .long 0, .int 0, .int (-1), .int 0, .ref gdt, .int 0, .ref gdu, .int 0, .ref gdn])), (pl, .inr (3, [.int 0, .int 0, .int 0, .int 0, .long 0, .ref plf, .ref plo, .ref plb, .ref pla]))] s.heap := hP
  have hl := lv_entry ([.ref h0, .int p0]) (n := 6) (Nat.le_of_ble_eq_true rfl)
  rw [lg_entry_eq]
  generalize (lg_sl ([.ref h0, .int p0]) ++ List.replicate (6 - (lg_sl ([.ref h0, .int p0])).length) Slot.unset).toArray = ls at hl ⊢
  have hl : lv_has ls 6 [(0, .ref h0), (1, .int p0)] := hl
  refine lv_aload_n hx hb dX6_bridge_0 rfl (lv_at hl 0 rfl) ?_
  have hPc := hP.sub (ws' := [(h0, .inr (6, [.ref tp, .int 0, .int 0, .int (-1), .ref rd, .ref gd, .ref im, .ref rw, .ref gn, .ref ho, .ref sq])), (gd, .inr (0, [.ref pl, .int 0, .long 0, .long 0, .int 0, .int (-1), .int 0, .ref gdt, .int 0, .ref gdu, .int 0, .ref gdn]))]) [0, 1] rfl
  have hDc := hD.sub (ws' := [(h0, .inr (6, [.ref tp, .int 0, .int 0, .int (-1), .ref rd, .ref gd, .ref im, .ref rw, .ref gn, .ref ho, .ref sq])), (gd, .inr (0, [.ref pl, .int 0, .long 0, .long 0, .int 0, .int (-1), .int 0, .ref gdt, .int 0, .ref gdu, .int 0, .ref gdn]))]) [0, 1] (by decide) rfl
  have hKc := hK.sub (tys' := []) [] rfl
  have hFc := va_free (wc := [(h0, .inr (6, [.ref tp, .int 0, .int 0, .int (-1), .ref rd, .ref gd, .ref im, .ref rw, .ref gn, .ref ho, .ref sq])), (gd, .inr (0, [.ref pl, .int 0, .long 0, .long 0, .int 0, .int (-1), .int 0, .ref gdt, .int 0, .ref gdu, .int 0, .ref gdn]))]) hD hS hA [0, 1] rfl
  refine va_calli (va_runV (As := []) (rest := []) ⟨hx, hb, hml, hown, hts⟩ (c_X6_hasMaze l dC dI s.heap.size h0 tp rd gd im rw gn ho sq pl gdt gdu gdn ) (cwV 0 hts g_X6_bridge_X6_hasMaze rfl rfl rfl (by decide +kernel) ⟨Nat.le_of_ble_eq_true rfl, Nat.le_of_ble_eq_true rfl⟩) ⟨fun a U g mk q => by obtain ⟨q0, q1, qP, qK, qD⟩ := q; exact ⟨q0, q1, qP, va_K.moved (u := U) (U := U.calling g mk a) (Vm.Alike.refl U.vm) qK, qD⟩, va_recv hKc hPc (ci := 6) (q0 := 0) rfl rfl, fun U hU hW => ⟨rfl, by rw [hU], by rw [hU]; exact hPc, va_K.moved hW.alike hKc, hDc.weaken (fun _ _ _ _ => trivial)⟩⟩ rfl rfl hl.1 rfl (lv_room (Nat.le_of_ble_eq_true rfl)) dX6_bridge_1 ⟨Nat.le_of_ble_eq_true rfl, Nat.le_of_ble_eq_true rfl⟩) hS (fun q _ h => hFc q h) hFc (fun r_1 u t H1 locs ht hvm hw_2 hB hz1 hk1 hS => ?_)
  obtain ⟨hP1, hK1, hD1⟩ := hB
  have hP1 : va_P (dC, dI) vwCl [(h0, .inr (6, [.ref tp, .int 0, .int 0, .int (-1), .ref rd, .ref gd, .ref im, .ref rw, .ref gn, .ref ho, .ref sq])), (gd, .inr (0, [.ref pl, .int 0, .long 0, .long 0, .int 0, .int (-1), .int 0, .ref gdt, .int 0, .ref gdu, .int 0, .ref gdn]))] t.heap := hP1
  rw [ht] at hP1
  try dsimp only at hw_2
  obtain ⟨hP, hD⟩ := va_join (wr := [(pl, .inr (3, [.int 0, .int 0, .int 0, .int 0, .long 0, .ref plf, .ref plo, .ref plb, .ref pla]))]) (w1 := [(h0, .inr (6, [.ref tp, .int 0, .int 0, .int (-1), .ref rd, .ref gd, .ref im, .ref rw, .ref gn, .ref ho, .ref sq])), (gd, .inr (0, [.ref pl, .int 0, .long 0, .long 0, .int 0, .int (-1), .int 0, .ref gdt, .int 0, .ref gdu, .int 0, .ref gdn]))]) hP hD [0, 1] [2] rfl rfl (by decide) (by decide) hk1 hFc hP1 hD1
  generalize H1 = H at hP hS ⊢
  have hP : va_P (dC, dI) vwCl [(pl, .inr (3, [.int 0, .int 0, .int 0, .int 0, .long 0, .ref plf, .ref plo, .ref plb, .ref pla])), (h0, .inr (6, [.ref tp, .int 0, .int 0, .int (-1), .ref rd, .ref gd, .ref im, .ref rw, .ref gn, .ref ho, .ref sq])), (gd, .inr (0, [.ref pl, .int 0, .long 0, .long 0, .int 0, .int (-1), .int 0, .ref gdt, .int 0, .ref gdu, .int 0, .ref gdn]))] H := hP
  have hD : va_D A [(pl, .inr (3, [.int 0, .int 0, .int 0, .int 0, .long 0, .ref plf, .ref plo, .ref plb, .ref pla])), (h0, .inr (6, [.ref tp, .int 0, .int 0, .int (-1), .ref rd, .ref gd, .ref im, .ref rw, .ref gn, .ref ho, .ref sq])), (gd, .inr (0, [.ref pl, .int 0, .long 0, .long 0, .int 0, .int (-1), .int 0, .ref gdt, .int 0, .ref gdu, .int 0, .ref gdn]))] := hD
  obtain rfl : r_1 = 0 := hw_2
  refine lv_if_eq (tgt := 12) hx hb dX6_bridge_4 (by decide) (fun _ => ?_) (fun h => absurd (by decide) h)
  refine lv_bipush (v := -2) hx hb dX6_bridge_12 (by decide) ?_
  refine W.widen (k := 0) (n := 0) (by omega) (by omega) ?_
  exact W.iret (v := -2) hx hb hr (fun t ht hW => ⟨⟨(-2), (), rfl, (by first | rfl | ((repeat' split) <;> (first | rfl | (exfalso; omega)))), trivial⟩, hS.F ht⟩) hS.2.2 dX6_bridge_14

theorem dX6_lawful_0 : decode cX6_lawful 0 = .ok (.aload_n 0, 1) := by decide +kernel
theorem dX6_lawful_1 : decode cX6_lawful 1 = .ok (.iload_n 1, 1) := by decide +kernel
theorem dX6_lawful_2 : decode cX6_lawful 2 = .ok (.i2l, 1) := by decide +kernel
theorem dX6_lawful_3 : decode cX6_lawful 3 = .ok (.invokevirtual 107, 3) := by decide +kernel
theorem dX6_lawful_6 : decode cX6_lawful 6 = .ok (.ifCond .eq 12, 3) := by decide +kernel
theorem dX6_lawful_18 : decode cX6_lawful 18 = .ok (.bipush (-2), 2) := by decide +kernel
theorem dX6_lawful_20 : decode cX6_lawful 20 = .ok (.ireturn, 1) := by decide +kernel
def wz_X6_lawful : List Cond := .code yX6_lawful cX6_lawful 3 (some .int) :: ([Cond.methodLink RX6 107 yX6_isSide, Cond.instanceMethod yX6_isSide, Cond.selects RX6 yX6_isSide yX6_isSide, Cond.initialized RX6, Cond.code yX6_isSide cX6_isSide 3 (some .boolean), Cond.fieldLink RX6 33 "HedgeMaze" "garden" "LHedgeMaze$Garden;", Cond.fieldLink RX6 90 "HedgeMaze$Garden" "plan" "LHedgeMaze$Plan;", Cond.fieldLink RX6 94 "HedgeMaze$Plan" "sideCount" "I"] ++ wsX60 ++ wsX00 ++ wsX30)
set_option maxRecDepth 20000 in
theorem g_X6_lawful_X6_isSide : GoodIn wz_X6_lawful (wsV RX6 107 RX6 yX6_isSide wz_X6_isSide) := goodIn_r _ [1, 2, 3, 4, 5, 6, 7, 8, 9, 10, 11, 12, 13, 14, 15, 16, 17, 18, 19, 20, 21, 22, 23, 24, 25, 26, 27, 28, 29, 30, 31, 32, 33, 34, 35, 36, 37, 38, 39, 40] rfl (by decide +kernel)
set_option maxHeartbeats 4000000 in
set_option maxRecDepth 100000 in
theorem c_X6_lawful (l : Launch) (dC : Nat → ClassId) (dI : Nat → Nat → Nat) (sz : Nat) (h0 : Nat) (tp : Nat) (rd : Nat) (gd : Nat) (im : Nat) (rw : Nat) (gn : Nat) (ho : Nat) (sq : Nat) (pl : Nat) (gdt : Nat) (gdu : Nat) (gdn : Nat) (plf : Nat) (plo : Nat) (plb : Nat) (pla : Nat) (p0 : Int32) (p1 : Int32)  : Met l yX6_lawful wz_X6_lawful ({ frames := 1, cells := 0, slots := 0, locals := 22 }) (va_Pc [.ref h0, .int p0, .int p1] (fun U => U.heap.size = sz ∧ va_P (dC, dI) vwCl [(h0, .inr (6, [.ref tp, .int 0, .int 0, .int (-1), .ref rd, .ref gd, .ref im, .ref rw, .ref gn, .ref ho, .ref sq])), (gd, .inr (0, [.ref pl, .int 0, .long 0, .long 0, .int 0, .int (-1), .int 0, .ref gdt, .int 0, .ref gdu, .int 0, .ref gdn])), (pl, .inr (3, [.int 0, .int 0, .int 0, .int 0, .long 0, .ref plf, .ref plo, .ref plb, .ref pla]))] U.heap ∧ va_K (dC, dI) vwCl [] U ∧ va_D (fun _ => True) [(h0, .inr (6, [.ref tp, .int 0, .int 0, .int (-1), .ref rd, .ref gd, .ref im, .ref rw, .ref gn, .ref ho, .ref sq])), (gd, .inr (0, [.ref pl, .int 0, .long 0, .long 0, .int 0, .int (-1), .int 0, .ref gdt, .int 0, .ref gdu, .int 0, .ref gdn])), (pl, .inr (3, [.int 0, .int 0, .int 0, .int 0, .long 0, .ref plf, .ref plo, .ref plb, .ref pla]))])) (va_Qi (fun (r : Int32) (u : Unit) => r = -2) (fun (_ : Unit) (_ : State) => True) (va_A [(h0, .inr (6, [.ref tp, .int 0, .int 0, .int (-1), .ref rd, .ref gd, .ref im, .ref rw, .ref gn, .ref ho, .ref sq])), (gd, .inr (0, [.ref pl, .int 0, .long 0, .long 0, .int 0, .int (-1), .int 0, .ref gdt, .int 0, .ref gdu, .int 0, .ref gdn])), (pl, .inr (3, [.int 0, .int 0, .int 0, .int 0, .long 0, .ref plf, .ref plo, .ref plb, .ref pla]))] sz)) 0 0 (va_A [(h0, .inr (6, [.ref tp, .int 0, .int 0, .int (-1), .ref rd, .ref gd, .ref im, .ref rw, .ref gn, .ref ho, .ref sq])), (gd, .inr (0, [.ref pl, .int 0, .long 0, .long 0, .int 0, .int (-1), .int 0, .ref gdt, .int 0, .ref gdu, .int 0, .ref gdn])), (pl, .inr (3, [.int 0, .int 0, .int 0, .int 0, .long 0, .ref plf, .ref plo, .ref plb, .ref pla]))] sz) := by
  refine Met.ofW (cc := cX6_lawful) (maxL := 3) (ret := (some .int)) (by decide) rfl ?_
  intro p e s m args below meth c s₁ B hml hv
  obtain ⟨rfl, hsz, hP, hK, hD0⟩ := hv
  have hx := B.exec
  have hb := B.bytes
  have hr := B.returns
  have hts := atoms_spec (ws := wz_X6_lawful) B.pre
  have hown : s.vm.findClass RX6 = some m.cls := findClass_of_methodNamed B.named
  have hlocks := B.notSynchronized
  subst hsz
  have hD := hD0.self (sz := s.heap.size)
  generalize hAe : va_A [(h0, .inr (6, [.ref tp, .int 0, .int 0, .int (-1), .ref rd, .ref gd, .ref im, .ref rw, .ref gn, .ref ho, .ref sq])), (gd, .inr (0, [.ref pl, .int 0, .long 0, .long 0, .int 0, .int (-1), .int 0, .ref gdt, .int 0, .ref gdu, .int 0, .ref gdn])), (pl, .inr (3, [.int 0, .int 0, .int 0, .int 0, .long 0, .ref plf, .ref plo, .ref plb, .ref pla]))] s.heap.size = A at hD ⊢
  have hA : ∀ q : Nat, s.heap.size ≤ q → A q := fun q h => by rw [← hAe]; exact Or.inr h
  have hS : va_S A s.heap s.heap [] := va_S.rf
  have hP : va_P (dC, dI) vwCl [(h0, .inr (6, [.ref tp, .int 0, .int 0, .int (-1), .ref rd, .ref gd, .ref im, .ref rw, .ref gn, .ref ho, .ref sq])), (gd, .inr (0, [.ref pl, .int 0, .long 0, .long 0, .int 0, .int (-1), .int 0, .ref gdt, .int 0, .ref gdu, .int 0, .ref gdn])), (pl, .inr (3, [.int 0, .int 0, .int 0, .int 0, .long 0, .ref plf, .ref plo, .ref plb, .ref pla]))] s.heap := hP
  have hl := lv_entry ([.ref h0, .int p0, .int p1]) (n := 3) (Nat.le_of_ble_eq_true rfl)
  rw [lg_entry_eq]
  generalize (lg_sl ([.ref h0, .int p0, .int p1]) ++ List.replicate (3 - (lg_sl ([.ref h0, .int p0, .int p1])).length) Slot.unset).toArray = ls at hl ⊢
  have hl : lv_has ls 3 [(0, .ref h0), (1, .int p0), (2, .int p1)] := hl
  refine lv_aload_n hx hb dX6_lawful_0 rfl (lv_at hl 0 rfl) ?_
  refine lv_iload_n hx hb dX6_lawful_1 rfl (lv_at hl 1 rfl) ?_
  refine lv_i2l (v := p0.toInt64) hx hb dX6_lawful_2 rfl ?_
  have hPc := hP.sub (ws' := [(h0, .inr (6, [.ref tp, .int 0, .int 0, .int (-1), .ref rd, .ref gd, .ref im, .ref rw, .ref gn, .ref ho, .ref sq])), (gd, .inr (0, [.ref pl, .int 0, .long 0, .long 0, .int 0, .int (-1), .int 0, .ref gdt, .int 0, .ref gdu, .int 0, .ref gdn])), (pl, .inr (3, [.int 0, .int 0, .int 0, .int 0, .long 0, .ref plf, .ref plo, .ref plb, .ref pla]))]) [0, 1, 2] rfl
  have hDc := hD.sub (ws' := [(h0, .inr (6, [.ref tp, .int 0, .int 0, .int (-1), .ref rd, .ref gd, .ref im, .ref rw, .ref gn, .ref ho, .ref sq])), (gd, .inr (0, [.ref pl, .int 0, .long 0, .long 0, .int 0, .int (-1), .int 0, .ref gdt, .int 0, .ref gdu, .int 0, .ref gdn])), (pl, .inr (3, [.int 0, .int 0, .int 0, .int 0, .long 0, .ref plf, .ref plo, .ref plb, .ref pla]))]) [0, 1, 2] (by decide) rfl
  have hKc := hK.sub (tys' := []) [] rfl
  have hFc := va_free (wc := [(h0, .inr (6, [.ref tp, .int 0, .int 0, .int (-1), .ref rd, .ref gd, .ref im, .ref rw, .ref gn, .ref ho, .ref sq])), (gd, .inr (0, [.ref pl, .int 0, .long 0, .long 0, .int 0, .int (-1), .int 0, .ref gdt, .int 0, .ref gdu, .int 0, .ref gdn])), (pl, .inr (3, [.int 0, .int 0, .int 0, .int 0, .long 0, .ref plf, .ref plo, .ref plb, .ref pla]))]) hD hS hA [0, 1, 2] rfl
  refine va_calli (va_runV (As := [.long p0.toInt64]) (rest := []) ⟨hx, hb, hml, hown, hts⟩ (c_X6_isSide l dC dI s.heap.size h0 tp rd gd im rw gn ho sq pl gdt gdu gdn plf plo plb pla p0.toInt64 ) (cwV 1 hts g_X6_lawful_X6_isSide rfl rfl rfl (by decide +kernel) ⟨Nat.le_of_ble_eq_true rfl, Nat.le_of_ble_eq_true rfl⟩) ⟨fun a U g mk q => by obtain ⟨q0, q1, qP, qK, qD⟩ := q; exact ⟨q0, q1, qP, va_K.moved (u := U) (U := U.calling g mk a) (Vm.Alike.refl U.vm) qK, qD⟩, va_recv hKc hPc (ci := 6) (q0 := 0) rfl rfl, fun U hU hW => ⟨rfl, by rw [hU], by rw [hU]; exact hPc, va_K.moved hW.alike hKc, hDc.weaken (fun _ _ _ _ => trivial)⟩⟩ rfl rfl hl.1 rfl (lv_room (Nat.le_of_ble_eq_true rfl)) dX6_lawful_3 ⟨Nat.le_of_ble_eq_true rfl, Nat.le_of_ble_eq_true rfl⟩) hS (fun q _ h => hFc q h) hFc (fun r_1 u t H1 locs ht hvm hw_2 hB hz1 hk1 hS => ?_)
  obtain ⟨hP1, hK1, hD1⟩ := hB
  have hP1 : va_P (dC, dI) vwCl [(h0, .inr (6, [.ref tp, .int 0, .int 0, .int (-1), .ref rd, .ref gd, .ref im, .ref rw, .ref gn, .ref ho, .ref sq])), (gd, .inr (0, [.ref pl, .int 0, .long 0, .long 0, .int 0, .int (-1), .int 0, .ref gdt, .int 0, .ref gdu, .int 0, .ref gdn])), (pl, .inr (3, [.int 0, .int 0, .int 0, .int 0, .long 0, .ref plf, .ref plo, .ref plb, .ref pla]))] t.heap := hP1
  rw [ht] at hP1
  try dsimp only at hw_2
  obtain ⟨hP, hD⟩ := va_join (wr := []) (w1 := [(h0, .inr (6, [.ref tp, .int 0, .int 0, .int (-1), .ref rd, .ref gd, .ref im, .ref rw, .ref gn, .ref ho, .ref sq])), (gd, .inr (0, [.ref pl, .int 0, .long 0, .long 0, .int 0, .int (-1), .int 0, .ref gdt, .int 0, .ref gdu, .int 0, .ref gdn])), (pl, .inr (3, [.int 0, .int 0, .int 0, .int 0, .long 0, .ref plf, .ref plo, .ref plb, .ref pla]))]) hP hD [0, 1, 2] [] rfl rfl (by decide) (by decide) hk1 hFc hP1 hD1
  generalize H1 = H at hP hS ⊢
  have hP : va_P (dC, dI) vwCl [(h0, .inr (6, [.ref tp, .int 0, .int 0, .int (-1), .ref rd, .ref gd, .ref im, .ref rw, .ref gn, .ref ho, .ref sq])), (gd, .inr (0, [.ref pl, .int 0, .long 0, .long 0, .int 0, .int (-1), .int 0, .ref gdt, .int 0, .ref gdu, .int 0, .ref gdn])), (pl, .inr (3, [.int 0, .int 0, .int 0, .int 0, .long 0, .ref plf, .ref plo, .ref plb, .ref pla]))] H := hP
  have hD : va_D A [(h0, .inr (6, [.ref tp, .int 0, .int 0, .int (-1), .ref rd, .ref gd, .ref im, .ref rw, .ref gn, .ref ho, .ref sq])), (gd, .inr (0, [.ref pl, .int 0, .long 0, .long 0, .int 0, .int (-1), .int 0, .ref gdt, .int 0, .ref gdu, .int 0, .ref gdn])), (pl, .inr (3, [.int 0, .int 0, .int 0, .int 0, .long 0, .ref plf, .ref plo, .ref plb, .ref pla]))] := hD
  obtain rfl : r_1 = 0 := hw_2
  refine lv_if_eq (tgt := 18) hx hb dX6_lawful_6 (by decide) (fun _ => ?_) (fun h => absurd (by decide) h)
  refine lv_bipush (v := -2) hx hb dX6_lawful_18 (by decide) ?_
  refine W.widen (k := 0) (n := 0) (by omega) (by omega) ?_
  exact W.iret (v := -2) hx hb hr (fun t ht hW => ⟨⟨(-2), (), rfl, (by first | rfl | ((repeat' split) <;> (first | rfl | (exfalso; omega)))), trivial⟩, hS.F ht⟩) hS.2.2 dX6_lawful_20

theorem dX6_many_0 : decode cX6_many 0 = .ok (.aload_n 0, 1) := by decide +kernel
theorem dX6_many_1 : decode cX6_many 1 = .ok (.invokevirtual 86, 3) := by decide +kernel
theorem dX6_many_4 : decode cX6_many 4 = .ok (.ifCond .eq 25, 3) := by decide +kernel
theorem dX6_many_29 : decode cX6_many 29 = .ok (.bipush (-2), 2) := by decide +kernel
theorem dX6_many_31 : decode cX6_many 31 = .ok (.ireturn, 1) := by decide +kernel
def wz_X6_many : List Cond := .code yX6_many cX6_many 1 (some .int) :: ([Cond.methodLink RX6 86 yX6_hasMaze, Cond.instanceMethod yX6_hasMaze, Cond.selects RX6 yX6_hasMaze yX6_hasMaze, Cond.initialized RX6, Cond.code yX6_hasMaze cX6_hasMaze 1 (some .boolean), Cond.fieldLink RX6 33 "HedgeMaze" "garden" "LHedgeMaze$Garden;", Cond.fieldLink RX6 83 "HedgeMaze$Garden" "lines" "I"] ++ wsX60 ++ wsX00)
set_option maxRecDepth 20000 in
theorem g_X6_many_X6_hasMaze : GoodIn wz_X6_many (wsV RX6 86 RX6 yX6_hasMaze wz_X6_hasMaze) := goodIn_r _ [1, 2, 3, 4, 5, 6, 7, 8, 9, 10, 11, 12, 13, 14, 15, 16, 17, 18, 19, 20, 21, 22, 23, 24, 25, 26, 27, 28, 29, 30] rfl (by decide +kernel)
set_option maxHeartbeats 4000000 in
set_option maxRecDepth 100000 in
theorem c_X6_many (l : Launch) (dC : Nat → ClassId) (dI : Nat → Nat → Nat) (sz : Nat) (h0 : Nat) (tp : Nat) (rd : Nat) (gd : Nat) (im : Nat) (rw : Nat) (gn : Nat) (ho : Nat) (sq : Nat) (pl : Nat) (gdt : Nat) (gdu : Nat) (gdn : Nat) (plf : Nat) (plo : Nat) (plb : Nat) (pla : Nat)  : Met l yX6_many wz_X6_many ({ frames := 1, cells := 0, slots := 0, locals := 20 }) (va_Pc [.ref h0] (fun U => U.heap.size = sz ∧ va_P (dC, dI) vwCl [(h0, .inr (6, [.ref tp, .int 0, .int 0, .int (-1), .ref rd, .ref gd, .ref im, .ref rw, .ref gn, .ref ho, .ref sq])), (gd, .inr (0, [.ref pl, .int 0, .long 0, .long 0, .int 0, .int (-1), .int 0, .ref gdt, .int 0, .ref gdu, .int 0, .ref gdn])), (pl, .inr (3, [.int 0, .int 0, .int 0, .int 0, .long 0, .ref plf, .ref plo, .ref plb, .ref pla]))] U.heap ∧ va_K (dC, dI) vwCl [] U ∧ va_D (fun _ => True) [(h0, .inr (6, [.ref tp, .int 0, .int 0, .int (-1), .ref rd, .ref gd, .ref im, .ref rw, .ref gn, .ref ho, .ref sq])), (gd, .inr (0, [.ref pl, .int 0, .long 0, .long 0, .int 0, .int (-1), .int 0, .ref gdt, .int 0, .ref gdu, .int 0, .ref gdn])), (pl, .inr (3, [.int 0, .int 0, .int 0, .int 0, .long 0, .ref plf, .ref plo, .ref plb, .ref pla]))])) (va_Qi (fun (r : Int32) (u : Unit) => r = -2) (fun (_ : Unit) (_ : State) => True) (va_A [(h0, .inr (6, [.ref tp, .int 0, .int 0, .int (-1), .ref rd, .ref gd, .ref im, .ref rw, .ref gn, .ref ho, .ref sq])), (gd, .inr (0, [.ref pl, .int 0, .long 0, .long 0, .int 0, .int (-1), .int 0, .ref gdt, .int 0, .ref gdu, .int 0, .ref gdn])), (pl, .inr (3, [.int 0, .int 0, .int 0, .int 0, .long 0, .ref plf, .ref plo, .ref plb, .ref pla]))] sz)) 0 0 (va_A [(h0, .inr (6, [.ref tp, .int 0, .int 0, .int (-1), .ref rd, .ref gd, .ref im, .ref rw, .ref gn, .ref ho, .ref sq])), (gd, .inr (0, [.ref pl, .int 0, .long 0, .long 0, .int 0, .int (-1), .int 0, .ref gdt, .int 0, .ref gdu, .int 0, .ref gdn])), (pl, .inr (3, [.int 0, .int 0, .int 0, .int 0, .long 0, .ref plf, .ref plo, .ref plb, .ref pla]))] sz) := by
  refine Met.ofW (cc := cX6_many) (maxL := 1) (ret := (some .int)) (by decide) rfl ?_
  intro p e s m args below meth c s₁ B hml hv
  obtain ⟨rfl, hsz, hP, hK, hD0⟩ := hv
  have hx := B.exec
  have hb := B.bytes
  have hr := B.returns
  have hts := atoms_spec (ws := wz_X6_many) B.pre
  have hown : s.vm.findClass RX6 = some m.cls := findClass_of_methodNamed B.named
  have hlocks := B.notSynchronized
  subst hsz
  have hD := hD0.self (sz := s.heap.size)
  generalize hAe : va_A [(h0, .inr (6, [.ref tp, .int 0, .int 0, .int (-1), .ref rd, .ref gd, .ref im, .ref rw, .ref gn, .ref ho, .ref sq])), (gd, .inr (0, [.ref pl, .int 0, .long 0, .long 0, .int 0, .int (-1), .int 0, .ref gdt, .int 0, .ref gdu, .int 0, .ref gdn])), (pl, .inr (3, [.int 0, .int 0, .int 0, .int 0, .long 0, .ref plf, .ref plo, .ref plb, .ref pla]))] s.heap.size = A at hD ⊢
  have hA : ∀ q : Nat, s.heap.size ≤ q → A q := fun q h => by rw [← hAe]; exact Or.inr h
  have hS : va_S A s.heap s.heap [] := va_S.rf
  have hP : va_P (dC, dI) vwCl [(h0, .inr (6, [.ref tp, .int 0, .int 0, .int (-1), .ref rd, .ref gd, .ref im, .ref rw, .ref gn, .ref ho, .ref sq])), (gd, .inr (0, [.ref pl, .int 0, .long 0, .long 0, .int 0, .int (-1), .int 0, .ref gdt, .int 0, .ref gdu, .int 0, .ref gdn])), (pl, .inr (3, [.int 0, .int 0, .int 0, .int 0, .long 0, .ref plf, .ref plo, .ref plb, .ref pla]))] s.heap := hP
  have hl := lv_entry ([.ref h0]) (n := 1) (Nat.le_of_ble_eq_true rfl)
  rw [lg_entry_eq]
  generalize (lg_sl ([.ref h0]) ++ List.replicate (1 - (lg_sl ([.ref h0])).length) Slot.unset).toArray = ls at hl ⊢
  have hl : lv_has ls 1 [(0, .ref h0)] := hl
  refine lv_aload_n hx hb dX6_many_0 rfl (lv_at hl 0 rfl) ?_
  have hPc := hP.sub (ws' := [(h0, .inr (6, [.ref tp, .int 0, .int 0, .int (-1), .ref rd, .ref gd, .ref im, .ref rw, .ref gn, .ref ho, .ref sq])), (gd, .inr (0, [.ref pl, .int 0, .long 0, .long 0, .int 0, .int (-1), .int 0, .ref gdt, .int 0, .ref gdu, .int 0, .ref gdn]))]) [0, 1] rfl
  have hDc := hD.sub (ws' := [(h0, .inr (6, [.ref tp, .int 0, .int 0, .int (-1), .ref rd, .ref gd, .ref im, .ref rw, .ref gn, .ref ho, .ref sq])), (gd, .inr (0, [.ref pl, .int 0, .long 0, .long 0, .int 0, .int (-1), .int 0, .ref gdt, .int 0, .ref gdu, .int 0, .ref gdn]))]) [0, 1] (by decide) rfl
  have hKc := hK.sub (tys' := []) [] rfl
  have hFc := va_free (wc := [(h0, .inr (6, [.ref tp, .int 0, .int 0, .int (-1), .ref rd, .ref gd, .ref im, .ref rw, .ref gn, .ref ho, .ref sq])), (gd, .inr (0, [.ref pl, .int 0, .long 0, .long 0, .int 0, .int (-1), .int 0, .ref gdt, .int 0, .ref gdu, .int 0, .ref gdn]))]) hD hS hA [0, 1] rfl
  refine va_calli (va_runV (As := []) (rest := []) ⟨hx, hb, hml, hown, hts⟩ (c_X6_hasMaze l dC dI s.heap.size h0 tp rd gd im rw gn ho sq pl gdt gdu gdn ) (cwV 0 hts g_X6_many_X6_hasMaze rfl rfl rfl (by decide +kernel) ⟨Nat.le_of_ble_eq_true rfl, Nat.le_of_ble_eq_true rfl⟩) ⟨fun a U g mk q => by obtain ⟨q0, q1, qP, qK, qD⟩ := q; exact ⟨q0, q1, qP, va_K.moved (u := U) (U := U.calling g mk a) (Vm.Alike.refl U.vm) qK, qD⟩, va_recv hKc hPc (ci := 6) (q0 := 0) rfl rfl, fun U hU hW => ⟨rfl, by rw [hU], by rw [hU]; exact hPc, va_K.moved hW.alike hKc, hDc.weaken (fun _ _ _ _ => trivial)⟩⟩ rfl rfl hl.1 rfl (lv_room (Nat.le_of_ble_eq_true rfl)) dX6_many_1 ⟨Nat.le_of_ble_eq_true rfl, Nat.le_of_ble_eq_true rfl⟩) hS (fun q _ h => hFc q h) hFc (fun r_1 u t H1 locs ht hvm hw_2 hB hz1 hk1 hS => ?_)
  obtain ⟨hP1, hK1, hD1⟩ := hB
  have hP1 : va_P (dC, dI) vwCl [(h0, .inr (6, [.ref tp, .int 0, .int 0, .int (-1), .ref rd, .ref gd, .ref im, .ref rw, .ref gn, .ref ho, .ref sq])), (gd, .inr (0, [.ref pl, .int 0, .long 0, .long 0, .int 0, .int (-1), .int 0, .ref gdt, .int 0, .ref gdu, .int 0, .ref gdn]))] t.heap := hP1
  rw [ht] at hP1
  try dsimp only at hw_2
  obtain ⟨hP, hD⟩ := va_join (wr := [(pl, .inr (3, [.int 0, .int 0, .int 0, .int 0, .long 0, .ref plf, .ref plo, .ref plb, .ref pla]))]) (w1 := [(h0, .inr (6, [.ref tp, .int 0, .int 0, .int (-1), .ref rd, .ref gd, .ref im, .ref rw, .ref gn, .ref ho, .ref sq])), (gd, .inr (0, [.ref pl, .int 0, .long 0, .long 0, .int 0, .int (-1), .int 0, .ref gdt, .int 0, .ref gdu, .int 0, .ref gdn]))]) hP hD [0, 1] [2] rfl rfl (by decide) (by decide) hk1 hFc hP1 hD1
  generalize H1 = H at hP hS ⊢
  have hP : va_P (dC, dI) vwCl [(pl, .inr (3, [.int 0, .int 0, .int 0, .int 0, .long 0, .ref plf, .ref plo, .ref plb, .ref pla])), (h0, .inr (6, [.ref tp, .int 0, .int 0, .int (-1), .ref rd, .ref gd, .ref im, .ref rw, .ref gn, .ref ho, .ref sq])), (gd, .inr (0, [.ref pl, .int 0, .long 0, .long 0, .int 0, .int (-1), .int 0, .ref gdt, .int 0, .ref gdu, .int 0, .ref gdn]))] H := hP
  have hD : va_D A [(pl, .inr (3, [.int 0, .int 0, .int 0, .int 0, .long 0, .ref plf, .ref plo, .ref plb, .ref pla])), (h0, .inr (6, [.ref tp, .int 0, .int 0, .int (-1), .ref rd, .ref gd, .ref im, .ref rw, .ref gn, .ref ho, .ref sq])), (gd, .inr (0, [.ref pl, .int 0, .long 0, .long 0, .int 0, .int (-1), .int 0, .ref gdt, .int 0, .ref gdu, .int 0, .ref gdn]))] := hD
  obtain rfl : r_1 = 0 := hw_2
  refine lv_if_eq (tgt := 29) hx hb dX6_many_4 (by decide) (fun _ => ?_) (fun h => absurd (by decide) h)
  refine lv_bipush (v := -2) hx hb dX6_many_29 (by decide) ?_
  refine W.widen (k := 0) (n := 0) (by omega) (by omega) ?_
  exact W.iret (v := -2) hx hb hr (fun t ht hW => ⟨⟨(-2), (), rfl, (by first | rfl | ((repeat' split) <;> (first | rfl | (exfalso; omega)))), trivial⟩, hS.F ht⟩) hS.2.2 dX6_many_31

theorem dX6_nth_0 : decode cX6_nth 0 = .ok (.aload_n 0, 1) := by decide +kernel
theorem dX6_nth_1 : decode cX6_nth 1 = .ok (.invokevirtual 86, 3) := by decide +kernel
theorem dX6_nth_4 : decode cX6_nth 4 = .ok (.ifCond .ne 6, 3) := by decide +kernel
theorem dX6_nth_7 : decode cX6_nth 7 = .ok (.bipush (-2), 2) := by decide +kernel
theorem dX6_nth_9 : decode cX6_nth 9 = .ok (.ireturn, 1) := by decide +kernel
def wz_X6_nth : List Cond := .code yX6_nth cX6_nth 3 (some .int) :: ([Cond.methodLink RX6 86 yX6_hasMaze, Cond.instanceMethod yX6_hasMaze, Cond.selects RX6 yX6_hasMaze yX6_hasMaze, Cond.initialized RX6, Cond.code yX6_hasMaze cX6_hasMaze 1 (some .boolean), Cond.fieldLink RX6 33 "HedgeMaze" "garden" "LHedgeMaze$Garden;", Cond.fieldLink RX6 83 "HedgeMaze$Garden" "lines" "I"] ++ wsX60 ++ wsX00)
set_option maxRecDepth 20000 in
theorem g_X6_nth_X6_hasMaze : GoodIn wz_X6_nth (wsV RX6 86 RX6 yX6_hasMaze wz_X6_hasMaze) := goodIn_r _ [1, 2, 3, 4, 5, 6, 7, 8, 9, 10, 11, 12, 13, 14, 15, 16, 17, 18, 19, 20, 21, 22, 23, 24, 25, 26, 27, 28, 29, 30] rfl (by decide +kernel)
set_option maxHeartbeats 4000000 in
set_option maxRecDepth 100000 in
theorem c_X6_nth (l : Launch) (dC : Nat → ClassId) (dI : Nat → Nat → Nat) (sz : Nat) (h0 : Nat) (tp : Nat) (rd : Nat) (gd : Nat) (im : Nat) (rw : Nat) (gn : Nat) (ho : Nat) (sq : Nat) (pl : Nat) (gdt : Nat) (gdu : Nat) (gdn : Nat) (plf : Nat) (plo : Nat) (plb : Nat) (pla : Nat) (p0 : Int32)  : Met l yX6_nth wz_X6_nth ({ frames := 1, cells := 0, slots := 0, locals := 20 }) (va_Pc [.ref h0, .int p0] (fun U => U.heap.size = sz ∧ va_P (dC, dI) vwCl [(h0, .inr (6, [.ref tp, .int 0, .int 0, .int (-1), .ref rd, .ref gd, .ref im, .ref rw, .ref gn, .ref ho, .ref sq])), (gd, .inr (0, [.ref pl, .int 0, .long 0, .long 0, .int 0, .int (-1), .int 0, .ref gdt, .int 0, .ref gdu, .int 0, .ref gdn])), (pl, .inr (3, [.int 0, .int 0, .int 0, .int 0, .long 0, .ref plf, .ref plo, .ref plb, .ref pla]))] U.heap ∧ va_K (dC, dI) vwCl [] U ∧ va_D (fun _ => True) [(h0, .inr (6, [.ref tp, .int 0, .int 0, .int (-1), .ref rd, .ref gd, .ref im, .ref rw, .ref gn, .ref ho, .ref sq])), (gd, .inr (0, [.ref pl, .int 0, .long 0, .long 0, .int 0, .int (-1), .int 0, .ref gdt, .int 0, .ref gdu, .int 0, .ref gdn])), (pl, .inr (3, [.int 0, .int 0, .int 0, .int 0, .long 0, .ref plf, .ref plo, .ref plb, .ref pla]))])) (va_Qi (fun (r : Int32) (u : Unit) => r = -2) (fun (_ : Unit) (_ : State) => True) (va_A [(h0, .inr (6, [.ref tp, .int 0, .int 0, .int (-1), .ref rd, .ref gd, .ref im, .ref rw, .ref gn, .ref ho, .ref sq])), (gd, .inr (0, [.ref pl, .int 0, .long 0, .long 0, .int 0, .int (-1), .int 0, .ref gdt, .int 0, .ref gdu, .int 0, .ref gdn])), (pl, .inr (3, [.int 0, .int 0, .int 0, .int 0, .long 0, .ref plf, .ref plo, .ref plb, .ref pla]))] sz)) 0 0 (va_A [(h0, .inr (6, [.ref tp, .int 0, .int 0, .int (-1), .ref rd, .ref gd, .ref im, .ref rw, .ref gn, .ref ho, .ref sq])), (gd, .inr (0, [.ref pl, .int 0, .long 0, .long 0, .int 0, .int (-1), .int 0, .ref gdt, .int 0, .ref gdu, .int 0, .ref gdn])), (pl, .inr (3, [.int 0, .int 0, .int 0, .int 0, .long 0, .ref plf, .ref plo, .ref plb, .ref pla]))] sz) := by
  refine Met.ofW (cc := cX6_nth) (maxL := 3) (ret := (some .int)) (by decide) rfl ?_
  intro p e s m args below meth c s₁ B hml hv
  obtain ⟨rfl, hsz, hP, hK, hD0⟩ := hv
  have hx := B.exec
  have hb := B.bytes
  have hr := B.returns
  have hts := atoms_spec (ws := wz_X6_nth) B.pre
  have hown : s.vm.findClass RX6 = some m.cls := findClass_of_methodNamed B.named
  have hlocks := B.notSynchronized
  subst hsz
  have hD := hD0.self (sz := s.heap.size)
  generalize hAe : va_A [(h0, .inr (6, [.ref tp, .int 0, .int 0, .int (-1), .ref rd, .ref gd, .ref im, .ref rw, .ref gn, .ref ho, .ref sq])), (gd, .inr (0, [.ref pl, .int 0, .long 0, .long 0, .int 0, .int (-1), .int 0, .ref gdt, .int 0, .ref gdu, .int 0, .ref gdn])), (pl, .inr (3, [.int 0, .int 0, .int 0, .int 0, .long 0, .ref plf, .ref plo, .ref plb, .ref pla]))] s.heap.size = A at hD ⊢
  have hA : ∀ q : Nat, s.heap.size ≤ q → A q := fun q h => by rw [← hAe]; exact Or.inr h
  have hS : va_S A s.heap s.heap [] := va_S.rf
  have hP : va_P (dC, dI) vwCl [(h0, .inr (6, [.ref tp, .int 0, .int 0, .int (-1), .ref rd, .ref gd, .ref im, .ref rw, .ref gn, .ref ho, .ref sq])), (gd, .inr (0, [.ref pl, .int 0, .long 0, .long 0, .int 0, .int (-1), .int 0, .ref gdt, .int 0, .ref gdu, .int 0, .ref gdn])), (pl, .inr (3, [.int 0, .int 0, .int 0, .int 0, .long 0, .ref plf, .ref plo, .ref plb, .ref pla]))] s.heap := hP
  have hl := lv_entry ([.ref h0, .int p0]) (n := 3) (Nat.le_of_ble_eq_true rfl)
  rw [lg_entry_eq]
  generalize (lg_sl ([.ref h0, .int p0]) ++ List.replicate (3 - (lg_sl ([.ref h0, .int p0])).length) Slot.unset).toArray = ls at hl ⊢
  have hl : lv_has ls 3 [(0, .ref h0), (1, .int p0)] := hl
  refine lv_aload_n hx hb dX6_nth_0 rfl (lv_at hl 0 rfl) ?_
  have hPc := hP.sub (ws' := [(h0, .inr (6, [.ref tp, .int 0, .int 0, .int (-1), .ref rd, .ref gd, .ref im, .ref rw, .ref gn, .ref ho, .ref sq])), (gd, .inr (0, [.ref pl, .int 0, .long 0, .long 0, .int 0, .int (-1), .int 0, .ref gdt, .int 0, .ref gdu, .int 0, .ref gdn]))]) [0, 1] rfl
  have hDc := hD.sub (ws' := [(h0, .inr (6, [.ref tp, .int 0, .int 0, .int (-1), .ref rd, .ref gd, .ref im, .ref rw, .ref gn, .ref ho, .ref sq])), (gd, .inr (0, [.ref pl, .int 0, .long 0, .long 0, .int 0, .int (-1), .int 0, .ref gdt, .int 0, .ref gdu, .int 0, .ref gdn]))]) [0, 1] (by decide) rfl
  have hKc := hK.sub (tys' := []) [] rfl
  have hFc := va_free (wc := [(h0, .inr (6, [.ref tp, .int 0, .int 0, .int (-1), .ref rd, .ref gd, .ref im, .ref rw, .ref gn, .ref ho, .ref sq])), (gd, .inr (0, [.ref pl, .int 0, .long 0, .long 0, .int 0, .int (-1), .int 0, .ref gdt, .int 0, .ref gdu, .int 0, .ref gdn]))]) hD hS hA [0, 1] rfl
  refine va_calli (va_runV (As := []) (rest := []) ⟨hx, hb, hml, hown, hts⟩ (c_X6_hasMaze l dC dI s.heap.size h0 tp rd gd im rw gn ho sq pl gdt gdu gdn ) (cwV 0 hts g_X6_nth_X6_hasMaze rfl rfl rfl (by decide +kernel) ⟨Nat.le_of_ble_eq_true rfl, Nat.le_of_ble_eq_true rfl⟩) ⟨fun a U g mk q => by obtain ⟨q0, q1, qP, qK, qD⟩ := q; exact ⟨q0, q1, qP, va_K.moved (u := U) (U := U.calling g mk a) (Vm.Alike.refl U.vm) qK, qD⟩, va_recv hKc hPc (ci := 6) (q0 := 0) rfl rfl, fun U hU hW => ⟨rfl, by rw [hU], by rw [hU]; exact hPc, va_K.moved hW.alike hKc, hDc.weaken (fun _ _ _ _ => trivial)⟩⟩ rfl rfl hl.1 rfl (lv_room (Nat.le_of_ble_eq_true rfl)) dX6_nth_1 ⟨Nat.le_of_ble_eq_true rfl, Nat.le_of_ble_eq_true rfl⟩) hS (fun q _ h => hFc q h) hFc (fun r_1 u t H1 locs ht hvm hw_2 hB hz1 hk1 hS => ?_)
  obtain ⟨hP1, hK1, hD1⟩ := hB
  have hP1 : va_P (dC, dI) vwCl [(h0, .inr (6, [.ref tp, .int 0, .int 0, .int (-1), .ref rd, .ref gd, .ref im, .ref rw, .ref gn, .ref ho, .ref sq])), (gd, .inr (0, [.ref pl, .int 0, .long 0, .long 0, .int 0, .int (-1), .int 0, .ref gdt, .int 0, .ref gdu, .int 0, .ref gdn]))] t.heap := hP1
  rw [ht] at hP1
  try dsimp only at hw_2
  obtain ⟨hP, hD⟩ := va_join (wr := [(pl, .inr (3, [.int 0, .int 0, .int 0, .int 0, .long 0, .ref plf, .ref plo, .ref plb, .ref pla]))]) (w1 := [(h0, .inr (6, [.ref tp, .int 0, .int 0, .int (-1), .ref rd, .ref gd, .ref im, .ref rw, .ref gn, .ref ho, .ref sq])), (gd, .inr (0, [.ref pl, .int 0, .long 0, .long 0, .int 0, .int (-1), .int 0, .ref gdt, .int 0, .ref gdu, .int 0, .ref gdn]))]) hP hD [0, 1] [2] rfl rfl (by decide) (by decide) hk1 hFc hP1 hD1
  generalize H1 = H at hP hS ⊢
  have hP : va_P (dC, dI) vwCl [(pl, .inr (3, [.int 0, .int 0, .int 0, .int 0, .long 0, .ref plf, .ref plo, .ref plb, .ref pla])), (h0, .inr (6, [.ref tp, .int 0, .int 0, .int (-1), .ref rd, .ref gd, .ref im, .ref rw, .ref gn, .ref ho, .ref sq])), (gd, .inr (0, [.ref pl, .int 0, .long 0, .long 0, .int 0, .int (-1), .int 0, .ref gdt, .int 0, .ref gdu, .int 0, .ref gdn]))] H := hP
  have hD : va_D A [(pl, .inr (3, [.int 0, .int 0, .int 0, .int 0, .long 0, .ref plf, .ref plo, .ref plb, .ref pla])), (h0, .inr (6, [.ref tp, .int 0, .int 0, .int (-1), .ref rd, .ref gd, .ref im, .ref rw, .ref gn, .ref ho, .ref sq])), (gd, .inr (0, [.ref pl, .int 0, .long 0, .long 0, .int 0, .int (-1), .int 0, .ref gdt, .int 0, .ref gdu, .int 0, .ref gdn]))] := hD
  obtain rfl : r_1 = 0 := hw_2
  refine lv_if_ne (tgt := 10) hx hb dX6_nth_4 (by decide) (fun h => absurd (by decide) h) (fun _ => ?_)
  refine lv_bipush (v := -2) hx hb dX6_nth_7 (by decide) ?_
  refine W.widen (k := 0) (n := 0) (by omega) (by omega) ?_
  exact W.iret (v := -2) hx hb hr (fun t ht hW => ⟨⟨(-2), (), rfl, (by first | rfl | ((repeat' split) <;> (first | rfl | (exfalso; omega)))), trivial⟩, hS.F ht⟩) hS.2.2 dX6_nth_9

theorem dX6_night_0 : decode cX6_night 0 = .ok (.aload_n 0, 1) := by decide +kernel
theorem dX6_night_1 : decode cX6_night 1 = .ok (.iload_n 1, 1) := by decide +kernel
theorem dX6_night_2 : decode cX6_night 2 = .ok (.iload_n 2, 1) := by decide +kernel
theorem dX6_night_3 : decode cX6_night 3 = .ok (.invokevirtual 194, 3) := by decide +kernel
theorem dX6_night_6 : decode cX6_night 6 = .ok (.istore_n 3, 1) := by decide +kernel
theorem dX6_night_7 : decode cX6_night 7 = .ok (.iload_n 3, 1) := by decide +kernel
theorem dX6_night_8 : decode cX6_night 8 = .ok (.ifCond .eq 5, 3) := by decide +kernel
theorem dX6_night_11 : decode cX6_night 11 = .ok (.iload_n 3, 1) := by decide +kernel
theorem dX6_night_12 : decode cX6_night 12 = .ok (.ireturn, 1) := by decide +kernel
def wz_X6_night : List Cond := .code yX6_night cX6_night 5 (some .int) :: ([Cond.methodLink RX6 194 yX6_lawful, Cond.instanceMethod yX6_lawful, Cond.selects RX6 yX6_lawful yX6_lawful, Cond.initialized RX6, Cond.code yX6_lawful cX6_lawful 3 (some .int), Cond.methodLink RX6 107 yX6_isSide, Cond.instanceMethod yX6_isSide, Cond.selects RX6 yX6_isSide yX6_isSide, Cond.code yX6_isSide cX6_isSide 3 (some .boolean), Cond.fieldLink RX6 33 "HedgeMaze" "garden" "LHedgeMaze$Garden;", Cond.fieldLink RX6 90 "HedgeMaze$Garden" "plan" "LHedgeMaze$Plan;", Cond.fieldLink RX6 94 "HedgeMaze$Plan" "sideCount" "I"] ++ wsX60 ++ wsX00 ++ wsX30)
set_option maxRecDepth 20000 in
theorem g_X6_night_X6_lawful : GoodIn wz_X6_night (wsV RX6 194 RX6 yX6_lawful wz_X6_lawful) := goodIn_r _ [1, 2, 3, 4, 5, 6, 7, 8, 4, 9, 10, 11, 12, 13, 14, 15, 16, 17, 18, 19, 20, 21, 22, 23, 24, 25, 26, 27, 28, 29, 30, 31, 32, 33, 34, 35, 36, 37, 38, 39, 40, 41, 42, 43, 44] rfl (by decide +kernel)
set_option maxHeartbeats 4000000 in
set_option maxRecDepth 100000 in
theorem c_X6_night (l : Launch) (dC : Nat → ClassId) (dI : Nat → Nat → Nat) (sz : Nat) (h0 : Nat) (tp : Nat) (rd : Nat) (gd : Nat) (im : Nat) (rw : Nat) (gn : Nat) (ho : Nat) (sq : Nat) (pl : Nat) (gdt : Nat) (gdu : Nat) (gdn : Nat) (plf : Nat) (plo : Nat) (plb : Nat) (pla : Nat) (p0 : Int32) (p1 : Int32)  : Met l yX6_night wz_X6_night ({ frames := 2, cells := 0, slots := 0, locals := 44 }) (va_Pc [.ref h0, .int p0, .int p1] (fun U => U.heap.size = sz ∧ va_P (dC, dI) vwCl [(h0, .inr (6, [.ref tp, .int 0, .int 0, .int (-1), .ref rd, .ref gd, .ref im, .ref rw, .ref gn, .ref ho, .ref sq])), (gd, .inr (0, [.ref pl, .int 0, .long 0, .long 0, .int 0, .int (-1), .int 0, .ref gdt, .int 0, .ref gdu, .int 0, .ref gdn])), (pl, .inr (3, [.int 0, .int 0, .int 0, .int 0, .long 0, .ref plf, .ref plo, .ref plb, .ref pla]))] U.heap ∧ va_K (dC, dI) vwCl [] U ∧ va_D (fun _ => True) [(h0, .inr (6, [.ref tp, .int 0, .int 0, .int (-1), .ref rd, .ref gd, .ref im, .ref rw, .ref gn, .ref ho, .ref sq])), (gd, .inr (0, [.ref pl, .int 0, .long 0, .long 0, .int 0, .int (-1), .int 0, .ref gdt, .int 0, .ref gdu, .int 0, .ref gdn])), (pl, .inr (3, [.int 0, .int 0, .int 0, .int 0, .long 0, .ref plf, .ref plo, .ref plb, .ref pla]))])) (va_Qi (fun (r : Int32) (u : Unit) => r = -2) (fun (_ : Unit) (_ : State) => True) (va_A [(h0, .inr (6, [.ref tp, .int 0, .int 0, .int (-1), .ref rd, .ref gd, .ref im, .ref rw, .ref gn, .ref ho, .ref sq])), (gd, .inr (0, [.ref pl, .int 0, .long 0, .long 0, .int 0, .int (-1), .int 0, .ref gdt, .int 0, .ref gdu, .int 0, .ref gdn])), (pl, .inr (3, [.int 0, .int 0, .int 0, .int 0, .long 0, .ref plf, .ref plo, .ref plb, .ref pla]))] sz)) 0 0 (va_A [(h0, .inr (6, [.ref tp, .int 0, .int 0, .int (-1), .ref rd, .ref gd, .ref im, .ref rw, .ref gn, .ref ho, .ref sq])), (gd, .inr (0, [.ref pl, .int 0, .long 0, .long 0, .int 0, .int (-1), .int 0, .ref gdt, .int 0, .ref gdu, .int 0, .ref gdn])), (pl, .inr (3, [.int 0, .int 0, .int 0, .int 0, .long 0, .ref plf, .ref plo, .ref plb, .ref pla]))] sz) := by
  refine Met.ofW (cc := cX6_night) (maxL := 5) (ret := (some .int)) (by decide) rfl ?_
  intro p e s m args below meth c s₁ B hml hv
  obtain ⟨rfl, hsz, hP, hK, hD0⟩ := hv
  have hx := B.exec
  have hb := B.bytes
  have hr := B.returns
  have hts := atoms_spec (ws := wz_X6_night) B.pre
  have hown : s.vm.findClass RX6 = some m.cls := findClass_of_methodNamed B.named
  have hlocks := B.notSynchronized
  subst hsz
  have hD := hD0.self (sz := s.heap.size)
  generalize hAe : va_A [(h0, .inr (6, [.ref tp, .int 0, .int 0, .int (-1), .ref rd, .ref gd, .ref im, .ref rw, .ref gn, .ref ho, .ref sq])), (gd, .inr (0, [.ref pl, .int 0, .long 0, .long 0, .int 0, .int (-1), .int 0, .ref gdt, .int 0, .ref gdu, .int 0, .ref gdn])), (pl, .inr (3, [.int 0, .int 0, .int 0, .int 0, .long 0, .ref plf, .ref plo, .ref plb, .ref pla]))] s.heap.size = A at hD ⊢
  have hA : ∀ q : Nat, s.heap.size ≤ q → A q := fun q h => by rw [← hAe]; exact Or.inr h
  have hS : va_S A s.heap s.heap [] := va_S.rf
  have hP : va_P (dC, dI) vwCl [(h0, .inr (6, [.ref tp, .int 0, .int 0, .int (-1), .ref rd, .ref gd, .ref im, .ref rw, .ref gn, .ref ho, .ref sq])), (gd, .inr (0, [.ref pl, .int 0, .long 0, .long 0, .int 0, .int (-1), .int 0, .ref gdt, .int 0, .ref gdu, .int 0, .ref gdn])), (pl, .inr (3, [.int 0, .int 0, .int 0, .int 0, .long 0, .ref plf, .ref plo, .ref plb, .ref pla]))] s.heap := hP
  have hl := lv_entry ([.ref h0, .int p0, .int p1]) (n := 5) (Nat.le_of_ble_eq_true rfl)
  rw [lg_entry_eq]
  generalize (lg_sl ([.ref h0, .int p0, .int p1]) ++ List.replicate (5 - (lg_sl ([.ref h0, .int p0, .int p1])).length) Slot.unset).toArray = ls at hl ⊢
  have hl : lv_has ls 5 [(0, .ref h0), (1, .int p0), (2, .int p1)] := hl
  refine lv_aload_n hx hb dX6_night_0 rfl (lv_at hl 0 rfl) ?_
  refine lv_iload_n hx hb dX6_night_1 rfl (lv_at hl 1 rfl) ?_
  refine lv_iload_n hx hb dX6_night_2 rfl (lv_at hl 2 rfl) ?_
  have hPc := hP.sub (ws' := [(h0, .inr (6, [.ref tp, .int 0, .int 0, .int (-1), .ref rd, .ref gd, .ref im, .ref rw, .ref gn, .ref ho, .ref sq])), (gd, .inr (0, [.ref pl, .int 0, .long 0, .long 0, .int 0, .int (-1), .int 0, .ref gdt, .int 0, .ref gdu, .int 0, .ref gdn])), (pl, .inr (3, [.int 0, .int 0, .int 0, .int 0, .long 0, .ref plf, .ref plo, .ref plb, .ref pla]))]) [0, 1, 2] rfl
  have hDc := hD.sub (ws' := [(h0, .inr (6, [.ref tp, .int 0, .int 0, .int (-1), .ref rd, .ref gd, .ref im, .ref rw, .ref gn, .ref ho, .ref sq])), (gd, .inr (0, [.ref pl, .int 0, .long 0, .long 0, .int 0, .int (-1), .int 0, .ref gdt, .int 0, .ref gdu, .int 0, .ref gdn])), (pl, .inr (3, [.int 0, .int 0, .int 0, .int 0, .long 0, .ref plf, .ref plo, .ref plb, .ref pla]))]) [0, 1, 2] (by decide) rfl
  have hKc := hK.sub (tys' := []) [] rfl
  have hFc := va_free (wc := [(h0, .inr (6, [.ref tp, .int 0, .int 0, .int (-1), .ref rd, .ref gd, .ref im, .ref rw, .ref gn, .ref ho, .ref sq])), (gd, .inr (0, [.ref pl, .int 0, .long 0, .long 0, .int 0, .int (-1), .int 0, .ref gdt, .int 0, .ref gdu, .int 0, .ref gdn])), (pl, .inr (3, [.int 0, .int 0, .int 0, .int 0, .long 0, .ref plf, .ref plo, .ref plb, .ref pla]))]) hD hS hA [0, 1, 2] rfl
  refine va_calli (va_runV (As := [.int p0, .int p1]) (rest := []) ⟨hx, hb, hml, hown, hts⟩ (c_X6_lawful l dC dI s.heap.size h0 tp rd gd im rw gn ho sq pl gdt gdu gdn plf plo plb pla p0 p1 ) (cwV 2 hts g_X6_night_X6_lawful rfl rfl rfl (by decide +kernel) ⟨Nat.le_of_ble_eq_true rfl, Nat.le_of_ble_eq_true rfl⟩) ⟨fun a U g mk q => by obtain ⟨q0, q1, qP, qK, qD⟩ := q; exact ⟨q0, q1, qP, va_K.moved (u := U) (U := U.calling g mk a) (Vm.Alike.refl U.vm) qK, qD⟩, va_recv hKc hPc (ci := 6) (q0 := 0) rfl rfl, fun U hU hW => ⟨rfl, by rw [hU], by rw [hU]; exact hPc, va_K.moved hW.alike hKc, hDc.weaken (fun _ _ _ _ => trivial)⟩⟩ rfl rfl hl.1 rfl (lv_room (Nat.le_of_ble_eq_true rfl)) dX6_night_3 ⟨Nat.le_of_ble_eq_true rfl, Nat.le_of_ble_eq_true rfl⟩) hS (fun q _ h => hFc q h) hFc (fun r_1 u t H1 locs ht hvm hw_2 hB hz1 hk1 hS => ?_)
  have hP1 : va_P (dC, dI) vwCl [] H1 := i_nilP
  have hD1 : va_D (va_A [(h0, .inr (6, [.ref tp, .int 0, .int 0, .int (-1), .ref rd, .ref gd, .ref im, .ref rw, .ref gn, .ref ho, .ref sq])), (gd, .inr (0, [.ref pl, .int 0, .long 0, .long 0, .int 0, .int (-1), .int 0, .ref gdt, .int 0, .ref gdu, .int 0, .ref gdn])), (pl, .inr (3, [.int 0, .int 0, .int 0, .int 0, .long 0, .ref plf, .ref plo, .ref plb, .ref pla]))] s.heap.size) [] := i_nilD
  try dsimp only at hw_2
  obtain ⟨hP, hD⟩ := va_join (wr := []) (w1 := []) hP hD [0, 1, 2] [] rfl rfl (by decide) (by decide) hk1 hFc hP1 hD1
  generalize H1 = H at hP hS ⊢
  have hP : va_P (dC, dI) vwCl [] H := hP
  have hD : va_D A [] := hD
  obtain rfl : r_1 = -2 := hw_2
  refine lv_istore_n (lv' := [(3, .int (-2)), (0, .ref h0), (1, .int p0), (2, .int p1)]) hx hb dX6_night_6 rfl hl (by decide) rfl (fun ls hl => ?_)
  refine lv_iload_n hx hb dX6_night_7 rfl (lv_at hl 0 rfl) ?_
  refine lv_if_eq (tgt := 13) hx hb dX6_night_8 (by decide) (fun h => absurd h (by decide)) (fun _ => ?_)
  refine lv_iload_n hx hb dX6_night_11 rfl (lv_at hl 0 rfl) ?_
  refine W.widen (k := 0) (n := 0) (by omega) (by omega) ?_
  exact W.iret (v := -2) hx hb hr (fun t ht hW => ⟨⟨(-2), (), rfl, (by first | rfl | ((repeat' split) <;> (first | rfl | (exfalso; omega)))), trivial⟩, hS.F ht⟩) hS.2.2 dX6_night_12

theorem dX6_dawn_0 : decode cX6_dawn 0 = .ok (.aload_n 0, 1) := by decide +kernel
theorem dX6_dawn_1 : decode cX6_dawn 1 = .ok (.invokevirtual 86, 3) := by decide +kernel
theorem dX6_dawn_4 : decode cX6_dawn 4 = .ok (.ifCond .ne 6, 3) := by decide +kernel
theorem dX6_dawn_7 : decode cX6_dawn 7 = .ok (.bipush (-2), 2) := by decide +kernel
theorem dX6_dawn_9 : decode cX6_dawn 9 = .ok (.ireturn, 1) := by decide +kernel
def wz_X6_dawn : List Cond := .code yX6_dawn cX6_dawn 1 (some .int) :: ([Cond.methodLink RX6 86 yX6_hasMaze, Cond.instanceMethod yX6_hasMaze, Cond.selects RX6 yX6_hasMaze yX6_hasMaze, Cond.initialized RX6, Cond.code yX6_hasMaze cX6_hasMaze 1 (some .boolean), Cond.fieldLink RX6 33 "HedgeMaze" "garden" "LHedgeMaze$Garden;", Cond.fieldLink RX6 83 "HedgeMaze$Garden" "lines" "I"] ++ wsX60 ++ wsX00)
set_option maxRecDepth 20000 in
theorem g_X6_dawn_X6_hasMaze : GoodIn wz_X6_dawn (wsV RX6 86 RX6 yX6_hasMaze wz_X6_hasMaze) := goodIn_r _ [1, 2, 3, 4, 5, 6, 7, 8, 9, 10, 11, 12, 13, 14, 15, 16, 17, 18, 19, 20, 21, 22, 23, 24, 25, 26, 27, 28, 29, 30] rfl (by decide +kernel)
set_option maxHeartbeats 4000000 in
set_option maxRecDepth 100000 in
theorem c_X6_dawn (l : Launch) (dC : Nat → ClassId) (dI : Nat → Nat → Nat) (sz : Nat) (h0 : Nat) (tp : Nat) (rd : Nat) (gd : Nat) (im : Nat) (rw : Nat) (gn : Nat) (ho : Nat) (sq : Nat) (pl : Nat) (gdt : Nat) (gdu : Nat) (gdn : Nat) (plf : Nat) (plo : Nat) (plb : Nat) (pla : Nat)  : Met l yX6_dawn wz_X6_dawn ({ frames := 1, cells := 0, slots := 0, locals := 20 }) (va_Pc [.ref h0] (fun U => U.heap.size = sz ∧ va_P (dC, dI) vwCl [(h0, .inr (6, [.ref tp, .int 0, .int 0, .int (-1), .ref rd, .ref gd, .ref im, .ref rw, .ref gn, .ref ho, .ref sq])), (gd, .inr (0, [.ref pl, .int 0, .long 0, .long 0, .int 0, .int (-1), .int 0, .ref gdt, .int 0, .ref gdu, .int 0, .ref gdn])), (pl, .inr (3, [.int 0, .int 0, .int 0, .int 0, .long 0, .ref plf, .ref plo, .ref plb, .ref pla]))] U.heap ∧ va_K (dC, dI) vwCl [] U ∧ va_D (fun _ => True) [(h0, .inr (6, [.ref tp, .int 0, .int 0, .int (-1), .ref rd, .ref gd, .ref im, .ref rw, .ref gn, .ref ho, .ref sq])), (gd, .inr (0, [.ref pl, .int 0, .long 0, .long 0, .int 0, .int (-1), .int 0, .ref gdt, .int 0, .ref gdu, .int 0, .ref gdn])), (pl, .inr (3, [.int 0, .int 0, .int 0, .int 0, .long 0, .ref plf, .ref plo, .ref plb, .ref pla]))])) (va_Qi (fun (r : Int32) (u : Unit) => r = -2) (fun (_ : Unit) (_ : State) => True) (va_A [(h0, .inr (6, [.ref tp, .int 0, .int 0, .int (-1), .ref rd, .ref gd, .ref im, .ref rw, .ref gn, .ref ho, .ref sq])), (gd, .inr (0, [.ref pl, .int 0, .long 0, .long 0, .int 0, .int (-1), .int 0, .ref gdt, .int 0, .ref gdu, .int 0, .ref gdn])), (pl, .inr (3, [.int 0, .int 0, .int 0, .int 0, .long 0, .ref plf, .ref plo, .ref plb, .ref pla]))] sz)) 0 0 (va_A [(h0, .inr (6, [.ref tp, .int 0, .int 0, .int (-1), .ref rd, .ref gd, .ref im, .ref rw, .ref gn, .ref ho, .ref sq])), (gd, .inr (0, [.ref pl, .int 0, .long 0, .long 0, .int 0, .int (-1), .int 0, .ref gdt, .int 0, .ref gdu, .int 0, .ref gdn])), (pl, .inr (3, [.int 0, .int 0, .int 0, .int 0, .long 0, .ref plf, .ref plo, .ref plb, .ref pla]))] sz) := by
  refine Met.ofW (cc := cX6_dawn) (maxL := 1) (ret := (some .int)) (by decide) rfl ?_
  intro p e s m args below meth c s₁ B hml hv
  obtain ⟨rfl, hsz, hP, hK, hD0⟩ := hv
  have hx := B.exec
  have hb := B.bytes
  have hr := B.returns
  have hts := atoms_spec (ws := wz_X6_dawn) B.pre
  have hown : s.vm.findClass RX6 = some m.cls := findClass_of_methodNamed B.named
  have hlocks := B.notSynchronized
  subst hsz
  have hD := hD0.self (sz := s.heap.size)
  generalize hAe : va_A [(h0, .inr (6, [.ref tp, .int 0, .int 0, .int (-1), .ref rd, .ref gd, .ref im, .ref rw, .ref gn, .ref ho, .ref sq])), (gd, .inr (0, [.ref pl, .int 0, .long 0, .long 0, .int 0, .int (-1), .int 0, .ref gdt, .int 0, .ref gdu, .int 0, .ref gdn])), (pl, .inr (3, [.int 0, .int 0, .int 0, .int 0, .long 0, .ref plf, .ref plo, .ref plb, .ref pla]))] s.heap.size = A at hD ⊢
  have hA : ∀ q : Nat, s.heap.size ≤ q → A q := fun q h => by rw [← hAe]; exact Or.inr h
  have hS : va_S A s.heap s.heap [] := va_S.rf
  have hP : va_P (dC, dI) vwCl [(h0, .inr (6, [.ref tp, .int 0, .int 0, .int (-1), .ref rd, .ref gd, .ref im, .ref rw, .ref gn, .ref ho, .ref sq])), (gd, .inr (0, [.ref pl, .int 0, .long 0, .long 0, .int 0, .int (-1), .int 0, .ref gdt, .int 0, .ref gdu, .int 0, .ref gdn])), (pl, .inr (3, [.int 0, .int 0, .int 0, .int 0, .long 0, .ref plf, .ref plo, .ref plb, .ref pla]))] s.heap := hP
  have hl := lv_entry ([.ref h0]) (n := 1) (Nat.le_of_ble_eq_true rfl)
  rw [lg_entry_eq]
  generalize (lg_sl ([.ref h0]) ++ List.replicate (1 - (lg_sl ([.ref h0])).length) Slot.unset).toArray = ls at hl ⊢
  have hl : lv_has ls 1 [(0, .ref h0)] := hl
  refine lv_aload_n hx hb dX6_dawn_0 rfl (lv_at hl 0 rfl) ?_
  have hPc := hP.sub (ws' := [(h0, .inr (6, [.ref tp, .int 0, .int 0, .int (-1), .ref rd, .ref gd, .ref im, .ref rw, .ref gn, .ref ho, .ref sq])), (gd, .inr (0, [.ref pl, .int 0, .long 0, .long 0, .int 0, .int (-1), .int 0, .ref gdt, .int 0, .ref gdu, .int 0, .ref gdn]))]) [0, 1] rfl
  have hDc := hD.sub (ws' := [(h0, .inr (6, [.ref tp, .int 0, .int 0, .int (-1), .ref rd, .ref gd, .ref im, .ref rw, .ref gn, .ref ho, .ref sq])), (gd, .inr (0, [.ref pl, .int 0, .long 0, .long 0, .int 0, .int (-1), .int 0, .ref gdt, .int 0, .ref gdu, .int 0, .ref gdn]))]) [0, 1] (by decide) rfl
  have hKc := hK.sub (tys' := []) [] rfl
  have hFc := va_free (wc := [(h0, .inr (6, [.ref tp, .int 0, .int 0, .int (-1), .ref rd, .ref gd, .ref im, .ref rw, .ref gn, .ref ho, .ref sq])), (gd, .inr (0, [.ref pl, .int 0, .long 0, .long 0, .int 0, .int (-1), .int 0, .ref gdt, .int 0, .ref gdu, .int 0, .ref gdn]))]) hD hS hA [0, 1] rfl
  refine va_calli (va_runV (As := []) (rest := []) ⟨hx, hb, hml, hown, hts⟩ (c_X6_hasMaze l dC dI s.heap.size h0 tp rd gd im rw gn ho sq pl gdt gdu gdn ) (cwV 0 hts g_X6_dawn_X6_hasMaze rfl rfl rfl (by decide +kernel) ⟨Nat.le_of_ble_eq_true rfl, Nat.le_of_ble_eq_true rfl⟩) ⟨fun a U g mk q => by obtain ⟨q0, q1, qP, qK, qD⟩ := q; exact ⟨q0, q1, qP, va_K.moved (u := U) (U := U.calling g mk a) (Vm.Alike.refl U.vm) qK, qD⟩, va_recv hKc hPc (ci := 6) (q0 := 0) rfl rfl, fun U hU hW => ⟨rfl, by rw [hU], by rw [hU]; exact hPc, va_K.moved hW.alike hKc, hDc.weaken (fun _ _ _ _ => trivial)⟩⟩ rfl rfl hl.1 rfl (lv_room (Nat.le_of_ble_eq_true rfl)) dX6_dawn_1 ⟨Nat.le_of_ble_eq_true rfl, Nat.le_of_ble_eq_true rfl⟩) hS (fun q _ h => hFc q h) hFc (fun r_1 u t H1 locs ht hvm hw_2 hB hz1 hk1 hS => ?_)
  obtain ⟨hP1, hK1, hD1⟩ := hB
  have hP1 : va_P (dC, dI) vwCl [(h0, .inr (6, [.ref tp, .int 0, .int 0, .int (-1), .ref rd, .ref gd, .ref im, .ref rw, .ref gn, .ref ho, .ref sq])), (gd, .inr (0, [.ref pl, .int 0, .long 0, .long 0, .int 0, .int (-1), .int 0, .ref gdt, .int 0, .ref gdu, .int 0, .ref gdn]))] t.heap := hP1
  rw [ht] at hP1
  try dsimp only at hw_2
  obtain ⟨hP, hD⟩ := va_join (wr := [(pl, .inr (3, [.int 0, .int 0, .int 0, .int 0, .long 0, .ref plf, .ref plo, .ref plb, .ref pla]))]) (w1 := [(h0, .inr (6, [.ref tp, .int 0, .int 0, .int (-1), .ref rd, .ref gd, .ref im, .ref rw, .ref gn, .ref ho, .ref sq])), (gd, .inr (0, [.ref pl, .int 0, .long 0, .long 0, .int 0, .int (-1), .int 0, .ref gdt, .int 0, .ref gdu, .int 0, .ref gdn]))]) hP hD [0, 1] [2] rfl rfl (by decide) (by decide) hk1 hFc hP1 hD1
  generalize H1 = H at hP hS ⊢
  have hP : va_P (dC, dI) vwCl [(pl, .inr (3, [.int 0, .int 0, .int 0, .int 0, .long 0, .ref plf, .ref plo, .ref plb, .ref pla])), (h0, .inr (6, [.ref tp, .int 0, .int 0, .int (-1), .ref rd, .ref gd, .ref im, .ref rw, .ref gn, .ref ho, .ref sq])), (gd, .inr (0, [.ref pl, .int 0, .long 0, .long 0, .int 0, .int (-1), .int 0, .ref gdt, .int 0, .ref gdu, .int 0, .ref gdn]))] H := hP
  have hD : va_D A [(pl, .inr (3, [.int 0, .int 0, .int 0, .int 0, .long 0, .ref plf, .ref plo, .ref plb, .ref pla])), (h0, .inr (6, [.ref tp, .int 0, .int 0, .int (-1), .ref rd, .ref gd, .ref im, .ref rw, .ref gn, .ref ho, .ref sq])), (gd, .inr (0, [.ref pl, .int 0, .long 0, .long 0, .int 0, .int (-1), .int 0, .ref gdt, .int 0, .ref gdu, .int 0, .ref gdn]))] := hD
  obtain rfl : r_1 = 0 := hw_2
  refine lv_if_ne (tgt := 10) hx hb dX6_dawn_4 (by decide) (fun h => absurd (by decide) h) (fun _ => ?_)
  refine lv_bipush (v := -2) hx hb dX6_dawn_7 (by decide) ?_
  refine W.widen (k := 0) (n := 0) (by omega) (by omega) ?_
  exact W.iret (v := -2) hx hb hr (fun t ht hW => ⟨⟨(-2), (), rfl, (by first | rfl | ((repeat' split) <;> (first | rfl | (exfalso; omega)))), trivial⟩, hS.F ht⟩) hS.2.2 dX6_dawn_9

theorem dX6_gone_0 : decode cX6_gone 0 = .ok (.aload_n 0, 1) := by decide +kernel
theorem dX6_gone_1 : decode cX6_gone 1 = .ok (.invokevirtual 86, 3) := by decide +kernel
theorem dX6_gone_4 : decode cX6_gone 4 = .ok (.ifCond .eq 8, 3) := by decide +kernel
theorem dX6_gone_12 : decode cX6_gone 12 = .ok (.bipush (-2), 2) := by decide +kernel
theorem dX6_gone_14 : decode cX6_gone 14 = .ok (.ireturn, 1) := by decide +kernel
def wz_X6_gone : List Cond := .code yX6_gone cX6_gone 2 (some .int) :: ([Cond.methodLink RX6 86 yX6_hasMaze, Cond.instanceMethod yX6_hasMaze, Cond.selects RX6 yX6_hasMaze yX6_hasMaze, Cond.initialized RX6, Cond.code yX6_hasMaze cX6_hasMaze 1 (some .boolean), Cond.fieldLink RX6 33 "HedgeMaze" "garden" "LHedgeMaze$Garden;", Cond.fieldLink RX6 83 "HedgeMaze$Garden" "lines" "I"] ++ wsX60 ++ wsX00)
set_option maxRecDepth 20000 in
theorem g_X6_gone_X6_hasMaze : GoodIn wz_X6_gone (wsV RX6 86 RX6 yX6_hasMaze wz_X6_hasMaze) := goodIn_r _ [1, 2, 3, 4, 5, 6, 7, 8, 9, 10, 11, 12, 13, 14, 15, 16, 17, 18, 19, 20, 21, 22, 23, 24, 25, 26, 27, 28, 29, 30] rfl (by decide +kernel)
set_option maxHeartbeats 4000000 in
set_option maxRecDepth 100000 in
theorem c_X6_gone (l : Launch) (dC : Nat → ClassId) (dI : Nat → Nat → Nat) (sz : Nat) (h0 : Nat) (tp : Nat) (rd : Nat) (gd : Nat) (im : Nat) (rw : Nat) (gn : Nat) (ho : Nat) (sq : Nat) (pl : Nat) (gdt : Nat) (gdu : Nat) (gdn : Nat) (plf : Nat) (plo : Nat) (plb : Nat) (pla : Nat) (p0 : Int32)  : Met l yX6_gone wz_X6_gone ({ frames := 1, cells := 0, slots := 0, locals := 20 }) (va_Pc [.ref h0, .int p0] (fun U => U.heap.size = sz ∧ va_P (dC, dI) vwCl [(h0, .inr (6, [.ref tp, .int 0, .int 0, .int (-1), .ref rd, .ref gd, .ref im, .ref rw, .ref gn, .ref ho, .ref sq])), (gd, .inr (0, [.ref pl, .int 0, .long 0, .long 0, .int 0, .int (-1), .int 0, .ref gdt, .int 0, .ref gdu, .int 0, .ref gdn])), (pl, .inr (3, [.int 0, .int 0, .int 0, .int 0, .long 0, .ref plf, .ref plo, .ref plb, .ref pla]))] U.heap ∧ va_K (dC, dI) vwCl [] U ∧ va_D (fun _ => True) [(h0, .inr (6, [.ref tp, .int 0, .int 0, .int (-1), .ref rd, .ref gd, .ref im, .ref rw, .ref gn, .ref ho, .ref sq])), (gd, .inr (0, [.ref pl, .int 0, .long 0, .long 0, .int 0, .int (-1), .int 0, .ref gdt, .int 0, .ref gdu, .int 0, .ref gdn])), (pl, .inr (3, [.int 0, .int 0, .int 0, .int 0, .long 0, .ref plf, .ref plo, .ref plb, .ref pla]))])) (va_Qi (fun (r : Int32) (u : Unit) => r = -2) (fun (_ : Unit) (_ : State) => True) (va_A [(h0, .inr (6, [.ref tp, .int 0, .int 0, .int (-1), .ref rd, .ref gd, .ref im, .ref rw, .ref gn, .ref ho, .ref sq])), (gd, .inr (0, [.ref pl, .int 0, .long 0, .long 0, .int 0, .int (-1), .int 0, .ref gdt, .int 0, .ref gdu, .int 0, .ref gdn])), (pl, .inr (3, [.int 0, .int 0, .int 0, .int 0, .long 0, .ref plf, .ref plo, .ref plb, .ref pla]))] sz)) 0 0 (va_A [(h0, .inr (6, [.ref tp, .int 0, .int 0, .int (-1), .ref rd, .ref gd, .ref im, .ref rw, .ref gn, .ref ho, .ref sq])), (gd, .inr (0, [.ref pl, .int 0, .long 0, .long 0, .int 0, .int (-1), .int 0, .ref gdt, .int 0, .ref gdu, .int 0, .ref gdn])), (pl, .inr (3, [.int 0, .int 0, .int 0, .int 0, .long 0, .ref plf, .ref plo, .ref plb, .ref pla]))] sz) := by
  refine Met.ofW (cc := cX6_gone) (maxL := 2) (ret := (some .int)) (by decide) rfl ?_
  intro p e s m args below meth c s₁ B hml hv
  obtain ⟨rfl, hsz, hP, hK, hD0⟩ := hv
  have hx := B.exec
  have hb := B.bytes
  have hr := B.returns
  have hts := atoms_spec (ws := wz_X6_gone) B.pre
  have hown : s.vm.findClass RX6 = some m.cls := findClass_of_methodNamed B.named
  have hlocks := B.notSynchronized
  subst hsz
  have hD := hD0.self (sz := s.heap.size)
  generalize hAe : va_A [(h0, .inr (6, [.ref tp, .int 0, .int 0, .int (-1), .ref rd, .ref gd, .ref im, .ref rw, .ref gn, .ref ho, .ref sq])), (gd, .inr (0, [.ref pl, .int 0, .long 0, .long 0, .int 0, .int (-1), .int 0, .ref gdt, .int 0, .ref gdu, .int 0, .ref gdn])), (pl, .inr (3, [.int 0, .int 0, .int 0, .int 0, .long 0, .ref plf, .ref plo, .ref plb, .ref pla]))] s.heap.size = A at hD ⊢
  have hA : ∀ q : Nat, s.heap.size ≤ q → A q := fun q h => by rw [← hAe]; exact Or.inr h
  have hS : va_S A s.heap s.heap [] := va_S.rf
  have hP : va_P (dC, dI) vwCl [(h0, .inr (6, [.ref tp, .int 0, .int 0, .int (-1), .ref rd, .ref gd, .ref im, .ref rw, .ref gn, .ref ho, .ref sq])), (gd, .inr (0, [.ref pl, .int 0, .long 0, .long 0, .int 0, .int (-1), .int 0, .ref gdt, .int 0, .ref gdu, .int 0, .ref gdn])), (pl, .inr (3, [.int 0, .int 0, .int 0, .int 0, .long 0, .ref plf, .ref plo, .ref plb, .ref pla]))] s.heap := hP
  have hl := lv_entry ([.ref h0, .int p0]) (n := 2) (Nat.le_of_ble_eq_true rfl)
  rw [lg_entry_eq]
  generalize (lg_sl ([.ref h0, .int p0]) ++ List.replicate (2 - (lg_sl ([.ref h0, .int p0])).length) Slot.unset).toArray = ls at hl ⊢
  have hl : lv_has ls 2 [(0, .ref h0), (1, .int p0)] := hl
  refine lv_aload_n hx hb dX6_gone_0 rfl (lv_at hl 0 rfl) ?_
  have hPc := hP.sub (ws' := [(h0, .inr (6, [.ref tp, .int 0, .int 0, .int (-1), .ref rd, .ref gd, .ref im, .ref rw, .ref gn, .ref ho, .ref sq])), (gd, .inr (0, [.ref pl, .int 0, .long 0, .long 0, .int 0, .int (-1), .int 0, .ref gdt, .int 0, .ref gdu, .int 0, .ref gdn]))]) [0, 1] rfl
  have hDc := hD.sub (ws' := [(h0, .inr (6, [.ref tp, .int 0, .int 0, .int (-1), .ref rd, .ref gd, .ref im, .ref rw, .ref gn, .ref ho, .ref sq])), (gd, .inr (0, [.ref pl, .int 0, .long 0, .long 0, .int 0, .int (-1), .int 0, .ref gdt, .int 0, .ref gdu, .int 0, .ref gdn]))]) [0, 1] (by decide) rfl
  have hKc := hK.sub (tys' := []) [] rfl
  have hFc := va_free (wc := [(h0, .inr (6, [.ref tp, .int 0, .int 0, .int (-1), .ref rd, .ref gd, .ref im, .ref rw, .ref gn, .ref ho, .ref sq])), (gd, .inr (0, [.ref pl, .int 0, .long 0, .long 0, .int 0, .int (-1), .int 0, .ref gdt, .int 0, .ref gdu, .int 0, .ref gdn]))]) hD hS hA [0, 1] rfl
  refine va_calli (va_runV (As := []) (rest := []) ⟨hx, hb, hml, hown, hts⟩ (c_X6_hasMaze l dC dI s.heap.size h0 tp rd gd im rw gn ho sq pl gdt gdu gdn ) (cwV 0 hts g_X6_gone_X6_hasMaze rfl rfl rfl (by decide +kernel) ⟨Nat.le_of_ble_eq_true rfl, Nat.le_of_ble_eq_true rfl⟩) ⟨fun a U g mk q => by obtain ⟨q0, q1, qP, qK, qD⟩ := q; exact ⟨q0, q1, qP, va_K.moved (u := U) (U := U.calling g mk a) (Vm.Alike.refl U.vm) qK, qD⟩, va_recv hKc hPc (ci := 6) (q0 := 0) rfl rfl, fun U hU hW => ⟨rfl, by rw [hU], by rw [hU]; exact hPc, va_K.moved hW.alike hKc, hDc.weaken (fun _ _ _ _ => trivial)⟩⟩ rfl rfl hl.1 rfl (lv_room (Nat.le_of_ble_eq_true rfl)) dX6_gone_1 ⟨Nat.le_of_ble_eq_true rfl, Nat.le_of_ble_eq_true rfl⟩) hS (fun q _ h => hFc q h) hFc (fun r_1 u t H1 locs ht hvm hw_2 hB hz1 hk1 hS => ?_)
  obtain ⟨hP1, hK1, hD1⟩ := hB
  have hP1 : va_P (dC, dI) vwCl [(h0, .inr (6, [.ref tp, .int 0, .int 0, .int (-1), .ref rd, .ref gd, .ref im, .ref rw, .ref gn, .ref ho, .ref sq])), (gd, .inr (0, [.ref pl, .int 0, .long 0, .long 0, .int 0, .int (-1), .int 0, .ref gdt, .int 0, .ref gdu, .int 0, .ref gdn]))] t.heap := hP1
  rw [ht] at hP1
  try dsimp only at hw_2
  obtain ⟨hP, hD⟩ := va_join (wr := [(pl, .inr (3, [.int 0, .int 0, .int 0, .int 0, .long 0, .ref plf, .ref plo, .ref plb, .ref pla]))]) (w1 := [(h0, .inr (6, [.ref tp, .int 0, .int 0, .int (-1), .ref rd, .ref gd, .ref im, .ref rw, .ref gn, .ref ho, .ref sq])), (gd, .inr (0, [.ref pl, .int 0, .long 0, .long 0, .int 0, .int (-1), .int 0, .ref gdt, .int 0, .ref gdu, .int 0, .ref gdn]))]) hP hD [0, 1] [2] rfl rfl (by decide) (by decide) hk1 hFc hP1 hD1
  generalize H1 = H at hP hS ⊢
  have hP : va_P (dC, dI) vwCl [(pl, .inr (3, [.int 0, .int 0, .int 0, .int 0, .long 0, .ref plf, .ref plo, .ref plb, .ref pla])), (h0, .inr (6, [.ref tp, .int 0, .int 0, .int (-1), .ref rd, .ref gd, .ref im, .ref rw, .ref gn, .ref ho, .ref sq])), (gd, .inr (0, [.ref pl, .int 0, .long 0, .long 0, .int 0, .int (-1), .int 0, .ref gdt, .int 0, .ref gdu, .int 0, .ref gdn]))] H := hP
  have hD : va_D A [(pl, .inr (3, [.int 0, .int 0, .int 0, .int 0, .long 0, .ref plf, .ref plo, .ref plb, .ref pla])), (h0, .inr (6, [.ref tp, .int 0, .int 0, .int (-1), .ref rd, .ref gd, .ref im, .ref rw, .ref gn, .ref ho, .ref sq])), (gd, .inr (0, [.ref pl, .int 0, .long 0, .long 0, .int 0, .int (-1), .int 0, .ref gdt, .int 0, .ref gdu, .int 0, .ref gdn]))] := hD
  obtain rfl : r_1 = 0 := hw_2
  refine lv_if_eq (tgt := 12) hx hb dX6_gone_4 (by decide) (fun _ => ?_) (fun h => absurd (by decide) h)
  refine lv_bipush (v := -2) hx hb dX6_gone_12 (by decide) ?_
  refine W.widen (k := 0) (n := 0) (by omega) (by omega) ?_
  exact W.iret (v := -2) hx hb hr (fun t ht hW => ⟨⟨(-2), (), rfl, (by first | rfl | ((repeat' split) <;> (first | rfl | (exfalso; omega)))), trivial⟩, hS.F ht⟩) hS.2.2 dX6_gone_14

theorem dX6_may_0 : decode cX6_may 0 = .ok (.aload_n 0, 1) := by decide +kernel
theorem dX6_may_1 : decode cX6_may 1 = .ok (.iload_n 1, 1) := by decide +kernel
theorem dX6_may_2 : decode cX6_may 2 = .ok (.i2l, 1) := by decide +kernel
theorem dX6_may_3 : decode cX6_may 3 = .ok (.invokevirtual 107, 3) := by decide +kernel
theorem dX6_may_6 : decode cX6_may 6 = .ok (.ifCond .eq 13, 3) := by decide +kernel
theorem dX6_may_19 : decode cX6_may 19 = .ok (.bipush (-2), 2) := by decide +kernel
theorem dX6_may_21 : decode cX6_may 21 = .ok (.ireturn, 1) := by decide +kernel
def wz_X6_may : List Cond := .code yX6_may cX6_may 3 (some .int) :: ([Cond.methodLink RX6 107 yX6_isSide, Cond.instanceMethod yX6_isSide, Cond.selects RX6 yX6_isSide yX6_isSide, Cond.initialized RX6, Cond.code yX6_isSide cX6_isSide 3 (some .boolean), Cond.fieldLink RX6 33 "HedgeMaze" "garden" "LHedgeMaze$Garden;", Cond.fieldLink RX6 90 "HedgeMaze$Garden" "plan" "LHedgeMaze$Plan;", Cond.fieldLink RX6 94 "HedgeMaze$Plan" "sideCount" "I"] ++ wsX60 ++ wsX00 ++ wsX30)
set_option maxRecDepth 20000 in
theorem g_X6_may_X6_isSide : GoodIn wz_X6_may (wsV RX6 107 RX6 yX6_isSide wz_X6_isSide) := goodIn_r _ [1, 2, 3, 4, 5, 6, 7, 8, 9, 10, 11, 12, 13, 14, 15, 16, 17, 18, 19, 20, 21, 22, 23, 24, 25, 26, 27, 28, 29, 30, 31, 32, 33, 34, 35, 36, 37, 38, 39, 40] rfl (by decide +kernel)
set_option maxHeartbeats 4000000 in
set_option maxRecDepth 100000 in
theorem c_X6_may (l : Launch) (dC : Nat → ClassId) (dI : Nat → Nat → Nat) (sz : Nat) (h0 : Nat) (tp : Nat) (rd : Nat) (gd : Nat) (im : Nat) (rw : Nat) (gn : Nat) (ho : Nat) (sq : Nat) (pl : Nat) (gdt : Nat) (gdu : Nat) (gdn : Nat) (plf : Nat) (plo : Nat) (plb : Nat) (pla : Nat) (p0 : Int32) (p1 : Int32)  : Met l yX6_may wz_X6_may ({ frames := 1, cells := 0, slots := 0, locals := 22 }) (va_Pc [.ref h0, .int p0, .int p1] (fun U => U.heap.size = sz ∧ va_P (dC, dI) vwCl [(h0, .inr (6, [.ref tp, .int 0, .int 0, .int (-1), .ref rd, .ref gd, .ref im, .ref rw, .ref gn, .ref ho, .ref sq])), (gd, .inr (0, [.ref pl, .int 0, .long 0, .long 0, .int 0, .int (-1), .int 0, .ref gdt, .int 0, .ref gdu, .int 0, .ref gdn])), (pl, .inr (3, [.int 0, .int 0, .int 0, .int 0, .long 0, .ref plf, .ref plo, .ref plb, .ref pla]))] U.heap ∧ va_K (dC, dI) vwCl [] U ∧ va_D (fun _ => True) [(h0, .inr (6, [.ref tp, .int 0, .int 0, .int (-1), .ref rd, .ref gd, .ref im, .ref rw, .ref gn, .ref ho, .ref sq])), (gd, .inr (0, [.ref pl, .int 0, .long 0, .long 0, .int 0, .int (-1), .int 0, .ref gdt, .int 0, .ref gdu, .int 0, .ref gdn])), (pl, .inr (3, [.int 0, .int 0, .int 0, .int 0, .long 0, .ref plf, .ref plo, .ref plb, .ref pla]))])) (va_Qi (fun (r : Int32) (u : Unit) => r = -2) (fun (_ : Unit) (_ : State) => True) (va_A [(h0, .inr (6, [.ref tp, .int 0, .int 0, .int (-1), .ref rd, .ref gd, .ref im, .ref rw, .ref gn, .ref ho, .ref sq])), (gd, .inr (0, [.ref pl, .int 0, .long 0, .long 0, .int 0, .int (-1), .int 0, .ref gdt, .int 0, .ref gdu, .int 0, .ref gdn])), (pl, .inr (3, [.int 0, .int 0, .int 0, .int 0, .long 0, .ref plf, .ref plo, .ref plb, .ref pla]))] sz)) 0 0 (va_A [(h0, .inr (6, [.ref tp, .int 0, .int 0, .int (-1), .ref rd, .ref gd, .ref im, .ref rw, .ref gn, .ref ho, .ref sq])), (gd, .inr (0, [.ref pl, .int 0, .long 0, .long 0, .int 0, .int (-1), .int 0, .ref gdt, .int 0, .ref gdu, .int 0, .ref gdn])), (pl, .inr (3, [.int 0, .int 0, .int 0, .int 0, .long 0, .ref plf, .ref plo, .ref plb, .ref pla]))] sz) := by
  refine Met.ofW (cc := cX6_may) (maxL := 3) (ret := (some .int)) (by decide) rfl ?_
  intro p e s m args below meth c s₁ B hml hv
  obtain ⟨rfl, hsz, hP, hK, hD0⟩ := hv
  have hx := B.exec
  have hb := B.bytes
  have hr := B.returns
  have hts := atoms_spec (ws := wz_X6_may) B.pre
  have hown : s.vm.findClass RX6 = some m.cls := findClass_of_methodNamed B.named
  have hlocks := B.notSynchronized
  subst hsz
  have hD := hD0.self (sz := s.heap.size)
  generalize hAe : va_A [(h0, .inr (6, [.ref tp, .int 0, .int 0, .int (-1), .ref rd, .ref gd, .ref im, .ref rw, .ref gn, .ref ho, .ref sq])), (gd, .inr (0, [.ref pl, .int 0, .long 0, .long 0, .int 0, .int (-1), .int 0, .ref gdt, .int 0, .ref gdu, .int 0, .ref gdn])), (pl, .inr (3, [.int 0, .int 0, .int 0, .int 0, .long 0, .ref plf, .ref plo, .ref plb, .ref pla]))] s.heap.size = A at hD ⊢
  have hA : ∀ q : Nat, s.heap.size ≤ q → A q := fun q h => by rw [← hAe]; exact Or.inr h
  have hS : va_S A s.heap s.heap [] := va_S.rf
  have hP : va_P (dC, dI) vwCl [(h0, .inr (6, [.ref tp, .int 0, .int 0, .int (-1), .ref rd, .ref gd, .ref im, .ref rw, .ref gn, .ref ho, .ref sq])), (gd, .inr (0, [.ref pl, .int 0, .long 0, .long 0, .int 0, .int (-1), .int 0, .ref gdt, .int 0, .ref gdu, .int 0, .ref gdn])), (pl, .inr (3, [.int 0, .int 0, .int 0, .int 0, .long 0, .ref plf, .ref plo, .ref plb, .ref pla]))] s.heap := hP
  have hl := lv_entry ([.ref h0, .int p0, .int p1]) (n := 3) (Nat.le_of_ble_eq_true rfl)
  rw [lg_entry_eq]
  generalize (lg_sl ([.ref h0, .int p0, .int p1]) ++ List.replicate (3 - (lg_sl ([.ref h0, .int p0, .int p1])).length) Slot.unset).toArray = ls at hl ⊢
  have hl : lv_has ls 3 [(0, .ref h0), (1, .int p0), (2, .int p1)] := hl
  refine lv_aload_n hx hb dX6_may_0 rfl (lv_at hl 0 rfl) ?_
  refine lv_iload_n hx hb dX6_may_1 rfl (lv_at hl 1 rfl) ?_
  refine lv_i2l (v := p0.toInt64) hx hb dX6_may_2 rfl ?_
  have hPc := hP.sub (ws' := [(h0, .inr (6, [.ref tp, .int 0, .int 0, .int (-1), .ref rd, .ref gd, .ref im, .ref rw, .ref gn, .ref ho, .ref sq])), (gd, .inr (0, [.ref pl, .int 0, .long 0, .long 0, .int 0, .int (-1), .int 0, .ref gdt, .int 0, .ref gdu, .int 0, .ref gdn])), (pl, .inr (3, [.int 0, .int 0, .int 0, .int 0, .long 0, .ref plf, .ref plo, .ref plb, .ref pla]))]) [0, 1, 2] rfl
  have hDc := hD.sub (ws' := [(h0, .inr (6, [.ref tp, .int 0, .int 0, .int (-1), .ref rd, .ref gd, .ref im, .ref rw, .ref gn, .ref ho, .ref sq])), (gd, .inr (0, [.ref pl, .int 0, .long 0, .long 0, .int 0, .int (-1), .int 0, .ref gdt, .int 0, .ref gdu, .int 0, .ref gdn])), (pl, .inr (3, [.int 0, .int 0, .int 0, .int 0, .long 0, .ref plf, .ref plo, .ref plb, .ref pla]))]) [0, 1, 2] (by decide) rfl
  have hKc := hK.sub (tys' := []) [] rfl
  have hFc := va_free (wc := [(h0, .inr (6, [.ref tp, .int 0, .int 0, .int (-1), .ref rd, .ref gd, .ref im, .ref rw, .ref gn, .ref ho, .ref sq])), (gd, .inr (0, [.ref pl, .int 0, .long 0, .long 0, .int 0, .int (-1), .int 0, .ref gdt, .int 0, .ref gdu, .int 0, .ref gdn])), (pl, .inr (3, [.int 0, .int 0, .int 0, .int 0, .long 0, .ref plf, .ref plo, .ref plb, .ref pla]))]) hD hS hA [0, 1, 2] rfl
  refine va_calli (va_runV (As := [.long p0.toInt64]) (rest := []) ⟨hx, hb, hml, hown, hts⟩ (c_X6_isSide l dC dI s.heap.size h0 tp rd gd im rw gn ho sq pl gdt gdu gdn plf plo plb pla p0.toInt64 ) (cwV 1 hts g_X6_may_X6_isSide rfl rfl rfl (by decide +kernel) ⟨Nat.le_of_ble_eq_true rfl, Nat.le_of_ble_eq_true rfl⟩) ⟨fun a U g mk q => by obtain ⟨q0, q1, qP, qK, qD⟩ := q; exact ⟨q0, q1, qP, va_K.moved (u := U) (U := U.calling g mk a) (Vm.Alike.refl U.vm) qK, qD⟩, va_recv hKc hPc (ci := 6) (q0 := 0) rfl rfl, fun U hU hW => ⟨rfl, by rw [hU], by rw [hU]; exact hPc, va_K.moved hW.alike hKc, hDc.weaken (fun _ _ _ _ => trivial)⟩⟩ rfl rfl hl.1 rfl (lv_room (Nat.le_of_ble_eq_true rfl)) dX6_may_3 ⟨Nat.le_of_ble_eq_true rfl, Nat.le_of_ble_eq_true rfl⟩) hS (fun q _ h => hFc q h) hFc (fun r_1 u t H1 locs ht hvm hw_2 hB hz1 hk1 hS => ?_)
  obtain ⟨hP1, hK1, hD1⟩ := hB
  have hP1 : va_P (dC, dI) vwCl [(h0, .inr (6, [.ref tp, .int 0, .int 0, .int (-1), .ref rd, .ref gd, .ref im, .ref rw, .ref gn, .ref ho, .ref sq])), (gd, .inr (0, [.ref pl, .int 0, .long 0, .long 0, .int 0, .int (-1), .int 0, .ref gdt, .int 0, .ref gdu, .int 0, .ref gdn])), (pl, .inr (3, [.int 0, .int 0, .int 0, .int 0, .long 0, .ref plf, .ref plo, .ref plb, .ref pla]))] t.heap := hP1
  rw [ht] at hP1
  try dsimp only at hw_2
  obtain ⟨hP, hD⟩ := va_join (wr := []) (w1 := [(h0, .inr (6, [.ref tp, .int 0, .int 0, .int (-1), .ref rd, .ref gd, .ref im, .ref rw, .ref gn, .ref ho, .ref sq])), (gd, .inr (0, [.ref pl, .int 0, .long 0, .long 0, .int 0, .int (-1), .int 0, .ref gdt, .int 0, .ref gdu, .int 0, .ref gdn])), (pl, .inr (3, [.int 0, .int 0, .int 0, .int 0, .long 0, .ref plf, .ref plo, .ref plb, .ref pla]))]) hP hD [0, 1, 2] [] rfl rfl (by decide) (by decide) hk1 hFc hP1 hD1
  generalize H1 = H at hP hS ⊢
  have hP : va_P (dC, dI) vwCl [(h0, .inr (6, [.ref tp, .int 0, .int 0, .int (-1), .ref rd, .ref gd, .ref im, .ref rw, .ref gn, .ref ho, .ref sq])), (gd, .inr (0, [.ref pl, .int 0, .long 0, .long 0, .int 0, .int (-1), .int 0, .ref gdt, .int 0, .ref gdu, .int 0, .ref gdn])), (pl, .inr (3, [.int 0, .int 0, .int 0, .int 0, .long 0, .ref plf, .ref plo, .ref plb, .ref pla]))] H := hP
  have hD : va_D A [(h0, .inr (6, [.ref tp, .int 0, .int 0, .int (-1), .ref rd, .ref gd, .ref im, .ref rw, .ref gn, .ref ho, .ref sq])), (gd, .inr (0, [.ref pl, .int 0, .long 0, .long 0, .int 0, .int (-1), .int 0, .ref gdt, .int 0, .ref gdu, .int 0, .ref gdn])), (pl, .inr (3, [.int 0, .int 0, .int 0, .int 0, .long 0, .ref plf, .ref plo, .ref plb, .ref pla]))] := hD
  obtain rfl : r_1 = 0 := hw_2
  refine lv_if_eq (tgt := 19) hx hb dX6_may_6 (by decide) (fun _ => ?_) (fun h => absurd (by decide) h)
  refine lv_bipush (v := -2) hx hb dX6_may_19 (by decide) ?_
  refine W.widen (k := 0) (n := 0) (by omega) (by omega) ?_
  exact W.iret (v := -2) hx hb hr (fun t ht hW => ⟨⟨(-2), (), rfl, (by first | rfl | ((repeat' split) <;> (first | rfl | (exfalso; omega)))), trivial⟩, hS.F ht⟩) hS.2.2 dX6_may_21

theorem dX6_nights_0 : decode cX6_nights 0 = .ok (.iload_n 1, 1) := by decide +kernel
theorem dX6_nights_1 : decode cX6_nights 1 = .ok (.invokestatic 211, 3) := by decide +kernel
theorem dX6_nights_4 : decode cX6_nights 4 = .ok (.ifCond .eq 10, 3) := by decide +kernel
theorem dX6_nights_7 : decode cX6_nights 7 = .ok (.aload_n 0, 1) := by decide +kernel
theorem dX6_nights_8 : decode cX6_nights 8 = .ok (.invokevirtual 86, 3) := by decide +kernel
theorem dX6_nights_11 : decode cX6_nights 11 = .ok (.ifCond .ne 6, 3) := by decide +kernel
theorem dX6_nights_14 : decode cX6_nights 14 = .ok (.bipush (-2), 2) := by decide +kernel
theorem dX6_nights_16 : decode cX6_nights 16 = .ok (.ireturn, 1) := by decide +kernel
def wz_X6_nights : List Cond := .code yX6_nights cX6_nights 8 (some .int) :: ([Cond.methodLink RX6 211 yX6_isSlot, Cond.static yX6_isSlot, Cond.initialized RX6, Cond.code yX6_isSlot cX6_isSlot 1 (some .boolean), Cond.methodLink RX6 86 yX6_hasMaze, Cond.instanceMethod yX6_hasMaze, Cond.selects RX6 yX6_hasMaze yX6_hasMaze, Cond.code yX6_hasMaze cX6_hasMaze 1 (some .boolean), Cond.fieldLink RX6 33 "HedgeMaze" "garden" "LHedgeMaze$Garden;", Cond.fieldLink RX6 83 "HedgeMaze$Garden" "lines" "I"] ++ wsX60 ++ wsX00)
set_option maxRecDepth 20000 in
theorem g_X6_nights_X6_isSlot : GoodIn wz_X6_nights (va_wsS RX6 211 yX6_isSlot wz_X6_isSlot) := goodIn_r _ [1, 2, 3, 4] rfl (by decide +kernel)
set_option maxRecDepth 20000 in
theorem g_X6_nights_X6_hasMaze : GoodIn wz_X6_nights (wsV RX6 86 RX6 yX6_hasMaze wz_X6_hasMaze) := goodIn_r _ [5, 6, 7, 3, 8, 9, 10, 11, 12, 13, 14, 15, 16, 17, 18, 19, 20, 21, 22, 23, 24, 25, 26, 27, 28, 29, 30, 31, 32, 33] rfl (by decide +kernel)
set_option maxHeartbeats 4000000 in
set_option maxRecDepth 100000 in
theorem c_X6_nights (l : Launch) (dC : Nat → ClassId) (dI : Nat → Nat → Nat) (sz : Nat) (h0 : Nat) (tp : Nat) (rd : Nat) (gd : Nat) (im : Nat) (rw : Nat) (gn : Nat) (ho : Nat) (sq : Nat) (pl : Nat) (gdt : Nat) (gdu : Nat) (gdn : Nat) (plf : Nat) (plo : Nat) (plb : Nat) (pla : Nat) (p0 : Int32)  : Met l yX6_nights wz_X6_nights ({ frames := 1, cells := 0, slots := 0, locals := 20 }) (va_Pc [.ref h0, .int p0] (fun U => U.heap.size = sz ∧ va_P (dC, dI) vwCl [(h0, .inr (6, [.ref tp, .int 0, .int 0, .int (-1), .ref rd, .ref gd, .ref im, .ref rw, .ref gn, .ref ho, .ref sq])), (gd, .inr (0, [.ref pl, .int 0, .long 0, .long 0, .int 0, .int (-1), .int 0, .ref gdt, .int 0, .ref gdu, .int 0, .ref gdn])), (pl, .inr (3, [.int 0, .int 0, .int 0, .int 0, .long 0, .ref plf, .ref plo, .ref plb, .ref pla]))] U.heap ∧ va_K (dC, dI) vwCl [] U ∧ va_D (fun _ => True) [(h0, .inr (6, [.ref tp, .int 0, .int 0, .int (-1), .ref rd, .ref gd, .ref im, .ref rw, .ref gn, .ref ho, .ref sq])), (gd, .inr (0, [.ref pl, .int 0, .long 0, .long 0, .int 0, .int (-1), .int 0, .ref gdt, .int 0, .ref gdu, .int 0, .ref gdn])), (pl, .inr (3, [.int 0, .int 0, .int 0, .int 0, .long 0, .ref plf, .ref plo, .ref plb, .ref pla]))])) (va_Qi (fun (r : Int32) (u : Unit) => r = -2) (fun (_ : Unit) (_ : State) => True) (va_A [(h0, .inr (6, [.ref tp, .int 0, .int 0, .int (-1), .ref rd, .ref gd, .ref im, .ref rw, .ref gn, .ref ho, .ref sq])), (gd, .inr (0, [.ref pl, .int 0, .long 0, .long 0, .int 0, .int (-1), .int 0, .ref gdt, .int 0, .ref gdu, .int 0, .ref gdn])), (pl, .inr (3, [.int 0, .int 0, .int 0, .int 0, .long 0, .ref plf, .ref plo, .ref plb, .ref pla]))] sz)) 0 0 (va_A [(h0, .inr (6, [.ref tp, .int 0, .int 0, .int (-1), .ref rd, .ref gd, .ref im, .ref rw, .ref gn, .ref ho, .ref sq])), (gd, .inr (0, [.ref pl, .int 0, .long 0, .long 0, .int 0, .int (-1), .int 0, .ref gdt, .int 0, .ref gdu, .int 0, .ref gdn])), (pl, .inr (3, [.int 0, .int 0, .int 0, .int 0, .long 0, .ref plf, .ref plo, .ref plb, .ref pla]))] sz) := by
  refine Met.ofW (cc := cX6_nights) (maxL := 8) (ret := (some .int)) (by decide) rfl ?_
  intro p e s m args below meth c s₁ B hml hv
  obtain ⟨rfl, hsz, hP, hK, hD0⟩ := hv
  have hx := B.exec
  have hb := B.bytes
  have hr := B.returns
  have hts := atoms_spec (ws := wz_X6_nights) B.pre
  have hown : s.vm.findClass RX6 = some m.cls := findClass_of_methodNamed B.named
  have hlocks := B.notSynchronized
  subst hsz
  have hD := hD0.self (sz := s.heap.size)
  generalize hAe : va_A [(h0, .inr (6, [.ref tp, .int 0, .int 0, .int (-1), .ref rd, .ref gd, .ref im, .ref rw, .ref gn, .ref ho, .ref sq])), (gd, .inr (0, [.ref pl, .int 0, .long 0, .long 0, .int 0, .int (-1), .int 0, .ref gdt, .int 0, .ref gdu, .int 0, .ref gdn])), (pl, .inr (3, [.int 0, .int 0, .int 0, .int 0, .long 0, .ref plf, .ref plo, .ref plb, .ref pla]))] s.heap.size = A at hD ⊢
  have hA : ∀ q : Nat, s.heap.size ≤ q → A q := fun q h => by rw [← hAe]; exact Or.inr h
  have hS : va_S A s.heap s.heap [] := va_S.rf
  have hP : va_P (dC, dI) vwCl [(h0, .inr (6, [.ref tp, .int 0, .int 0, .int (-1), .ref rd, .ref gd, .ref im, .ref rw, .ref gn, .ref ho, .ref sq])), (gd, .inr (0, [.ref pl, .int 0, .long 0, .long 0, .int 0, .int (-1), .int 0, .ref gdt, .int 0, .ref gdu, .int 0, .ref gdn])), (pl, .inr (3, [.int 0, .int 0, .int 0, .int 0, .long 0, .ref plf, .ref plo, .ref plb, .ref pla]))] s.heap := hP
  have hl := lv_entry ([.ref h0, .int p0]) (n := 8) (Nat.le_of_ble_eq_true rfl)
  rw [lg_entry_eq]
  generalize (lg_sl ([.ref h0, .int p0]) ++ List.replicate (8 - (lg_sl ([.ref h0, .int p0])).length) Slot.unset).toArray = ls at hl ⊢
  have hl : lv_has ls 8 [(0, .ref h0), (1, .int p0)] := hl
  refine lv_iload_n hx hb dX6_nights_0 rfl (lv_at hl 1 rfl) ?_
  have hPc := hP.sub (ws' := []) [] rfl
  have hDc := hD.sub (ws' := []) [] (by decide) rfl
  have hKc := hK.sub (tys' := []) [] rfl
  have hFc := va_free (wc := []) hD hS hA [] rfl
  refine va_calli (va_runS (As := [.int p0]) (rest := []) ⟨hx, hb, hml, hown, hts⟩ (c_X6_isSlot l dC dI s.heap.size p0 ) (va_cwS 1 hts g_X6_nights_X6_isSlot rfl rfl rfl (by decide +kernel) ⟨Nat.le_of_ble_eq_true rfl, Nat.le_of_ble_eq_true rfl⟩) ⟨fun a U g mk q => by obtain ⟨q0, q1, qP, qK, qD⟩ := q; exact ⟨q0, q1, qP, va_K.moved (u := U) (U := U.calling g mk a) (Vm.Alike.refl U.vm) qK, qD⟩, fun U hU hW => ⟨rfl, by rw [hU], by rw [hU]; exact hPc, va_K.moved hW.alike hKc, hDc.weaken (fun _ _ _ _ => trivial)⟩⟩ rfl rfl hl.1 rfl (lv_room (Nat.le_of_ble_eq_true rfl)) dX6_nights_1 ⟨Nat.le_of_ble_eq_true rfl, Nat.le_of_ble_eq_true rfl⟩) hS (fun q _ h => hFc q h) hFc (fun r_1 u t H1 locs ht hvm hw_2 hB hz1 hk1 hS => ?_)
  have hP1 : va_P (dC, dI) vwCl [] H1 := i_nilP
  have hD1 : va_D (va_A [] s.heap.size) [] := i_nilD
  try dsimp only at hw_2
  obtain ⟨hP, hD⟩ := va_join (wr := [(h0, .inr (6, [.ref tp, .int 0, .int 0, .int (-1), .ref rd, .ref gd, .ref im, .ref rw, .ref gn, .ref ho, .ref sq])), (gd, .inr (0, [.ref pl, .int 0, .long 0, .long 0, .int 0, .int (-1), .int 0, .ref gdt, .int 0, .ref gdu, .int 0, .ref gdn])), (pl, .inr (3, [.int 0, .int 0, .int 0, .int 0, .long 0, .ref plf, .ref plo, .ref plb, .ref pla]))]) (w1 := []) hP hD [] [0, 1, 2] rfl rfl (by decide) (by decide) hk1 hFc hP1 hD1
  generalize H1 = H at hP hS ⊢
  have hP : va_P (dC, dI) vwCl [(h0, .inr (6, [.ref tp, .int 0, .int 0, .int (-1), .ref rd, .ref gd, .ref im, .ref rw, .ref gn, .ref ho, .ref sq])), (gd, .inr (0, [.ref pl, .int 0, .long 0, .long 0, .int 0, .int (-1), .int 0, .ref gdt, .int 0, .ref gdu, .int 0, .ref gdn])), (pl, .inr (3, [.int 0, .int 0, .int 0, .int 0, .long 0, .ref plf, .ref plo, .ref plb, .ref pla]))] H := hP
  have hD : va_D A [(h0, .inr (6, [.ref tp, .int 0, .int 0, .int (-1), .ref rd, .ref gd, .ref im, .ref rw, .ref gn, .ref ho, .ref sq])), (gd, .inr (0, [.ref pl, .int 0, .long 0, .long 0, .int 0, .int (-1), .int 0, .ref gdt, .int 0, .ref gdu, .int 0, .ref gdn])), (pl, .inr (3, [.int 0, .int 0, .int 0, .int 0, .long 0, .ref plf, .ref plo, .ref plb, .ref pla]))] := hD
  rcases i_bool hw_2 with ⟨r_19, hC⟩ | ⟨r_19, hC⟩
  · obtain rfl : r_1 = 1 := r_19
    have hC_3 := hC
    refine lv_if_eq (tgt := 14) hx hb dX6_nights_4 (by decide) (fun h => absurd h (by decide)) (fun _ => ?_)
    refine lv_aload_n hx hb dX6_nights_7 rfl (lv_at hl 0 rfl) ?_
    have hPc := hP.sub (ws' := [(h0, .inr (6, [.ref tp, .int 0, .int 0, .int (-1), .ref rd, .ref gd, .ref im, .ref rw, .ref gn, .ref ho, .ref sq])), (gd, .inr (0, [.ref pl, .int 0, .long 0, .long 0, .int 0, .int (-1), .int 0, .ref gdt, .int 0, .ref gdu, .int 0, .ref gdn]))]) [0, 1] rfl
    have hDc := hD.sub (ws' := [(h0, .inr (6, [.ref tp, .int 0, .int 0, .int (-1), .ref rd, .ref gd, .ref im, .ref rw, .ref gn, .ref ho, .ref sq])), (gd, .inr (0, [.ref pl, .int 0, .long 0, .long 0, .int 0, .int (-1), .int 0, .ref gdt, .int 0, .ref gdu, .int 0, .ref gdn]))]) [0, 1] (by decide) rfl
    have hKc := hK.sub (tys' := []) [] rfl
    have hFc := va_free (wc := [(h0, .inr (6, [.ref tp, .int 0, .int 0, .int (-1), .ref rd, .ref gd, .ref im, .ref rw, .ref gn, .ref ho, .ref sq])), (gd, .inr (0, [.ref pl, .int 0, .long 0, .long 0, .int 0, .int (-1), .int 0, .ref gdt, .int 0, .ref gdu, .int 0, .ref gdn]))]) hD hS hA [0, 1] rfl
    refine va_calli (va_runV (As := []) (rest := []) ⟨hx, hb, hml, hown, hts⟩ (c_X6_hasMaze l dC dI H.size h0 tp rd gd im rw gn ho sq pl gdt gdu gdn ) (cwV 0 hts g_X6_nights_X6_hasMaze rfl rfl rfl (by decide +kernel) ⟨Nat.le_of_ble_eq_true rfl, Nat.le_of_ble_eq_true rfl⟩) ⟨fun a U g mk q => by obtain ⟨q0, q1, qP, qK, qD⟩ := q; exact ⟨q0, q1, qP, va_K.moved (u := U) (U := U.calling g mk a) (Vm.Alike.refl U.vm) qK, qD⟩, va_recv hKc hPc (ci := 6) (q0 := 0) rfl rfl, fun U hU hW => ⟨rfl, by rw [hU], by rw [hU]; exact hPc, va_K.moved hW.alike hKc, hDc.weaken (fun _ _ _ _ => trivial)⟩⟩ rfl rfl hl.1 rfl (lv_room (Nat.le_of_ble_eq_true rfl)) dX6_nights_8 ⟨Nat.le_of_ble_eq_true rfl, Nat.le_of_ble_eq_true rfl⟩) hS (fun q _ h => hFc q h) hFc (fun r_5 u t H1 locs ht hvm hw_6 hB hz1 hk1 hS => ?_)
    obtain ⟨hP1, hK1, hD1⟩ := hB
    have hP1 : va_P (dC, dI) vwCl [(h0, .inr (6, [.ref tp, .int 0, .int 0, .int (-1), .ref rd, .ref gd, .ref im, .ref rw, .ref gn, .ref ho, .ref sq])), (gd, .inr (0, [.ref pl, .int 0, .long 0, .long 0, .int 0, .int (-1), .int 0, .ref gdt, .int 0, .ref gdu, .int 0, .ref gdn]))] t.heap := hP1
    rw [ht] at hP1
    try dsimp only at hw_6
    obtain ⟨hP, hD⟩ := va_join (wr := [(pl, .inr (3, [.int 0, .int 0, .int 0, .int 0, .long 0, .ref plf, .ref plo, .ref plb, .ref pla]))]) (w1 := [(h0, .inr (6, [.ref tp, .int 0, .int 0, .int (-1), .ref rd, .ref gd, .ref im, .ref rw, .ref gn, .ref ho, .ref sq])), (gd, .inr (0, [.ref pl, .int 0, .long 0, .long 0, .int 0, .int (-1), .int 0, .ref gdt, .int 0, .ref gdu, .int 0, .ref gdn]))]) hP hD [0, 1] [2] rfl rfl (by decide) (by decide) hk1 hFc hP1 hD1
    generalize H1 = H at hP hS ⊢
    have hP : va_P (dC, dI) vwCl [(pl, .inr (3, [.int 0, .int 0, .int 0, .int 0, .long 0, .ref plf, .ref plo, .ref plb, .ref pla])), (h0, .inr (6, [.ref tp, .int 0, .int 0, .int (-1), .ref rd, .ref gd, .ref im, .ref rw, .ref gn, .ref ho, .ref sq])), (gd, .inr (0, [.ref pl, .int 0, .long 0, .long 0, .int 0, .int (-1), .int 0, .ref gdt, .int 0, .ref gdu, .int 0, .ref gdn]))] H := hP
    have hD : va_D A [(pl, .inr (3, [.int 0, .int 0, .int 0, .int 0, .long 0, .ref plf, .ref plo, .ref plb, .ref pla])), (h0, .inr (6, [.ref tp, .int 0, .int 0, .int (-1), .ref rd, .ref gd, .ref im, .ref rw, .ref gn, .ref ho, .ref sq])), (gd, .inr (0, [.ref pl, .int 0, .long 0, .long 0, .int 0, .int (-1), .int 0, .ref gdt, .int 0, .ref gdu, .int 0, .ref gdn]))] := hD
    obtain rfl : r_5 = 0 := hw_6
    refine lv_if_ne (tgt := 17) hx hb dX6_nights_11 (by decide) (fun h => absurd (by decide) h) (fun _ => ?_)
    refine lv_bipush (v := -2) hx hb dX6_nights_14 (by decide) ?_
    refine W.widen (k := 0) (n := 0) (by omega) (by omega) ?_
    exact W.iret (v := -2) hx hb hr (fun t ht hW => ⟨⟨(-2), (), rfl, (by first | rfl | ((repeat' split) <;> (first | rfl | (exfalso; omega)))), trivial⟩, hS.F ht⟩) hS.2.2 dX6_nights_16
  · obtain rfl : r_1 = 0 := r_19
    have hC_8 := hC
    refine lv_if_eq (tgt := 14) hx hb dX6_nights_4 (by decide) (fun _ => ?_) (fun h => absurd (by decide) h)
    refine lv_bipush (v := -2) hx hb dX6_nights_14 (by decide) ?_
    refine W.widen (k := 0) (n := 0) (by omega) (by omega) ?_
    exact W.iret (v := -2) hx hb hr (fun t ht hW => ⟨⟨(-2), (), rfl, (by first | rfl | ((repeat' split) <;> (first | rfl | (exfalso; omega)))), trivial⟩, hS.F ht⟩) hS.2.2 dX6_nights_16

theorem dX6_out_0 : decode cX6_out 0 = .ok (.iload_n 1, 1) := by decide +kernel
theorem dX6_out_1 : decode cX6_out 1 = .ok (.invokestatic 211, 3) := by decide +kernel
theorem dX6_out_4 : decode cX6_out 4 = .ok (.ifCond .eq 22, 3) := by decide +kernel
theorem dX6_out_7 : decode cX6_out 7 = .ok (.aload_n 0, 1) := by decide +kernel
theorem dX6_out_8 : decode cX6_out 8 = .ok (.iload_n 2, 1) := by decide +kernel
theorem dX6_out_9 : decode cX6_out 9 = .ok (.invokevirtual 99, 3) := by decide +kernel
theorem dX6_out_12 : decode cX6_out 12 = .ok (.ifCond .eq 14, 3) := by decide +kernel
theorem dX6_out_26 : decode cX6_out 26 = .ok (.bipush (-2), 2) := by decide +kernel
theorem dX6_out_28 : decode cX6_out 28 = .ok (.ireturn, 1) := by decide +kernel
def wz_X6_out : List Cond := .code yX6_out cX6_out 9 (some .int) :: ([Cond.methodLink RX6 211 yX6_isSlot, Cond.static yX6_isSlot, Cond.initialized RX6, Cond.code yX6_isSlot cX6_isSlot 1 (some .boolean), Cond.methodLink RX6 99 yX6_isCell, Cond.instanceMethod yX6_isCell, Cond.selects RX6 yX6_isCell yX6_isCell, Cond.code yX6_isCell cX6_isCell 2 (some .boolean), Cond.fieldLink RX6 33 "HedgeMaze" "garden" "LHedgeMaze$Garden;", Cond.fieldLink RX6 90 "HedgeMaze$Garden" "plan" "LHedgeMaze$Plan;", Cond.fieldLink RX6 169 "HedgeMaze$Plan" "cellCount" "I"] ++ wsX60 ++ wsX00 ++ wsX30)
set_option maxRecDepth 20000 in
theorem g_X6_out_X6_isSlot : GoodIn wz_X6_out (va_wsS RX6 211 yX6_isSlot wz_X6_isSlot) := goodIn_r _ [1, 2, 3, 4] rfl (by decide +kernel)
set_option maxRecDepth 20000 in
theorem g_X6_out_X6_isCell : GoodIn wz_X6_out (wsV RX6 99 RX6 yX6_isCell wz_X6_isCell) := goodIn_r _ [5, 6, 7, 3, 8, 9, 10, 11, 12, 13, 14, 15, 16, 17, 18, 19, 20, 21, 22, 23, 24, 25, 26, 27, 28, 29, 30, 31, 32, 33, 34, 35, 36, 37, 38, 39, 40, 41, 42, 43] rfl (by decide +kernel)
set_option maxHeartbeats 4000000 in
set_option maxRecDepth 100000 in
theorem c_X6_out (l : Launch) (dC : Nat → ClassId) (dI : Nat → Nat → Nat) (sz : Nat) (h0 : Nat) (tp : Nat) (rd : Nat) (gd : Nat) (im : Nat) (rw : Nat) (gn : Nat) (ho : Nat) (sq : Nat) (pl : Nat) (gdt : Nat) (gdu : Nat) (gdn : Nat) (plf : Nat) (plo : Nat) (plb : Nat) (pla : Nat) (p0 : Int32) (p1 : Int32) (p2 : Int32)  : Met l yX6_out wz_X6_out ({ frames := 1, cells := 0, slots := 0, locals := 21 }) (va_Pc [.ref h0, .int p0, .int p1, .int p2] (fun U => U.heap.size = sz ∧ va_P (dC, dI) vwCl [(h0, .inr (6, [.ref tp, .int 0, .int 0, .int (-1), .ref rd, .ref gd, .ref im, .ref rw, .ref gn, .ref ho, .ref sq])), (gd, .inr (0, [.ref pl, .int 0, .long 0, .long 0, .int 0, .int (-1), .int 0, .ref gdt, .int 0, .ref gdu, .int 0, .ref gdn])), (pl, .inr (3, [.int 0, .int 0, .int 0, .int 0, .long 0, .ref plf, .ref plo, .ref plb, .ref pla]))] U.heap ∧ va_K (dC, dI) vwCl [] U ∧ va_D (fun _ => True) [(h0, .inr (6, [.ref tp, .int 0, .int 0, .int (-1), .ref rd, .ref gd, .ref im, .ref rw, .ref gn, .ref ho, .ref sq])), (gd, .inr (0, [.ref pl, .int 0, .long 0, .long 0, .int 0, .int (-1), .int 0, .ref gdt, .int 0, .ref gdu, .int 0, .ref gdn])), (pl, .inr (3, [.int 0, .int 0, .int 0, .int 0, .long 0, .ref plf, .ref plo, .ref plb, .ref pla]))])) (va_Qi (fun (r : Int32) (u : Unit) => r = -2) (fun (_ : Unit) (_ : State) => True) (va_A [(h0, .inr (6, [.ref tp, .int 0, .int 0, .int (-1), .ref rd, .ref gd, .ref im, .ref rw, .ref gn, .ref ho, .ref sq])), (gd, .inr (0, [.ref pl, .int 0, .long 0, .long 0, .int 0, .int (-1), .int 0, .ref gdt, .int 0, .ref gdu, .int 0, .ref gdn])), (pl, .inr (3, [.int 0, .int 0, .int 0, .int 0, .long 0, .ref plf, .ref plo, .ref plb, .ref pla]))] sz)) 0 0 (va_A [(h0, .inr (6, [.ref tp, .int 0, .int 0, .int (-1), .ref rd, .ref gd, .ref im, .ref rw, .ref gn, .ref ho, .ref sq])), (gd, .inr (0, [.ref pl, .int 0, .long 0, .long 0, .int 0, .int (-1), .int 0, .ref gdt, .int 0, .ref gdu, .int 0, .ref gdn])), (pl, .inr (3, [.int 0, .int 0, .int 0, .int 0, .long 0, .ref plf, .ref plo, .ref plb, .ref pla]))] sz) := by
  refine Met.ofW (cc := cX6_out) (maxL := 9) (ret := (some .int)) (by decide) rfl ?_
  intro p e s m args below meth c s₁ B hml hv
  obtain ⟨rfl, hsz, hP, hK, hD0⟩ := hv
  have hx := B.exec
  have hb := B.bytes
  have hr := B.returns
  have hts := atoms_spec (ws := wz_X6_out) B.pre
  have hown : s.vm.findClass RX6 = some m.cls := findClass_of_methodNamed B.named
  have hlocks := B.notSynchronized
  subst hsz
  have hD := hD0.self (sz := s.heap.size)
  generalize hAe : va_A [(h0, .inr (6, [.ref tp, .int 0, .int 0, .int (-1), .ref rd, .ref gd, .ref im, .ref rw, .ref gn, .ref ho, .ref sq])), (gd, .inr (0, [.ref pl, .int 0, .long 0, .long 0, .int 0, .int (-1), .int 0, .ref gdt, .int 0, .ref gdu, .int 0, .ref gdn])), (pl, .inr (3, [.int 0, .int 0, .int 0, .int 0, .long 0, .ref plf, .ref plo, .ref plb, .ref pla]))] s.heap.size = A at hD ⊢
  have hA : ∀ q : Nat, s.heap.size ≤ q → A q := fun q h => by rw [← hAe]; exact Or.inr h
  have hS : va_S A s.heap s.heap [] := va_S.rf
  have hP : va_P (dC, dI) vwCl [(h0, .inr (6, [.ref tp, .int 0, .int 0, .int (-1), .ref rd, .ref gd, .ref im, .ref rw, .ref gn, .ref ho, .ref sq])), (gd, .inr (0, [.ref pl, .int 0, .long 0, .long 0, .int 0, .int (-1), .int 0, .ref gdt, .int 0, .ref gdu, .int 0, .ref gdn])), (pl, .inr (3, [.int 0, .int 0, .int 0, .int 0, .long 0, .ref plf, .ref plo, .ref plb, .ref pla]))] s.heap := hP
  have hl := lv_entry ([.ref h0, .int p0, .int p1, .int p2]) (n := 9) (Nat.le_of_ble_eq_true rfl)
  rw [lg_entry_eq]
  generalize (lg_sl ([.ref h0, .int p0, .int p1, .int p2]) ++ List.replicate (9 - (lg_sl ([.ref h0, .int p0, .int p1, .int p2])).length) Slot.unset).toArray = ls at hl ⊢
  have hl : lv_has ls 9 [(0, .ref h0), (1, .int p0), (2, .int p1), (3, .int p2)] := hl
  refine lv_iload_n hx hb dX6_out_0 rfl (lv_at hl 1 rfl) ?_
  have hPc := hP.sub (ws' := []) [] rfl
  have hDc := hD.sub (ws' := []) [] (by decide) rfl
  have hKc := hK.sub (tys' := []) [] rfl
  have hFc := va_free (wc := []) hD hS hA [] rfl
  refine va_calli (va_runS (As := [.int p0]) (rest := []) ⟨hx, hb, hml, hown, hts⟩ (c_X6_isSlot l dC dI s.heap.size p0 ) (va_cwS 1 hts g_X6_out_X6_isSlot rfl rfl rfl (by decide +kernel) ⟨Nat.le_of_ble_eq_true rfl, Nat.le_of_ble_eq_true rfl⟩) ⟨fun a U g mk q => by obtain ⟨q0, q1, qP, qK, qD⟩ := q; exact ⟨q0, q1, qP, va_K.moved (u := U) (U := U.calling g mk a) (Vm.Alike.refl U.vm) qK, qD⟩, fun U hU hW => ⟨rfl, by rw [hU], by rw [hU]; exact hPc, va_K.moved hW.alike hKc, hDc.weaken (fun _ _ _ _ => trivial)⟩⟩ rfl rfl hl.1 rfl (lv_room (Nat.le_of_ble_eq_true rfl)) dX6_out_1 ⟨Nat.le_of_ble_eq_true rfl, Nat.le_of_ble_eq_true rfl⟩) hS (fun q _ h => hFc q h) hFc (fun r_1 u t H1 locs ht hvm hw_2 hB hz1 hk1 hS => ?_)
  have hP1 : va_P (dC, dI) vwCl [] H1 := i_nilP
  have hD1 : va_D (va_A [] s.heap.size) [] := i_nilD
  try dsimp only at hw_2
  obtain ⟨hP, hD⟩ := va_join (wr := [(h0, .inr (6, [.ref tp, .int 0, .int 0, .int (-1), .ref rd, .ref gd, .ref im, .ref rw, .ref gn, .ref ho, .ref sq])), (gd, .inr (0, [.ref pl, .int 0, .long 0, .long 0, .int 0, .int (-1), .int 0, .ref gdt, .int 0, .ref gdu, .int 0, .ref gdn])), (pl, .inr (3, [.int 0, .int 0, .int 0, .int 0, .long 0, .ref plf, .ref plo, .ref plb, .ref pla]))]) (w1 := []) hP hD [] [0, 1, 2] rfl rfl (by decide) (by decide) hk1 hFc hP1 hD1
  generalize H1 = H at hP hS ⊢
  have hP : va_P (dC, dI) vwCl [(h0, .inr (6, [.ref tp, .int 0, .int 0, .int (-1), .ref rd, .ref gd, .ref im, .ref rw, .ref gn, .ref ho, .ref sq])), (gd, .inr (0, [.ref pl, .int 0, .long 0, .long 0, .int 0, .int (-1), .int 0, .ref gdt, .int 0, .ref gdu, .int 0, .ref gdn])), (pl, .inr (3, [.int 0, .int 0, .int 0, .int 0, .long 0, .ref plf, .ref plo, .ref plb, .ref pla]))] H := hP
  have hD : va_D A [(h0, .inr (6, [.ref tp, .int 0, .int 0, .int (-1), .ref rd, .ref gd, .ref im, .ref rw, .ref gn, .ref ho, .ref sq])), (gd, .inr (0, [.ref pl, .int 0, .long 0, .long 0, .int 0, .int (-1), .int 0, .ref gdt, .int 0, .ref gdu, .int 0, .ref gdn])), (pl, .inr (3, [.int 0, .int 0, .int 0, .int 0, .long 0, .ref plf, .ref plo, .ref plb, .ref pla]))] := hD
  rcases i_bool hw_2 with ⟨r_19, hC⟩ | ⟨r_19, hC⟩
  · obtain rfl : r_1 = 1 := r_19
    have hC_3 := hC
    refine lv_if_eq (tgt := 26) hx hb dX6_out_4 (by decide) (fun h => absurd h (by decide)) (fun _ => ?_)
    refine lv_aload_n hx hb dX6_out_7 rfl (lv_at hl 0 rfl) ?_
    refine lv_iload_n hx hb dX6_out_8 rfl (lv_at hl 2 rfl) ?_
    have hPc := hP.sub (ws' := [(h0, .inr (6, [.ref tp, .int 0, .int 0, .int (-1), .ref rd, .ref gd, .ref im, .ref rw, .ref gn, .ref ho, .ref sq])), (gd, .inr (0, [.ref pl, .int 0, .long 0, .long 0, .int 0, .int (-1), .int 0, .ref gdt, .int 0, .ref gdu, .int 0, .ref gdn])), (pl, .inr (3, [.int 0, .int 0, .int 0, .int 0, .long 0, .ref plf, .ref plo, .ref plb, .ref pla]))]) [0, 1, 2] rfl
    have hDc := hD.sub (ws' := [(h0, .inr (6, [.ref tp, .int 0, .int 0, .int (-1), .ref rd, .ref gd, .ref im, .ref rw, .ref gn, .ref ho, .ref sq])), (gd, .inr (0, [.ref pl, .int 0, .long 0, .long 0, .int 0, .int (-1), .int 0, .ref gdt, .int 0, .ref gdu, .int 0, .ref gdn])), (pl, .inr (3, [.int 0, .int 0, .int 0, .int 0, .long 0, .ref plf, .ref plo, .ref plb, .ref pla]))]) [0, 1, 2] (by decide) rfl
    have hKc := hK.sub (tys' := []) [] rfl
    have hFc := va_free (wc := [(h0, .inr (6, [.ref tp, .int 0, .int 0, .int (-1), .ref rd, .ref gd, .ref im, .ref rw, .ref gn, .ref ho, .ref sq])), (gd, .inr (0, [.ref pl, .int 0, .long 0, .long 0, .int 0, .int (-1), .int 0, .ref gdt, .int 0, .ref gdu, .int 0, .ref gdn])), (pl, .inr (3, [.int 0, .int 0, .int 0, .int 0, .long 0, .ref plf, .ref plo, .ref plb, .ref pla]))]) hD hS hA [0, 1, 2] rfl
    refine va_calli (va_runV (As := [.int p1]) (rest := []) ⟨hx, hb, hml, hown, hts⟩ (c_X6_isCell l dC dI H.size h0 tp rd gd im rw gn ho sq pl gdt gdu gdn plf plo plb pla p1 ) (cwV 1 hts g_X6_out_X6_isCell rfl rfl rfl (by decide +kernel) ⟨Nat.le_of_ble_eq_true rfl, Nat.le_of_ble_eq_true rfl⟩) ⟨fun a U g mk q => by obtain ⟨q0, q1, qP, qK, qD⟩ := q; exact ⟨q0, q1, qP, va_K.moved (u := U) (U := U.calling g mk a) (Vm.Alike.refl U.vm) qK, qD⟩, va_recv hKc hPc (ci := 6) (q0 := 0) rfl rfl, fun U hU hW => ⟨rfl, by rw [hU], by rw [hU]; exact hPc, va_K.moved hW.alike hKc, hDc.weaken (fun _ _ _ _ => trivial)⟩⟩ rfl rfl hl.1 rfl (lv_room (Nat.le_of_ble_eq_true rfl)) dX6_out_9 ⟨Nat.le_of_ble_eq_true rfl, Nat.le_of_ble_eq_true rfl⟩) hS (fun q _ h => hFc q h) hFc (fun r_5 u t H1 locs ht hvm hw_6 hB hz1 hk1 hS => ?_)
    obtain ⟨hP1, hK1, hD1⟩ := hB
    have hP1 : va_P (dC, dI) vwCl [(h0, .inr (6, [.ref tp, .int 0, .int 0, .int (-1), .ref rd, .ref gd, .ref im, .ref rw, .ref gn, .ref ho, .ref sq])), (gd, .inr (0, [.ref pl, .int 0, .long 0, .long 0, .int 0, .int (-1), .int 0, .ref gdt, .int 0, .ref gdu, .int 0, .ref gdn])), (pl, .inr (3, [.int 0, .int 0, .int 0, .int 0, .long 0, .ref plf, .ref plo, .ref plb, .ref pla]))] t.heap := hP1
    rw [ht] at hP1
    try dsimp only at hw_6
    obtain ⟨hP, hD⟩ := va_join (wr := []) (w1 := [(h0, .inr (6, [.ref tp, .int 0, .int 0, .int (-1), .ref rd, .ref gd, .ref im, .ref rw, .ref gn, .ref ho, .ref sq])), (gd, .inr (0, [.ref pl, .int 0, .long 0, .long 0, .int 0, .int (-1), .int 0, .ref gdt, .int 0, .ref gdu, .int 0, .ref gdn])), (pl, .inr (3, [.int 0, .int 0, .int 0, .int 0, .long 0, .ref plf, .ref plo, .ref plb, .ref pla]))]) hP hD [0, 1, 2] [] rfl rfl (by decide) (by decide) hk1 hFc hP1 hD1
    generalize H1 = H at hP hS ⊢
    have hP : va_P (dC, dI) vwCl [(h0, .inr (6, [.ref tp, .int 0, .int 0, .int (-1), .ref rd, .ref gd, .ref im, .ref rw, .ref gn, .ref ho, .ref sq])), (gd, .inr (0, [.ref pl, .int 0, .long 0, .long 0, .int 0, .int (-1), .int 0, .ref gdt, .int 0, .ref gdu, .int 0, .ref gdn])), (pl, .inr (3, [.int 0, .int 0, .int 0, .int 0, .long 0, .ref plf, .ref plo, .ref plb, .ref pla]))] H := hP
    have hD : va_D A [(h0, .inr (6, [.ref tp, .int 0, .int 0, .int (-1), .ref rd, .ref gd, .ref im, .ref rw, .ref gn, .ref ho, .ref sq])), (gd, .inr (0, [.ref pl, .int 0, .long 0, .long 0, .int 0, .int (-1), .int 0, .ref gdt, .int 0, .ref gdu, .int 0, .ref gdn])), (pl, .inr (3, [.int 0, .int 0, .int 0, .int 0, .long 0, .ref plf, .ref plo, .ref plb, .ref pla]))] := hD
    obtain rfl : r_5 = 0 := hw_6
    refine lv_if_eq (tgt := 26) hx hb dX6_out_12 (by decide) (fun _ => ?_) (fun h => absurd (by decide) h)
    refine lv_bipush (v := -2) hx hb dX6_out_26 (by decide) ?_
    refine W.widen (k := 0) (n := 0) (by omega) (by omega) ?_
    exact W.iret (v := -2) hx hb hr (fun t ht hW => ⟨⟨(-2), (), rfl, (by first | rfl | ((repeat' split) <;> (first | rfl | (exfalso; omega)))), trivial⟩, hS.F ht⟩) hS.2.2 dX6_out_28
  · obtain rfl : r_1 = 0 := r_19
    have hC_8 := hC
    refine lv_if_eq (tgt := 26) hx hb dX6_out_4 (by decide) (fun _ => ?_) (fun h => absurd (by decide) h)
    refine lv_bipush (v := -2) hx hb dX6_out_26 (by decide) ?_
    refine W.widen (k := 0) (n := 0) (by omega) (by omega) ?_
    exact W.iret (v := -2) hx hb hr (fun t ht hW => ⟨⟨(-2), (), rfl, (by first | rfl | ((repeat' split) <;> (first | rfl | (exfalso; omega)))), trivial⟩, hS.F ht⟩) hS.2.2 dX6_out_28

theorem dX6_held_0 : decode cX6_held 0 = .ok (.aload_n 0, 1) := by decide +kernel
theorem dX6_held_1 : decode cX6_held 1 = .ok (.iload_n 1, 1) := by decide +kernel
theorem dX6_held_2 : decode cX6_held 2 = .ok (.invokevirtual 99, 3) := by decide +kernel
theorem dX6_held_5 : decode cX6_held 5 = .ok (.ifCond .eq 11, 3) := by decide +kernel
theorem dX6_held_16 : decode cX6_held 16 = .ok (.bipush (-2), 2) := by decide +kernel
theorem dX6_held_18 : decode cX6_held 18 = .ok (.ireturn, 1) := by decide +kernel
def wz_X6_held : List Cond := .code yX6_held cX6_held 4 (some .int) :: ([Cond.methodLink RX6 99 yX6_isCell, Cond.instanceMethod yX6_isCell, Cond.selects RX6 yX6_isCell yX6_isCell, Cond.initialized RX6, Cond.code yX6_isCell cX6_isCell 2 (some .boolean), Cond.fieldLink RX6 33 "HedgeMaze" "garden" "LHedgeMaze$Garden;", Cond.fieldLink RX6 90 "HedgeMaze$Garden" "plan" "LHedgeMaze$Plan;", Cond.fieldLink RX6 169 "HedgeMaze$Plan" "cellCount" "I"] ++ wsX60 ++ wsX00 ++ wsX30)
set_option maxRecDepth 20000 in
theorem g_X6_held_X6_isCell : GoodIn wz_X6_held (wsV RX6 99 RX6 yX6_isCell wz_X6_isCell) := goodIn_r _ [1, 2, 3, 4, 5, 6, 7, 8, 9, 10, 11, 12, 13, 14, 15, 16, 17, 18, 19, 20, 21, 22, 23, 24, 25, 26, 27, 28, 29, 30, 31, 32, 33, 34, 35, 36, 37, 38, 39, 40] rfl (by decide +kernel)
set_option maxHeartbeats 4000000 in
set_option maxRecDepth 100000 in
theorem c_X6_held (l : Launch) (dC : Nat → ClassId) (dI : Nat → Nat → Nat) (sz : Nat) (h0 : Nat) (tp : Nat) (rd : Nat) (gd : Nat) (im : Nat) (rw : Nat) (gn : Nat) (ho : Nat) (sq : Nat) (pl : Nat) (gdt : Nat) (gdu : Nat) (gdn : Nat) (plf : Nat) (plo : Nat) (plb : Nat) (pla : Nat) (p0 : Int32) (p1 : Int32) (p2 : Int32)  : Met l yX6_held wz_X6_held ({ frames := 1, cells := 0, slots := 0, locals := 21 }) (va_Pc [.ref h0, .int p0, .int p1, .int p2] (fun U => U.heap.size = sz ∧ va_P (dC, dI) vwCl [(h0, .inr (6, [.ref tp, .int 0, .int 0, .int (-1), .ref rd, .ref gd, .ref im, .ref rw, .ref gn, .ref ho, .ref sq])), (gd, .inr (0, [.ref pl, .int 0, .long 0, .long 0, .int 0, .int (-1), .int 0, .ref gdt, .int 0, .ref gdu, .int 0, .ref gdn])), (pl, .inr (3, [.int 0, .int 0, .int 0, .int 0, .long 0, .ref plf, .ref plo, .ref plb, .ref pla]))] U.heap ∧ va_K (dC, dI) vwCl [] U ∧ va_D (fun _ => True) [(h0, .inr (6, [.ref tp, .int 0, .int 0, .int (-1), .ref rd, .ref gd, .ref im, .ref rw, .ref gn, .ref ho, .ref sq])), (gd, .inr (0, [.ref pl, .int 0, .long 0, .long 0, .int 0, .int (-1), .int 0, .ref gdt, .int 0, .ref gdu, .int 0, .ref gdn])), (pl, .inr (3, [.int 0, .int 0, .int 0, .int 0, .long 0, .ref plf, .ref plo, .ref plb, .ref pla]))])) (va_Qi (fun (r : Int32) (u : Unit) => r = -2) (fun (_ : Unit) (_ : State) => True) (va_A [(h0, .inr (6, [.ref tp, .int 0, .int 0, .int (-1), .ref rd, .ref gd, .ref im, .ref rw, .ref gn, .ref ho, .ref sq])), (gd, .inr (0, [.ref pl, .int 0, .long 0, .long 0, .int 0, .int (-1), .int 0, .ref gdt, .int 0, .ref gdu, .int 0, .ref gdn])), (pl, .inr (3, [.int 0, .int 0, .int 0, .int 0, .long 0, .ref plf, .ref plo, .ref plb, .ref pla]))] sz)) 0 0 (va_A [(h0, .inr (6, [.ref tp, .int 0, .int 0, .int (-1), .ref rd, .ref gd, .ref im, .ref rw, .ref gn, .ref ho, .ref sq])), (gd, .inr (0, [.ref pl, .int 0, .long 0, .long 0, .int 0, .int (-1), .int 0, .ref gdt, .int 0, .ref gdu, .int 0, .ref gdn])), (pl, .inr (3, [.int 0, .int 0, .int 0, .int 0, .long 0, .ref plf, .ref plo, .ref plb, .ref pla]))] sz) := by
  refine Met.ofW (cc := cX6_held) (maxL := 4) (ret := (some .int)) (by decide) rfl ?_
  intro p e s m args below meth c s₁ B hml hv
  obtain ⟨rfl, hsz, hP, hK, hD0⟩ := hv
  have hx := B.exec
  have hb := B.bytes
  have hr := B.returns
  have hts := atoms_spec (ws := wz_X6_held) B.pre
  have hown : s.vm.findClass RX6 = some m.cls := findClass_of_methodNamed B.named
  have hlocks := B.notSynchronized
  subst hsz
  have hD := hD0.self (sz := s.heap.size)
  generalize hAe : va_A [(h0, .inr (6, [.ref tp, .int 0, .int 0, .int (-1), .ref rd, .ref gd, .ref im, .ref rw, .ref gn, .ref ho, .ref sq])), (gd, .inr (0, [.ref pl, .int 0, .long 0, .long 0, .int 0, .int (-1), .int 0, .ref gdt, .int 0, .ref gdu, .int 0, .ref gdn])), (pl, .inr (3, [.int 0, .int 0, .int 0, .int 0, .long 0, .ref plf, .ref plo, .ref plb, .ref pla]))] s.heap.size = A at hD ⊢
  have hA : ∀ q : Nat, s.heap.size ≤ q → A q := fun q h => by rw [← hAe]; exact Or.inr h
  have hS : va_S A s.heap s.heap [] := va_S.rf
  have hP : va_P (dC, dI) vwCl [(h0, .inr (6, [.ref tp, .int 0, .int 0, .int (-1), .ref rd, .ref gd, .ref im, .ref rw, .ref gn, .ref ho, .ref sq])), (gd, .inr (0, [.ref pl, .int 0, .long 0, .long 0, .int 0, .int (-1), .int 0, .ref gdt, .int 0, .ref gdu, .int 0, .ref gdn])), (pl, .inr (3, [.int 0, .int 0, .int 0, .int 0, .long 0, .ref plf, .ref plo, .ref plb, .ref pla]))] s.heap := hP
  have hl := lv_entry ([.ref h0, .int p0, .int p1, .int p2]) (n := 4) (Nat.le_of_ble_eq_true rfl)
  rw [lg_entry_eq]
  generalize (lg_sl ([.ref h0, .int p0, .int p1, .int p2]) ++ List.replicate (4 - (lg_sl ([.ref h0, .int p0, .int p1, .int p2])).length) Slot.unset).toArray = ls at hl ⊢
  have hl : lv_has ls 4 [(0, .ref h0), (1, .int p0), (2, .int p1), (3, .int p2)] := hl
  refine lv_aload_n hx hb dX6_held_0 rfl (lv_at hl 0 rfl) ?_
  refine lv_iload_n hx hb dX6_held_1 rfl (lv_at hl 1 rfl) ?_
  have hPc := hP.sub (ws' := [(h0, .inr (6, [.ref tp, .int 0, .int 0, .int (-1), .ref rd, .ref gd, .ref im, .ref rw, .ref gn, .ref ho, .ref sq])), (gd, .inr (0, [.ref pl, .int 0, .long 0, .long 0, .int 0, .int (-1), .int 0, .ref gdt, .int 0, .ref gdu, .int 0, .ref gdn])), (pl, .inr (3, [.int 0, .int 0, .int 0, .int 0, .long 0, .ref plf, .ref plo, .ref plb, .ref pla]))]) [0, 1, 2] rfl
  have hDc := hD.sub (ws' := [(h0, .inr (6, [.ref tp, .int 0, .int 0, .int (-1), .ref rd, .ref gd, .ref im, .ref rw, .ref gn, .ref ho, .ref sq])), (gd, .inr (0, [.ref pl, .int 0, .long 0, .long 0, .int 0, .int (-1), .int 0, .ref gdt, .int 0, .ref gdu, .int 0, .ref gdn])), (pl, .inr (3, [.int 0, .int 0, .int 0, .int 0, .long 0, .ref plf, .ref plo, .ref plb, .ref pla]))]) [0, 1, 2] (by decide) rfl
  have hKc := hK.sub (tys' := []) [] rfl
  have hFc := va_free (wc := [(h0, .inr (6, [.ref tp, .int 0, .int 0, .int (-1), .ref rd, .ref gd, .ref im, .ref rw, .ref gn, .ref ho, .ref sq])), (gd, .inr (0, [.ref pl, .int 0, .long 0, .long 0, .int 0, .int (-1), .int 0, .ref gdt, .int 0, .ref gdu, .int 0, .ref gdn])), (pl, .inr (3, [.int 0, .int 0, .int 0, .int 0, .long 0, .ref plf, .ref plo, .ref plb, .ref pla]))]) hD hS hA [0, 1, 2] rfl
  refine va_calli (va_runV (As := [.int p0]) (rest := []) ⟨hx, hb, hml, hown, hts⟩ (c_X6_isCell l dC dI s.heap.size h0 tp rd gd im rw gn ho sq pl gdt gdu gdn plf plo plb pla p0 ) (cwV 1 hts g_X6_held_X6_isCell rfl rfl rfl (by decide +kernel) ⟨Nat.le_of_ble_eq_true rfl, Nat.le_of_ble_eq_true rfl⟩) ⟨fun a U g mk q => by obtain ⟨q0, q1, qP, qK, qD⟩ := q; exact ⟨q0, q1, qP, va_K.moved (u := U) (U := U.calling g mk a) (Vm.Alike.refl U.vm) qK, qD⟩, va_recv hKc hPc (ci := 6) (q0 := 0) rfl rfl, fun U hU hW => ⟨rfl, by rw [hU], by rw [hU]; exact hPc, va_K.moved hW.alike hKc, hDc.weaken (fun _ _ _ _ => trivial)⟩⟩ rfl rfl hl.1 rfl (lv_room (Nat.le_of_ble_eq_true rfl)) dX6_held_2 ⟨Nat.le_of_ble_eq_true rfl, Nat.le_of_ble_eq_true rfl⟩) hS (fun q _ h => hFc q h) hFc (fun r_1 u t H1 locs ht hvm hw_2 hB hz1 hk1 hS => ?_)
  obtain ⟨hP1, hK1, hD1⟩ := hB
  have hP1 : va_P (dC, dI) vwCl [(h0, .inr (6, [.ref tp, .int 0, .int 0, .int (-1), .ref rd, .ref gd, .ref im, .ref rw, .ref gn, .ref ho, .ref sq])), (gd, .inr (0, [.ref pl, .int 0, .long 0, .long 0, .int 0, .int (-1), .int 0, .ref gdt, .int 0, .ref gdu, .int 0, .ref gdn])), (pl, .inr (3, [.int 0, .int 0, .int 0, .int 0, .long 0, .ref plf, .ref plo, .ref plb, .ref pla]))] t.heap := hP1
  rw [ht] at hP1
  try dsimp only at hw_2
  obtain ⟨hP, hD⟩ := va_join (wr := []) (w1 := [(h0, .inr (6, [.ref tp, .int 0, .int 0, .int (-1), .ref rd, .ref gd, .ref im, .ref rw, .ref gn, .ref ho, .ref sq])), (gd, .inr (0, [.ref pl, .int 0, .long 0, .long 0, .int 0, .int (-1), .int 0, .ref gdt, .int 0, .ref gdu, .int 0, .ref gdn])), (pl, .inr (3, [.int 0, .int 0, .int 0, .int 0, .long 0, .ref plf, .ref plo, .ref plb, .ref pla]))]) hP hD [0, 1, 2] [] rfl rfl (by decide) (by decide) hk1 hFc hP1 hD1
  generalize H1 = H at hP hS ⊢
  have hP : va_P (dC, dI) vwCl [(h0, .inr (6, [.ref tp, .int 0, .int 0, .int (-1), .ref rd, .ref gd, .ref im, .ref rw, .ref gn, .ref ho, .ref sq])), (gd, .inr (0, [.ref pl, .int 0, .long 0, .long 0, .int 0, .int (-1), .int 0, .ref gdt, .int 0, .ref gdu, .int 0, .ref gdn])), (pl, .inr (3, [.int 0, .int 0, .int 0, .int 0, .long 0, .ref plf, .ref plo, .ref plb, .ref pla]))] H := hP
  have hD : va_D A [(h0, .inr (6, [.ref tp, .int 0, .int 0, .int (-1), .ref rd, .ref gd, .ref im, .ref rw, .ref gn, .ref ho, .ref sq])), (gd, .inr (0, [.ref pl, .int 0, .long 0, .long 0, .int 0, .int (-1), .int 0, .ref gdt, .int 0, .ref gdu, .int 0, .ref gdn])), (pl, .inr (3, [.int 0, .int 0, .int 0, .int 0, .long 0, .ref plf, .ref plo, .ref plb, .ref pla]))] := hD
  obtain rfl : r_1 = 0 := hw_2
  refine lv_if_eq (tgt := 16) hx hb dX6_held_5 (by decide) (fun _ => ?_) (fun h => absurd (by decide) h)
  refine lv_bipush (v := -2) hx hb dX6_held_16 (by decide) ?_
  refine W.widen (k := 0) (n := 0) (by omega) (by omega) ?_
  exact W.iret (v := -2) hx hb hr (fun t ht hW => ⟨⟨(-2), (), rfl, (by first | rfl | ((repeat' split) <;> (first | rfl | (exfalso; omega)))), trivial⟩, hS.F ht⟩) hS.2.2 dX6_held_18

theorem dX6_hold_0 : decode cX6_hold 0 = .ok (.aload_n 0, 1) := by decide +kernel
theorem dX6_hold_1 : decode cX6_hold 1 = .ok (.invokevirtual 86, 3) := by decide +kernel
theorem dX6_hold_4 : decode cX6_hold 4 = .ok (.ifCond .eq 11, 3) := by decide +kernel
theorem dX6_hold_15 : decode cX6_hold 15 = .ok (.bipush (-2), 2) := by decide +kernel
theorem dX6_hold_17 : decode cX6_hold 17 = .ok (.ireturn, 1) := by decide +kernel
def wz_X6_hold : List Cond := .code yX6_hold cX6_hold 3 (some .int) :: ([Cond.methodLink RX6 86 yX6_hasMaze, Cond.instanceMethod yX6_hasMaze, Cond.selects RX6 yX6_hasMaze yX6_hasMaze, Cond.initialized RX6, Cond.code yX6_hasMaze cX6_hasMaze 1 (some .boolean), Cond.fieldLink RX6 33 "HedgeMaze" "garden" "LHedgeMaze$Garden;", Cond.fieldLink RX6 83 "HedgeMaze$Garden" "lines" "I"] ++ wsX60 ++ wsX00)
set_option maxRecDepth 20000 in
theorem g_X6_hold_X6_hasMaze : GoodIn wz_X6_hold (wsV RX6 86 RX6 yX6_hasMaze wz_X6_hasMaze) := goodIn_r _ [1, 2, 3, 4, 5, 6, 7, 8, 9, 10, 11, 12, 13, 14, 15, 16, 17, 18, 19, 20, 21, 22, 23, 24, 25, 26, 27, 28, 29, 30] rfl (by decide +kernel)
set_option maxHeartbeats 4000000 in
set_option maxRecDepth 100000 in
theorem c_X6_hold (l : Launch) (dC : Nat → ClassId) (dI : Nat → Nat → Nat) (sz : Nat) (h0 : Nat) (tp : Nat) (rd : Nat) (gd : Nat) (im : Nat) (rw : Nat) (gn : Nat) (ho : Nat) (sq : Nat) (pl : Nat) (gdt : Nat) (gdu : Nat) (gdn : Nat) (plf : Nat) (plo : Nat) (plb : Nat) (pla : Nat) (p0 : Int32) (p1 : Int32)  : Met l yX6_hold wz_X6_hold ({ frames := 1, cells := 0, slots := 0, locals := 20 }) (va_Pc [.ref h0, .int p0, .int p1] (fun U => U.heap.size = sz ∧ va_P (dC, dI) vwCl [(h0, .inr (6, [.ref tp, .int 0, .int 0, .int (-1), .ref rd, .ref gd, .ref im, .ref rw, .ref gn, .ref ho, .ref sq])), (gd, .inr (0, [.ref pl, .int 0, .long 0, .long 0, .int 0, .int (-1), .int 0, .ref gdt, .int 0, .ref gdu, .int 0, .ref gdn])), (pl, .inr (3, [.int 0, .int 0, .int 0, .int 0, .long 0, .ref plf, .ref plo, .ref plb, .ref pla]))] U.heap ∧ va_K (dC, dI) vwCl [] U ∧ va_D (fun _ => True) [(h0, .inr (6, [.ref tp, .int 0, .int 0, .int (-1), .ref rd, .ref gd, .ref im, .ref rw, .ref gn, .ref ho, .ref sq])), (gd, .inr (0, [.ref pl, .int 0, .long 0, .long 0, .int 0, .int (-1), .int 0, .ref gdt, .int 0, .ref gdu, .int 0, .ref gdn])), (pl, .inr (3, [.int 0, .int 0, .int 0, .int 0, .long 0, .ref plf, .ref plo, .ref plb, .ref pla]))])) (va_Qi (fun (r : Int32) (u : Unit) => r = -2) (fun (_ : Unit) (_ : State) => True) (va_A [(h0, .inr (6, [.ref tp, .int 0, .int 0, .int (-1), .ref rd, .ref gd, .ref im, .ref rw, .ref gn, .ref ho, .ref sq])), (gd, .inr (0, [.ref pl, .int 0, .long 0, .long 0, .int 0, .int (-1), .int 0, .ref gdt, .int 0, .ref gdu, .int 0, .ref gdn])), (pl, .inr (3, [.int 0, .int 0, .int 0, .int 0, .long 0, .ref plf, .ref plo, .ref plb, .ref pla]))] sz)) 0 0 (va_A [(h0, .inr (6, [.ref tp, .int 0, .int 0, .int (-1), .ref rd, .ref gd, .ref im, .ref rw, .ref gn, .ref ho, .ref sq])), (gd, .inr (0, [.ref pl, .int 0, .long 0, .long 0, .int 0, .int (-1), .int 0, .ref gdt, .int 0, .ref gdu, .int 0, .ref gdn])), (pl, .inr (3, [.int 0, .int 0, .int 0, .int 0, .long 0, .ref plf, .ref plo, .ref plb, .ref pla]))] sz) := by
  refine Met.ofW (cc := cX6_hold) (maxL := 3) (ret := (some .int)) (by decide) rfl ?_
  intro p e s m args below meth c s₁ B hml hv
  obtain ⟨rfl, hsz, hP, hK, hD0⟩ := hv
  have hx := B.exec
  have hb := B.bytes
  have hr := B.returns
  have hts := atoms_spec (ws := wz_X6_hold) B.pre
  have hown : s.vm.findClass RX6 = some m.cls := findClass_of_methodNamed B.named
  have hlocks := B.notSynchronized
  subst hsz
  have hD := hD0.self (sz := s.heap.size)
  generalize hAe : va_A [(h0, .inr (6, [.ref tp, .int 0, .int 0, .int (-1), .ref rd, .ref gd, .ref im, .ref rw, .ref gn, .ref ho, .ref sq])), (gd, .inr (0, [.ref pl, .int 0, .long 0, .long 0, .int 0, .int (-1), .int 0, .ref gdt, .int 0, .ref gdu, .int 0, .ref gdn])), (pl, .inr (3, [.int 0, .int 0, .int 0, .int 0, .long 0, .ref plf, .ref plo, .ref plb, .ref pla]))] s.heap.size = A at hD ⊢
  have hA : ∀ q : Nat, s.heap.size ≤ q → A q := fun q h => by rw [← hAe]; exact Or.inr h
  have hS : va_S A s.heap s.heap [] := va_S.rf
  have hP : va_P (dC, dI) vwCl [(h0, .inr (6, [.ref tp, .int 0, .int 0, .int (-1), .ref rd, .ref gd, .ref im, .ref rw, .ref gn, .ref ho, .ref sq])), (gd, .inr (0, [.ref pl, .int 0, .long 0, .long 0, .int 0, .int (-1), .int 0, .ref gdt, .int 0, .ref gdu, .int 0, .ref gdn])), (pl, .inr (3, [.int 0, .int 0, .int 0, .int 0, .long 0, .ref plf, .ref plo, .ref plb, .ref pla]))] s.heap := hP
  have hl := lv_entry ([.ref h0, .int p0, .int p1]) (n := 3) (Nat.le_of_ble_eq_true rfl)
  rw [lg_entry_eq]
  generalize (lg_sl ([.ref h0, .int p0, .int p1]) ++ List.replicate (3 - (lg_sl ([.ref h0, .int p0, .int p1])).length) Slot.unset).toArray = ls at hl ⊢
  have hl : lv_has ls 3 [(0, .ref h0), (1, .int p0), (2, .int p1)] := hl
  refine lv_aload_n hx hb dX6_hold_0 rfl (lv_at hl 0 rfl) ?_
  have hPc := hP.sub (ws' := [(h0, .inr (6, [.ref tp, .int 0, .int 0, .int (-1), .ref rd, .ref gd, .ref im, .ref rw, .ref gn, .ref ho, .ref sq])), (gd, .inr (0, [.ref pl, .int 0, .long 0, .long 0, .int 0, .int (-1), .int 0, .ref gdt, .int 0, .ref gdu, .int 0, .ref gdn]))]) [0, 1] rfl
  have hDc := hD.sub (ws' := [(h0, .inr (6, [.ref tp, .int 0, .int 0, .int (-1), .ref rd, .ref gd, .ref im, .ref rw, .ref gn, .ref ho, .ref sq])), (gd, .inr (0, [.ref pl, .int 0, .long 0, .long 0, .int 0, .int (-1), .int 0, .ref gdt, .int 0, .ref gdu, .int 0, .ref gdn]))]) [0, 1] (by decide) rfl
  have hKc := hK.sub (tys' := []) [] rfl
  have hFc := va_free (wc := [(h0, .inr (6, [.ref tp, .int 0, .int 0, .int (-1), .ref rd, .ref gd, .ref im, .ref rw, .ref gn, .ref ho, .ref sq])), (gd, .inr (0, [.ref pl, .int 0, .long 0, .long 0, .int 0, .int (-1), .int 0, .ref gdt, .int 0, .ref gdu, .int 0, .ref gdn]))]) hD hS hA [0, 1] rfl
  refine va_calli (va_runV (As := []) (rest := []) ⟨hx, hb, hml, hown, hts⟩ (c_X6_hasMaze l dC dI s.heap.size h0 tp rd gd im rw gn ho sq pl gdt gdu gdn ) (cwV 0 hts g_X6_hold_X6_hasMaze rfl rfl rfl (by decide +kernel) ⟨Nat.le_of_ble_eq_true rfl, Nat.le_of_ble_eq_true rfl⟩) ⟨fun a U g mk q => by obtain ⟨q0, q1, qP, qK, qD⟩ := q; exact ⟨q0, q1, qP, va_K.moved (u := U) (U := U.calling g mk a) (Vm.Alike.refl U.vm) qK, qD⟩, va_recv hKc hPc (ci := 6) (q0 := 0) rfl rfl, fun U hU hW => ⟨rfl, by rw [hU], by rw [hU]; exact hPc, va_K.moved hW.alike hKc, hDc.weaken (fun _ _ _ _ => trivial)⟩⟩ rfl rfl hl.1 rfl (lv_room (Nat.le_of_ble_eq_true rfl)) dX6_hold_1 ⟨Nat.le_of_ble_eq_true rfl, Nat.le_of_ble_eq_true rfl⟩) hS (fun q _ h => hFc q h) hFc (fun r_1 u t H1 locs ht hvm hw_2 hB hz1 hk1 hS => ?_)
  obtain ⟨hP1, hK1, hD1⟩ := hB
  have hP1 : va_P (dC, dI) vwCl [(h0, .inr (6, [.ref tp, .int 0, .int 0, .int (-1), .ref rd, .ref gd, .ref im, .ref rw, .ref gn, .ref ho, .ref sq])), (gd, .inr (0, [.ref pl, .int 0, .long 0, .long 0, .int 0, .int (-1), .int 0, .ref gdt, .int 0, .ref gdu, .int 0, .ref gdn]))] t.heap := hP1
  rw [ht] at hP1
  try dsimp only at hw_2
  obtain ⟨hP, hD⟩ := va_join (wr := [(pl, .inr (3, [.int 0, .int 0, .int 0, .int 0, .long 0, .ref plf, .ref plo, .ref plb, .ref pla]))]) (w1 := [(h0, .inr (6, [.ref tp, .int 0, .int 0, .int (-1), .ref rd, .ref gd, .ref im, .ref rw, .ref gn, .ref ho, .ref sq])), (gd, .inr (0, [.ref pl, .int 0, .long 0, .long 0, .int 0, .int (-1), .int 0, .ref gdt, .int 0, .ref gdu, .int 0, .ref gdn]))]) hP hD [0, 1] [2] rfl rfl (by decide) (by decide) hk1 hFc hP1 hD1
  generalize H1 = H at hP hS ⊢
  have hP : va_P (dC, dI) vwCl [(pl, .inr (3, [.int 0, .int 0, .int 0, .int 0, .long 0, .ref plf, .ref plo, .ref plb, .ref pla])), (h0, .inr (6, [.ref tp, .int 0, .int 0, .int (-1), .ref rd, .ref gd, .ref im, .ref rw, .ref gn, .ref ho, .ref sq])), (gd, .inr (0, [.ref pl, .int 0, .long 0, .long 0, .int 0, .int (-1), .int 0, .ref gdt, .int 0, .ref gdu, .int 0, .ref gdn]))] H := hP
  have hD : va_D A [(pl, .inr (3, [.int 0, .int 0, .int 0, .int 0, .long 0, .ref plf, .ref plo, .ref plb, .ref pla])), (h0, .inr (6, [.ref tp, .int 0, .int 0, .int (-1), .ref rd, .ref gd, .ref im, .ref rw, .ref gn, .ref ho, .ref sq])), (gd, .inr (0, [.ref pl, .int 0, .long 0, .long 0, .int 0, .int (-1), .int 0, .ref gdt, .int 0, .ref gdu, .int 0, .ref gdn]))] := hD
  obtain rfl : r_1 = 0 := hw_2
  refine lv_if_eq (tgt := 15) hx hb dX6_hold_4 (by decide) (fun _ => ?_) (fun h => absurd (by decide) h)
  refine lv_bipush (v := -2) hx hb dX6_hold_15 (by decide) ?_
  refine W.widen (k := 0) (n := 0) (by omega) (by omega) ?_
  exact W.iret (v := -2) hx hb hr (fun t ht hW => ⟨⟨(-2), (), rfl, (by first | rfl | ((repeat' split) <;> (first | rfl | (exfalso; omega)))), trivial⟩, hS.F ht⟩) hS.2.2 dX6_hold_17

theorem dX6_worst_0 : decode cX6_worst 0 = .ok (.aload_n 0, 1) := by decide +kernel
theorem dX6_worst_1 : decode cX6_worst 1 = .ok (.iload_n 1, 1) := by decide +kernel
theorem dX6_worst_2 : decode cX6_worst 2 = .ok (.invokevirtual 99, 3) := by decide +kernel
theorem dX6_worst_5 : decode cX6_worst 5 = .ok (.ifCond .ne 6, 3) := by decide +kernel
theorem dX6_worst_8 : decode cX6_worst 8 = .ok (.bipush (-2), 2) := by decide +kernel
theorem dX6_worst_10 : decode cX6_worst 10 = .ok (.ireturn, 1) := by decide +kernel
def wz_X6_worst : List Cond := .code yX6_worst cX6_worst 8 (some .int) :: ([Cond.methodLink RX6 99 yX6_isCell, Cond.instanceMethod yX6_isCell, Cond.selects RX6 yX6_isCell yX6_isCell, Cond.initialized RX6, Cond.code yX6_isCell cX6_isCell 2 (some .boolean), Cond.fieldLink RX6 33 "HedgeMaze" "garden" "LHedgeMaze$Garden;", Cond.fieldLink RX6 90 "HedgeMaze$Garden" "plan" "LHedgeMaze$Plan;", Cond.fieldLink RX6 169 "HedgeMaze$Plan" "cellCount" "I"] ++ wsX60 ++ wsX00 ++ wsX30)
set_option maxRecDepth 20000 in
theorem g_X6_worst_X6_isCell : GoodIn wz_X6_worst (wsV RX6 99 RX6 yX6_isCell wz_X6_isCell) := goodIn_r _ [1, 2, 3, 4, 5, 6, 7, 8, 9, 10, 11, 12, 13, 14, 15, 16, 17, 18, 19, 20, 21, 22, 23, 24, 25, 26, 27, 28, 29, 30, 31, 32, 33, 34, 35, 36, 37, 38, 39, 40] rfl (by decide +kernel)
set_option maxHeartbeats 4000000 in
set_option maxRecDepth 100000 in
theorem c_X6_worst (l : Launch) (dC : Nat → ClassId) (dI : Nat → Nat → Nat) (sz : Nat) (h0 : Nat) (tp : Nat) (rd : Nat) (gd : Nat) (im : Nat) (rw : Nat) (gn : Nat) (ho : Nat) (sq : Nat) (pl : Nat) (gdt : Nat) (gdu : Nat) (gdn : Nat) (plf : Nat) (plo : Nat) (plb : Nat) (pla : Nat) (p0 : Int32)  : Met l yX6_worst wz_X6_worst ({ frames := 1, cells := 0, slots := 0, locals := 21 }) (va_Pc [.ref h0, .int p0] (fun U => U.heap.size = sz ∧ va_P (dC, dI) vwCl [(h0, .inr (6, [.ref tp, .int 0, .int 0, .int (-1), .ref rd, .ref gd, .ref im, .ref rw, .ref gn, .ref ho, .ref sq])), (gd, .inr (0, [.ref pl, .int 0, .long 0, .long 0, .int 0, .int (-1), .int 0, .ref gdt, .int 0, .ref gdu, .int 0, .ref gdn])), (pl, .inr (3, [.int 0, .int 0, .int 0, .int 0, .long 0, .ref plf, .ref plo, .ref plb, .ref pla]))] U.heap ∧ va_K (dC, dI) vwCl [] U ∧ va_D (fun _ => True) [(h0, .inr (6, [.ref tp, .int 0, .int 0, .int (-1), .ref rd, .ref gd, .ref im, .ref rw, .ref gn, .ref ho, .ref sq])), (gd, .inr (0, [.ref pl, .int 0, .long 0, .long 0, .int 0, .int (-1), .int 0, .ref gdt, .int 0, .ref gdu, .int 0, .ref gdn])), (pl, .inr (3, [.int 0, .int 0, .int 0, .int 0, .long 0, .ref plf, .ref plo, .ref plb, .ref pla]))])) (va_Qi (fun (r : Int32) (u : Unit) => r = -2) (fun (_ : Unit) (_ : State) => True) (va_A [(h0, .inr (6, [.ref tp, .int 0, .int 0, .int (-1), .ref rd, .ref gd, .ref im, .ref rw, .ref gn, .ref ho, .ref sq])), (gd, .inr (0, [.ref pl, .int 0, .long 0, .long 0, .int 0, .int (-1), .int 0, .ref gdt, .int 0, .ref gdu, .int 0, .ref gdn])), (pl, .inr (3, [.int 0, .int 0, .int 0, .int 0, .long 0, .ref plf, .ref plo, .ref plb, .ref pla]))] sz)) 0 0 (va_A [(h0, .inr (6, [.ref tp, .int 0, .int 0, .int (-1), .ref rd, .ref gd, .ref im, .ref rw, .ref gn, .ref ho, .ref sq])), (gd, .inr (0, [.ref pl, .int 0, .long 0, .long 0, .int 0, .int (-1), .int 0, .ref gdt, .int 0, .ref gdu, .int 0, .ref gdn])), (pl, .inr (3, [.int 0, .int 0, .int 0, .int 0, .long 0, .ref plf, .ref plo, .ref plb, .ref pla]))] sz) := by
  refine Met.ofW (cc := cX6_worst) (maxL := 8) (ret := (some .int)) (by decide) rfl ?_
  intro p e s m args below meth c s₁ B hml hv
  obtain ⟨rfl, hsz, hP, hK, hD0⟩ := hv
  have hx := B.exec
  have hb := B.bytes
  have hr := B.returns
  have hts := atoms_spec (ws := wz_X6_worst) B.pre
  have hown : s.vm.findClass RX6 = some m.cls := findClass_of_methodNamed B.named
  have hlocks := B.notSynchronized
  subst hsz
  have hD := hD0.self (sz := s.heap.size)
  generalize hAe : va_A [(h0, .inr (6, [.ref tp, .int 0, .int 0, .int (-1), .ref rd, .ref gd, .ref im, .ref rw, .ref gn, .ref ho, .ref sq])), (gd, .inr (0, [.ref pl, .int 0, .long 0, .long 0, .int 0, .int (-1), .int 0, .ref gdt, .int 0, .ref gdu, .int 0, .ref gdn])), (pl, .inr (3, [.int 0, .int 0, .int 0, .int 0, .long 0, .ref plf, .ref plo, .ref plb, .ref pla]))] s.heap.size = A at hD ⊢
  have hA : ∀ q : Nat, s.heap.size ≤ q → A q := fun q h => by rw [← hAe]; exact Or.inr h
  have hS : va_S A s.heap s.heap [] := va_S.rf
  have hP : va_P (dC, dI) vwCl [(h0, .inr (6, [.ref tp, .int 0, .int 0, .int (-1), .ref rd, .ref gd, .ref im, .ref rw, .ref gn, .ref ho, .ref sq])), (gd, .inr (0, [.ref pl, .int 0, .long 0, .long 0, .int 0, .int (-1), .int 0, .ref gdt, .int 0, .ref gdu, .int 0, .ref gdn])), (pl, .inr (3, [.int 0, .int 0, .int 0, .int 0, .long 0, .ref plf, .ref plo, .ref plb, .ref pla]))] s.heap := hP
  have hl := lv_entry ([.ref h0, .int p0]) (n := 8) (Nat.le_of_ble_eq_true rfl)
  rw [lg_entry_eq]
  generalize (lg_sl ([.ref h0, .int p0]) ++ List.replicate (8 - (lg_sl ([.ref h0, .int p0])).length) Slot.unset).toArray = ls at hl ⊢
  have hl : lv_has ls 8 [(0, .ref h0), (1, .int p0)] := hl
  refine lv_aload_n hx hb dX6_worst_0 rfl (lv_at hl 0 rfl) ?_
  refine lv_iload_n hx hb dX6_worst_1 rfl (lv_at hl 1 rfl) ?_
  have hPc := hP.sub (ws' := [(h0, .inr (6, [.ref tp, .int 0, .int 0, .int (-1), .ref rd, .ref gd, .ref im, .ref rw, .ref gn, .ref ho, .ref sq])), (gd, .inr (0, [.ref pl, .int 0, .long 0, .long 0, .int 0, .int (-1), .int 0, .ref gdt, .int 0, .ref gdu, .int 0, .ref gdn])), (pl, .inr (3, [.int 0, .int 0, .int 0, .int 0, .long 0, .ref plf, .ref plo, .ref plb, .ref pla]))]) [0, 1, 2] rfl
  have hDc := hD.sub (ws' := [(h0, .inr (6, [.ref tp, .int 0, .int 0, .int (-1), .ref rd, .ref gd, .ref im, .ref rw, .ref gn, .ref ho, .ref sq])), (gd, .inr (0, [.ref pl, .int 0, .long 0, .long 0, .int 0, .int (-1), .int 0, .ref gdt, .int 0, .ref gdu, .int 0, .ref gdn])), (pl, .inr (3, [.int 0, .int 0, .int 0, .int 0, .long 0, .ref plf, .ref plo, .ref plb, .ref pla]))]) [0, 1, 2] (by decide) rfl
  have hKc := hK.sub (tys' := []) [] rfl
  have hFc := va_free (wc := [(h0, .inr (6, [.ref tp, .int 0, .int 0, .int (-1), .ref rd, .ref gd, .ref im, .ref rw, .ref gn, .ref ho, .ref sq])), (gd, .inr (0, [.ref pl, .int 0, .long 0, .long 0, .int 0, .int (-1), .int 0, .ref gdt, .int 0, .ref gdu, .int 0, .ref gdn])), (pl, .inr (3, [.int 0, .int 0, .int 0, .int 0, .long 0, .ref plf, .ref plo, .ref plb, .ref pla]))]) hD hS hA [0, 1, 2] rfl
  refine va_calli (va_runV (As := [.int p0]) (rest := []) ⟨hx, hb, hml, hown, hts⟩ (c_X6_isCell l dC dI s.heap.size h0 tp rd gd im rw gn ho sq pl gdt gdu gdn plf plo plb pla p0 ) (cwV 1 hts g_X6_worst_X6_isCell rfl rfl rfl (by decide +kernel) ⟨Nat.le_of_ble_eq_true rfl, Nat.le_of_ble_eq_true rfl⟩) ⟨fun a U g mk q => by obtain ⟨q0, q1, qP, qK, qD⟩ := q; exact ⟨q0, q1, qP, va_K.moved (u := U) (U := U.calling g mk a) (Vm.Alike.refl U.vm) qK, qD⟩, va_recv hKc hPc (ci := 6) (q0 := 0) rfl rfl, fun U hU hW => ⟨rfl, by rw [hU], by rw [hU]; exact hPc, va_K.moved hW.alike hKc, hDc.weaken (fun _ _ _ _ => trivial)⟩⟩ rfl rfl hl.1 rfl (lv_room (Nat.le_of_ble_eq_true rfl)) dX6_worst_2 ⟨Nat.le_of_ble_eq_true rfl, Nat.le_of_ble_eq_true rfl⟩) hS (fun q _ h => hFc q h) hFc (fun r_1 u t H1 locs ht hvm hw_2 hB hz1 hk1 hS => ?_)
  obtain ⟨hP1, hK1, hD1⟩ := hB
  have hP1 : va_P (dC, dI) vwCl [(h0, .inr (6, [.ref tp, .int 0, .int 0, .int (-1), .ref rd, .ref gd, .ref im, .ref rw, .ref gn, .ref ho, .ref sq])), (gd, .inr (0, [.ref pl, .int 0, .long 0, .long 0, .int 0, .int (-1), .int 0, .ref gdt, .int 0, .ref gdu, .int 0, .ref gdn])), (pl, .inr (3, [.int 0, .int 0, .int 0, .int 0, .long 0, .ref plf, .ref plo, .ref plb, .ref pla]))] t.heap := hP1
  rw [ht] at hP1
  try dsimp only at hw_2
  obtain ⟨hP, hD⟩ := va_join (wr := []) (w1 := [(h0, .inr (6, [.ref tp, .int 0, .int 0, .int (-1), .ref rd, .ref gd, .ref im, .ref rw, .ref gn, .ref ho, .ref sq])), (gd, .inr (0, [.ref pl, .int 0, .long 0, .long 0, .int 0, .int (-1), .int 0, .ref gdt, .int 0, .ref gdu, .int 0, .ref gdn])), (pl, .inr (3, [.int 0, .int 0, .int 0, .int 0, .long 0, .ref plf, .ref plo, .ref plb, .ref pla]))]) hP hD [0, 1, 2] [] rfl rfl (by decide) (by decide) hk1 hFc hP1 hD1
  generalize H1 = H at hP hS ⊢
  have hP : va_P (dC, dI) vwCl [(h0, .inr (6, [.ref tp, .int 0, .int 0, .int (-1), .ref rd, .ref gd, .ref im, .ref rw, .ref gn, .ref ho, .ref sq])), (gd, .inr (0, [.ref pl, .int 0, .long 0, .long 0, .int 0, .int (-1), .int 0, .ref gdt, .int 0, .ref gdu, .int 0, .ref gdn])), (pl, .inr (3, [.int 0, .int 0, .int 0, .int 0, .long 0, .ref plf, .ref plo, .ref plb, .ref pla]))] H := hP
  have hD : va_D A [(h0, .inr (6, [.ref tp, .int 0, .int 0, .int (-1), .ref rd, .ref gd, .ref im, .ref rw, .ref gn, .ref ho, .ref sq])), (gd, .inr (0, [.ref pl, .int 0, .long 0, .long 0, .int 0, .int (-1), .int 0, .ref gdt, .int 0, .ref gdu, .int 0, .ref gdn])), (pl, .inr (3, [.int 0, .int 0, .int 0, .int 0, .long 0, .ref plf, .ref plo, .ref plb, .ref pla]))] := hD
  obtain rfl : r_1 = 0 := hw_2
  refine lv_if_ne (tgt := 11) hx hb dX6_worst_5 (by decide) (fun h => absurd (by decide) h) (fun _ => ?_)
  refine lv_bipush (v := -2) hx hb dX6_worst_8 (by decide) ?_
  refine W.widen (k := 0) (n := 0) (by omega) (by omega) ?_
  exact W.iret (v := -2) hx hb hr (fun t ht hW => ⟨⟨(-2), (), rfl, (by first | rfl | ((repeat' split) <;> (first | rfl | (exfalso; omega)))), trivial⟩, hS.F ht⟩) hS.2.2 dX6_worst_10

theorem dX6_meet_0 : decode cX6_meet 0 = .ok (.aload_n 0, 1) := by decide +kernel
theorem dX6_meet_1 : decode cX6_meet 1 = .ok (.invokevirtual 86, 3) := by decide +kernel
theorem dX6_meet_4 : decode cX6_meet 4 = .ok (.ifCond .eq 12, 3) := by decide +kernel
theorem dX6_meet_16 : decode cX6_meet 16 = .ok (.bipush (-2), 2) := by decide +kernel
theorem dX6_meet_18 : decode cX6_meet 18 = .ok (.ireturn, 1) := by decide +kernel
def wz_X6_meet : List Cond := .code yX6_meet cX6_meet 3 (some .int) :: ([Cond.methodLink RX6 86 yX6_hasMaze, Cond.instanceMethod yX6_hasMaze, Cond.selects RX6 yX6_hasMaze yX6_hasMaze, Cond.initialized RX6, Cond.code yX6_hasMaze cX6_hasMaze 1 (some .boolean), Cond.fieldLink RX6 33 "HedgeMaze" "garden" "LHedgeMaze$Garden;", Cond.fieldLink RX6 83 "HedgeMaze$Garden" "lines" "I"] ++ wsX60 ++ wsX00)
set_option maxRecDepth 20000 in
theorem g_X6_meet_X6_hasMaze : GoodIn wz_X6_meet (wsV RX6 86 RX6 yX6_hasMaze wz_X6_hasMaze) := goodIn_r _ [1, 2, 3, 4, 5, 6, 7, 8, 9, 10, 11, 12, 13, 14, 15, 16, 17, 18, 19, 20, 21, 22, 23, 24, 25, 26, 27, 28, 29, 30] rfl (by decide +kernel)
set_option maxHeartbeats 4000000 in
set_option maxRecDepth 100000 in
theorem c_X6_meet (l : Launch) (dC : Nat → ClassId) (dI : Nat → Nat → Nat) (sz : Nat) (h0 : Nat) (tp : Nat) (rd : Nat) (gd : Nat) (im : Nat) (rw : Nat) (gn : Nat) (ho : Nat) (sq : Nat) (pl : Nat) (gdt : Nat) (gdu : Nat) (gdn : Nat) (plf : Nat) (plo : Nat) (plb : Nat) (pla : Nat) (p0 : Int32)  : Met l yX6_meet wz_X6_meet ({ frames := 1, cells := 0, slots := 0, locals := 20 }) (va_Pc [.ref h0, .int p0] (fun U => U.heap.size = sz ∧ va_P (dC, dI) vwCl [(h0, .inr (6, [.ref tp, .int 0, .int 0, .int (-1), .ref rd, .ref gd, .ref im, .ref rw, .ref gn, .ref ho, .ref sq])), (gd, .inr (0, [.ref pl, .int 0, .long 0, .long 0, .int 0, .int (-1), .int 0, .ref gdt, .int 0, .ref gdu, .int 0, .ref gdn])), (pl, .inr (3, [.int 0, .int 0, .int 0, .int 0, .long 0, .ref plf, .ref plo, .ref plb, .ref pla]))] U.heap ∧ va_K (dC, dI) vwCl [] U ∧ va_D (fun _ => True) [(h0, .inr (6, [.ref tp, .int 0, .int 0, .int (-1), .ref rd, .ref gd, .ref im, .ref rw, .ref gn, .ref ho, .ref sq])), (gd, .inr (0, [.ref pl, .int 0, .long 0, .long 0, .int 0, .int (-1), .int 0, .ref gdt, .int 0, .ref gdu, .int 0, .ref gdn])), (pl, .inr (3, [.int 0, .int 0, .int 0, .int 0, .long 0, .ref plf, .ref plo, .ref plb, .ref pla]))])) (va_Qi (fun (r : Int32) (u : Unit) => r = -2) (fun (_ : Unit) (_ : State) => True) (va_A [(h0, .inr (6, [.ref tp, .int 0, .int 0, .int (-1), .ref rd, .ref gd, .ref im, .ref rw, .ref gn, .ref ho, .ref sq])), (gd, .inr (0, [.ref pl, .int 0, .long 0, .long 0, .int 0, .int (-1), .int 0, .ref gdt, .int 0, .ref gdu, .int 0, .ref gdn])), (pl, .inr (3, [.int 0, .int 0, .int 0, .int 0, .long 0, .ref plf, .ref plo, .ref plb, .ref pla]))] sz)) 0 0 (va_A [(h0, .inr (6, [.ref tp, .int 0, .int 0, .int (-1), .ref rd, .ref gd, .ref im, .ref rw, .ref gn, .ref ho, .ref sq])), (gd, .inr (0, [.ref pl, .int 0, .long 0, .long 0, .int 0, .int (-1), .int 0, .ref gdt, .int 0, .ref gdu, .int 0, .ref gdn])), (pl, .inr (3, [.int 0, .int 0, .int 0, .int 0, .long 0, .ref plf, .ref plo, .ref plb, .ref pla]))] sz) := by
  refine Met.ofW (cc := cX6_meet) (maxL := 3) (ret := (some .int)) (by decide) rfl ?_
  intro p e s m args below meth c s₁ B hml hv
  obtain ⟨rfl, hsz, hP, hK, hD0⟩ := hv
  have hx := B.exec
  have hb := B.bytes
  have hr := B.returns
  have hts := atoms_spec (ws := wz_X6_meet) B.pre
  have hown : s.vm.findClass RX6 = some m.cls := findClass_of_methodNamed B.named
  have hlocks := B.notSynchronized
  subst hsz
  have hD := hD0.self (sz := s.heap.size)
  generalize hAe : va_A [(h0, .inr (6, [.ref tp, .int 0, .int 0, .int (-1), .ref rd, .ref gd, .ref im, .ref rw, .ref gn, .ref ho, .ref sq])), (gd, .inr (0, [.ref pl, .int 0, .long 0, .long 0, .int 0, .int (-1), .int 0, .ref gdt, .int 0, .ref gdu, .int 0, .ref gdn])), (pl, .inr (3, [.int 0, .int 0, .int 0, .int 0, .long 0, .ref plf, .ref plo, .ref plb, .ref pla]))] s.heap.size = A at hD ⊢
  have hA : ∀ q : Nat, s.heap.size ≤ q → A q := fun q h => by rw [← hAe]; exact Or.inr h
  have hS : va_S A s.heap s.heap [] := va_S.rf
  have hP : va_P (dC, dI) vwCl [(h0, .inr (6, [.ref tp, .int 0, .int 0, .int (-1), .ref rd, .ref gd, .ref im, .ref rw, .ref gn, .ref ho, .ref sq])), (gd, .inr (0, [.ref pl, .int 0, .long 0, .long 0, .int 0, .int (-1), .int 0, .ref gdt, .int 0, .ref gdu, .int 0, .ref gdn])), (pl, .inr (3, [.int 0, .int 0, .int 0, .int 0, .long 0, .ref plf, .ref plo, .ref plb, .ref pla]))] s.heap := hP
  have hl := lv_entry ([.ref h0, .int p0]) (n := 3) (Nat.le_of_ble_eq_true rfl)
  rw [lg_entry_eq]
  generalize (lg_sl ([.ref h0, .int p0]) ++ List.replicate (3 - (lg_sl ([.ref h0, .int p0])).length) Slot.unset).toArray = ls at hl ⊢
  have hl : lv_has ls 3 [(0, .ref h0), (1, .int p0)] := hl
  refine lv_aload_n hx hb dX6_meet_0 rfl (lv_at hl 0 rfl) ?_
  have hPc := hP.sub (ws' := [(h0, .inr (6, [.ref tp, .int 0, .int 0, .int (-1), .ref rd, .ref gd, .ref im, .ref rw, .ref gn, .ref ho, .ref sq])), (gd, .inr (0, [.ref pl, .int 0, .long 0, .long 0, .int 0, .int (-1), .int 0, .ref gdt, .int 0, .ref gdu, .int 0, .ref gdn]))]) [0, 1] rfl
  have hDc := hD.sub (ws' := [(h0, .inr (6, [.ref tp, .int 0, .int 0, .int (-1), .ref rd, .ref gd, .ref im, .ref rw, .ref gn, .ref ho, .ref sq])), (gd, .inr (0, [.ref pl, .int 0, .long 0, .long 0, .int 0, .int (-1), .int 0, .ref gdt, .int 0, .ref gdu, .int 0, .ref gdn]))]) [0, 1] (by decide) rfl
  have hKc := hK.sub (tys' := []) [] rfl
  have hFc := va_free (wc := [(h0, .inr (6, [.ref tp, .int 0, .int 0, .int (-1), .ref rd, .ref gd, .ref im, .ref rw, .ref gn, .ref ho, .ref sq])), (gd, .inr (0, [.ref pl, .int 0, .long 0, .long 0, .int 0, .int (-1), .int 0, .ref gdt, .int 0, .ref gdu, .int 0, .ref gdn]))]) hD hS hA [0, 1] rfl
  refine va_calli (va_runV (As := []) (rest := []) ⟨hx, hb, hml, hown, hts⟩ (c_X6_hasMaze l dC dI s.heap.size h0 tp rd gd im rw gn ho sq pl gdt gdu gdn ) (cwV 0 hts g_X6_meet_X6_hasMaze rfl rfl rfl (by decide +kernel) ⟨Nat.le_of_ble_eq_true rfl, Nat.le_of_ble_eq_true rfl⟩) ⟨fun a U g mk q => by obtain ⟨q0, q1, qP, qK, qD⟩ := q; exact ⟨q0, q1, qP, va_K.moved (u := U) (U := U.calling g mk a) (Vm.Alike.refl U.vm) qK, qD⟩, va_recv hKc hPc (ci := 6) (q0 := 0) rfl rfl, fun U hU hW => ⟨rfl, by rw [hU], by rw [hU]; exact hPc, va_K.moved hW.alike hKc, hDc.weaken (fun _ _ _ _ => trivial)⟩⟩ rfl rfl hl.1 rfl (lv_room (Nat.le_of_ble_eq_true rfl)) dX6_meet_1 ⟨Nat.le_of_ble_eq_true rfl, Nat.le_of_ble_eq_true rfl⟩) hS (fun q _ h => hFc q h) hFc (fun r_1 u t H1 locs ht hvm hw_2 hB hz1 hk1 hS => ?_)
  obtain ⟨hP1, hK1, hD1⟩ := hB
  have hP1 : va_P (dC, dI) vwCl [(h0, .inr (6, [.ref tp, .int 0, .int 0, .int (-1), .ref rd, .ref gd, .ref im, .ref rw, .ref gn, .ref ho, .ref sq])), (gd, .inr (0, [.ref pl, .int 0, .long 0, .long 0, .int 0, .int (-1), .int 0, .ref gdt, .int 0, .ref gdu, .int 0, .ref gdn]))] t.heap := hP1
  rw [ht] at hP1
  try dsimp only at hw_2
  obtain ⟨hP, hD⟩ := va_join (wr := [(pl, .inr (3, [.int 0, .int 0, .int 0, .int 0, .long 0, .ref plf, .ref plo, .ref plb, .ref pla]))]) (w1 := [(h0, .inr (6, [.ref tp, .int 0, .int 0, .int (-1), .ref rd, .ref gd, .ref im, .ref rw, .ref gn, .ref ho, .ref sq])), (gd, .inr (0, [.ref pl, .int 0, .long 0, .long 0, .int 0, .int (-1), .int 0, .ref gdt, .int 0, .ref gdu, .int 0, .ref gdn]))]) hP hD [0, 1] [2] rfl rfl (by decide) (by decide) hk1 hFc hP1 hD1
  generalize H1 = H at hP hS ⊢
  have hP : va_P (dC, dI) vwCl [(pl, .inr (3, [.int 0, .int 0, .int 0, .int 0, .long 0, .ref plf, .ref plo, .ref plb, .ref pla])), (h0, .inr (6, [.ref tp, .int 0, .int 0, .int (-1), .ref rd, .ref gd, .ref im, .ref rw, .ref gn, .ref ho, .ref sq])), (gd, .inr (0, [.ref pl, .int 0, .long 0, .long 0, .int 0, .int (-1), .int 0, .ref gdt, .int 0, .ref gdu, .int 0, .ref gdn]))] H := hP
  have hD : va_D A [(pl, .inr (3, [.int 0, .int 0, .int 0, .int 0, .long 0, .ref plf, .ref plo, .ref plb, .ref pla])), (h0, .inr (6, [.ref tp, .int 0, .int 0, .int (-1), .ref rd, .ref gd, .ref im, .ref rw, .ref gn, .ref ho, .ref sq])), (gd, .inr (0, [.ref pl, .int 0, .long 0, .long 0, .int 0, .int (-1), .int 0, .ref gdt, .int 0, .ref gdu, .int 0, .ref gdn]))] := hD
  obtain rfl : r_1 = 0 := hw_2
  refine lv_if_eq (tgt := 16) hx hb dX6_meet_4 (by decide) (fun _ => ?_) (fun h => absurd (by decide) h)
  refine lv_bipush (v := -2) hx hb dX6_meet_16 (by decide) ?_
  refine W.widen (k := 0) (n := 0) (by omega) (by omega) ?_
  exact W.iret (v := -2) hx hb hr (fun t ht hW => ⟨⟨(-2), (), rfl, (by first | rfl | ((repeat' split) <;> (first | rfl | (exfalso; omega)))), trivial⟩, hS.F ht⟩) hS.2.2 dX6_meet_18

theorem dX6_tea_0 : decode cX6_tea 0 = .ok (.aload_n 0, 1) := by decide +kernel
theorem dX6_tea_1 : decode cX6_tea 1 = .ok (.iload_n 1, 1) := by decide +kernel
theorem dX6_tea_2 : decode cX6_tea 2 = .ok (.invokevirtual 99, 3) := by decide +kernel
theorem dX6_tea_5 : decode cX6_tea 5 = .ok (.ifCond .eq 18, 3) := by decide +kernel
theorem dX6_tea_23 : decode cX6_tea 23 = .ok (.bipush (-2), 2) := by decide +kernel
theorem dX6_tea_25 : decode cX6_tea 25 = .ok (.ireturn, 1) := by decide +kernel
def wz_X6_tea : List Cond := .code yX6_tea cX6_tea 2 (some .int) :: ([Cond.methodLink RX6 99 yX6_isCell, Cond.instanceMethod yX6_isCell, Cond.selects RX6 yX6_isCell yX6_isCell, Cond.initialized RX6, Cond.code yX6_isCell cX6_isCell 2 (some .boolean), Cond.fieldLink RX6 33 "HedgeMaze" "garden" "LHedgeMaze$Garden;", Cond.fieldLink RX6 90 "HedgeMaze$Garden" "plan" "LHedgeMaze$Plan;", Cond.fieldLink RX6 169 "HedgeMaze$Plan" "cellCount" "I"] ++ wsX60 ++ wsX00 ++ wsX30)
set_option maxRecDepth 20000 in
theorem g_X6_tea_X6_isCell : GoodIn wz_X6_tea (wsV RX6 99 RX6 yX6_isCell wz_X6_isCell) := goodIn_r _ [1, 2, 3, 4, 5, 6, 7, 8, 9, 10, 11, 12, 13, 14, 15, 16, 17, 18, 19, 20, 21, 22, 23, 24, 25, 26, 27, 28, 29, 30, 31, 32, 33, 34, 35, 36, 37, 38, 39, 40] rfl (by decide +kernel)
set_option maxHeartbeats 4000000 in
set_option maxRecDepth 100000 in
theorem c_X6_tea (l : Launch) (dC : Nat → ClassId) (dI : Nat → Nat → Nat) (sz : Nat) (h0 : Nat) (tp : Nat) (rd : Nat) (gd : Nat) (im : Nat) (rw : Nat) (gn : Nat) (ho : Nat) (sq : Nat) (pl : Nat) (gdt : Nat) (gdu : Nat) (gdn : Nat) (plf : Nat) (plo : Nat) (plb : Nat) (pla : Nat) (p0 : Int32)  : Met l yX6_tea wz_X6_tea ({ frames := 1, cells := 0, slots := 0, locals := 21 }) (va_Pc [.ref h0, .int p0] (fun U => U.heap.size = sz ∧ va_P (dC, dI) vwCl [(h0, .inr (6, [.ref tp, .int 0, .int 0, .int (-1), .ref rd, .ref gd, .ref im, .ref rw, .ref gn, .ref ho, .ref sq])), (gd, .inr (0, [.ref pl, .int 0, .long 0, .long 0, .int 0, .int (-1), .int 0, .ref gdt, .int 0, .ref gdu, .int 0, .ref gdn])), (pl, .inr (3, [.int 0, .int 0, .int 0, .int 0, .long 0, .ref plf, .ref plo, .ref plb, .ref pla]))] U.heap ∧ va_K (dC, dI) vwCl [] U ∧ va_D (fun _ => True) [(h0, .inr (6, [.ref tp, .int 0, .int 0, .int (-1), .ref rd, .ref gd, .ref im, .ref rw, .ref gn, .ref ho, .ref sq])), (gd, .inr (0, [.ref pl, .int 0, .long 0, .long 0, .int 0, .int (-1), .int 0, .ref gdt, .int 0, .ref gdu, .int 0, .ref gdn])), (pl, .inr (3, [.int 0, .int 0, .int 0, .int 0, .long 0, .ref plf, .ref plo, .ref plb, .ref pla]))])) (va_Qi (fun (r : Int32) (u : Unit) => r = -2) (fun (_ : Unit) (_ : State) => True) (va_A [(h0, .inr (6, [.ref tp, .int 0, .int 0, .int (-1), .ref rd, .ref gd, .ref im, .ref rw, .ref gn, .ref ho, .ref sq])), (gd, .inr (0, [.ref pl, .int 0, .long 0, .long 0, .int 0, .int (-1), .int 0, .ref gdt, .int 0, .ref gdu, .int 0, .ref gdn])), (pl, .inr (3, [.int 0, .int 0, .int 0, .int 0, .long 0, .ref plf, .ref plo, .ref plb, .ref pla]))] sz)) 0 0 (va_A [(h0, .inr (6, [.ref tp, .int 0, .int 0, .int (-1), .ref rd, .ref gd, .ref im, .ref rw, .ref gn, .ref ho, .ref sq])), (gd, .inr (0, [.ref pl, .int 0, .long 0, .long 0, .int 0, .int (-1), .int 0, .ref gdt, .int 0, .ref gdu, .int 0, .ref gdn])), (pl, .inr (3, [.int 0, .int 0, .int 0, .int 0, .long 0, .ref plf, .ref plo, .ref plb, .ref pla]))] sz) := by
  refine Met.ofW (cc := cX6_tea) (maxL := 2) (ret := (some .int)) (by decide) rfl ?_
  intro p e s m args below meth c s₁ B hml hv
  obtain ⟨rfl, hsz, hP, hK, hD0⟩ := hv
  have hx := B.exec
  have hb := B.bytes
  have hr := B.returns
  have hts := atoms_spec (ws := wz_X6_tea) B.pre
  have hown : s.vm.findClass RX6 = some m.cls := findClass_of_methodNamed B.named
  have hlocks := B.notSynchronized
  subst hsz
  have hD := hD0.self (sz := s.heap.size)
  generalize hAe : va_A [(h0, .inr (6, [.ref tp, .int 0, .int 0, .int (-1), .ref rd, .ref gd, .ref im, .ref rw, .ref gn, .ref ho, .ref sq])), (gd, .inr (0, [.ref pl, .int 0, .long 0, .long 0, .int 0, .int (-1), .int 0, .ref gdt, .int 0, .ref gdu, .int 0, .ref gdn])), (pl, .inr (3, [.int 0, .int 0, .int 0, .int 0, .long 0, .ref plf, .ref plo, .ref plb, .ref pla]))] s.heap.size = A at hD ⊢
  have hA : ∀ q : Nat, s.heap.size ≤ q → A q := fun q h => by rw [← hAe]; exact Or.inr h
  have hS : va_S A s.heap s.heap [] := va_S.rf
  have hP : va_P (dC, dI) vwCl [(h0, .inr (6, [.ref tp, .int 0, .int 0, .int (-1), .ref rd, .ref gd, .ref im, .ref rw, .ref gn, .ref ho, .ref sq])), (gd, .inr (0, [.ref pl, .int 0, .long 0, .long 0, .int 0, .int (-1), .int 0, .ref gdt, .int 0, .ref gdu, .int 0, .ref gdn])), (pl, .inr (3, [.int 0, .int 0, .int 0, .int 0, .long 0, .ref plf, .ref plo, .ref plb, .ref pla]))] s.heap := hP
  have hl := lv_entry ([.ref h0, .int p0]) (n := 2) (Nat.le_of_ble_eq_true rfl)
  rw [lg_entry_eq]
  generalize (lg_sl ([.ref h0, .int p0]) ++ List.replicate (2 - (lg_sl ([.ref h0, .int p0])).length) Slot.unset).toArray = ls at hl ⊢
  have hl : lv_has ls 2 [(0, .ref h0), (1, .int p0)] := hl
  refine lv_aload_n hx hb dX6_tea_0 rfl (lv_at hl 0 rfl) ?_
  refine lv_iload_n hx hb dX6_tea_1 rfl (lv_at hl 1 rfl) ?_
  have hPc := hP.sub (ws' := [(h0, .inr (6, [.ref tp, .int 0, .int 0, .int (-1), .ref rd, .ref gd, .ref im, .ref rw, .ref gn, .ref ho, .ref sq])), (gd, .inr (0, [.ref pl, .int 0, .long 0, .long 0, .int 0, .int (-1), .int 0, .ref gdt, .int 0, .ref gdu, .int 0, .ref gdn])), (pl, .inr (3, [.int 0, .int 0, .int 0, .int 0, .long 0, .ref plf, .ref plo, .ref plb, .ref pla]))]) [0, 1, 2] rfl
  have hDc := hD.sub (ws' := [(h0, .inr (6, [.ref tp, .int 0, .int 0, .int (-1), .ref rd, .ref gd, .ref im, .ref rw, .ref gn, .ref ho, .ref sq])), (gd, .inr (0, [.ref pl, .int 0, .long 0, .long 0, .int 0, .int (-1), .int 0, .ref gdt, .int 0, .ref gdu, .int 0, .ref gdn])), (pl, .inr (3, [.int 0, .int 0, .int 0, .int 0, .long 0, .ref plf, .ref plo, .ref plb, .ref pla]))]) [0, 1, 2] (by decide) rfl
  have hKc := hK.sub (tys' := []) [] rfl
  have hFc := va_free (wc := [(h0, .inr (6, [.ref tp, .int 0, .int 0, .int (-1), .ref rd, .ref gd, .ref im, .ref rw, .ref gn, .ref ho, .ref sq])), (gd, .inr (0, [.ref pl, .int 0, .long 0, .long 0, .int 0, .int (-1), .int 0, .ref gdt, .int 0, .ref gdu, .int 0, .ref gdn])), (pl, .inr (3, [.int 0, .int 0, .int 0, .int 0, .long 0, .ref plf, .ref plo, .ref plb, .ref pla]))]) hD hS hA [0, 1, 2] rfl
  refine va_calli (va_runV (As := [.int p0]) (rest := []) ⟨hx, hb, hml, hown, hts⟩ (c_X6_isCell l dC dI s.heap.size h0 tp rd gd im rw gn ho sq pl gdt gdu gdn plf plo plb pla p0 ) (cwV 1 hts g_X6_tea_X6_isCell rfl rfl rfl (by decide +kernel) ⟨Nat.le_of_ble_eq_true rfl, Nat.le_of_ble_eq_true rfl⟩) ⟨fun a U g mk q => by obtain ⟨q0, q1, qP, qK, qD⟩ := q; exact ⟨q0, q1, qP, va_K.moved (u := U) (U := U.calling g mk a) (Vm.Alike.refl U.vm) qK, qD⟩, va_recv hKc hPc (ci := 6) (q0 := 0) rfl rfl, fun U hU hW => ⟨rfl, by rw [hU], by rw [hU]; exact hPc, va_K.moved hW.alike hKc, hDc.weaken (fun _ _ _ _ => trivial)⟩⟩ rfl rfl hl.1 rfl (lv_room (Nat.le_of_ble_eq_true rfl)) dX6_tea_2 ⟨Nat.le_of_ble_eq_true rfl, Nat.le_of_ble_eq_true rfl⟩) hS (fun q _ h => hFc q h) hFc (fun r_1 u t H1 locs ht hvm hw_2 hB hz1 hk1 hS => ?_)
  obtain ⟨hP1, hK1, hD1⟩ := hB
  have hP1 : va_P (dC, dI) vwCl [(h0, .inr (6, [.ref tp, .int 0, .int 0, .int (-1), .ref rd, .ref gd, .ref im, .ref rw, .ref gn, .ref ho, .ref sq])), (gd, .inr (0, [.ref pl, .int 0, .long 0, .long 0, .int 0, .int (-1), .int 0, .ref gdt, .int 0, .ref gdu, .int 0, .ref gdn])), (pl, .inr (3, [.int 0, .int 0, .int 0, .int 0, .long 0, .ref plf, .ref plo, .ref plb, .ref pla]))] t.heap := hP1
  rw [ht] at hP1
  try dsimp only at hw_2
  obtain ⟨hP, hD⟩ := va_join (wr := []) (w1 := [(h0, .inr (6, [.ref tp, .int 0, .int 0, .int (-1), .ref rd, .ref gd, .ref im, .ref rw, .ref gn, .ref ho, .ref sq])), (gd, .inr (0, [.ref pl, .int 0, .long 0, .long 0, .int 0, .int (-1), .int 0, .ref gdt, .int 0, .ref gdu, .int 0, .ref gdn])), (pl, .inr (3, [.int 0, .int 0, .int 0, .int 0, .long 0, .ref plf, .ref plo, .ref plb, .ref pla]))]) hP hD [0, 1, 2] [] rfl rfl (by decide) (by decide) hk1 hFc hP1 hD1
  generalize H1 = H at hP hS ⊢
  have hP : va_P (dC, dI) vwCl [(h0, .inr (6, [.ref tp, .int 0, .int 0, .int (-1), .ref rd, .ref gd, .ref im, .ref rw, .ref gn, .ref ho, .ref sq])), (gd, .inr (0, [.ref pl, .int 0, .long 0, .long 0, .int 0, .int (-1), .int 0, .ref gdt, .int 0, .ref gdu, .int 0, .ref gdn])), (pl, .inr (3, [.int 0, .int 0, .int 0, .int 0, .long 0, .ref plf, .ref plo, .ref plb, .ref pla]))] H := hP
  have hD : va_D A [(h0, .inr (6, [.ref tp, .int 0, .int 0, .int (-1), .ref rd, .ref gd, .ref im, .ref rw, .ref gn, .ref ho, .ref sq])), (gd, .inr (0, [.ref pl, .int 0, .long 0, .long 0, .int 0, .int (-1), .int 0, .ref gdt, .int 0, .ref gdu, .int 0, .ref gdn])), (pl, .inr (3, [.int 0, .int 0, .int 0, .int 0, .long 0, .ref plf, .ref plo, .ref plb, .ref pla]))] := hD
  obtain rfl : r_1 = 0 := hw_2
  refine lv_if_eq (tgt := 23) hx hb dX6_tea_5 (by decide) (fun _ => ?_) (fun h => absurd (by decide) h)
  refine lv_bipush (v := -2) hx hb dX6_tea_23 (by decide) ?_
  refine W.widen (k := 0) (n := 0) (by omega) (by omega) ?_
  exact W.iret (v := -2) hx hb hr (fun t ht hW => ⟨⟨(-2), (), rfl, (by first | rfl | ((repeat' split) <;> (first | rfl | (exfalso; omega)))), trivial⟩, hS.F ht⟩) hS.2.2 dX6_tea_25

theorem dX6_served_0 : decode cX6_served 0 = .ok (.aload_n 0, 1) := by decide +kernel
theorem dX6_served_1 : decode cX6_served 1 = .ok (.iload_n 1, 1) := by decide +kernel
theorem dX6_served_2 : decode cX6_served 2 = .ok (.invokevirtual 99, 3) := by decide +kernel
theorem dX6_served_5 : decode cX6_served 5 = .ok (.ifCond .ne 6, 3) := by decide +kernel
theorem dX6_served_8 : decode cX6_served 8 = .ok (.bipush (-2), 2) := by decide +kernel
theorem dX6_served_10 : decode cX6_served 10 = .ok (.ireturn, 1) := by decide +kernel
def wz_X6_served : List Cond := .code yX6_served cX6_served 3 (some .int) :: ([Cond.methodLink RX6 99 yX6_isCell, Cond.instanceMethod yX6_isCell, Cond.selects RX6 yX6_isCell yX6_isCell, Cond.initialized RX6, Cond.code yX6_isCell cX6_isCell 2 (some .boolean), Cond.fieldLink RX6 33 "HedgeMaze" "garden" "LHedgeMaze$Garden;", Cond.fieldLink RX6 90 "HedgeMaze$Garden" "plan" "LHedgeMaze$Plan;", Cond.fieldLink RX6 169 "HedgeMaze$Plan" "cellCount" "I"] ++ wsX60 ++ wsX00 ++ wsX30)
set_option maxRecDepth 20000 in
theorem g_X6_served_X6_isCell : GoodIn wz_X6_served (wsV RX6 99 RX6 yX6_isCell wz_X6_isCell) := goodIn_r _ [1, 2, 3, 4, 5, 6, 7, 8, 9, 10, 11, 12, 13, 14, 15, 16, 17, 18, 19, 20, 21, 22, 23, 24, 25, 26, 27, 28, 29, 30, 31, 32, 33, 34, 35, 36, 37, 38, 39, 40] rfl (by decide +kernel)
set_option maxHeartbeats 4000000 in
set_option maxRecDepth 100000 in
theorem c_X6_served (l : Launch) (dC : Nat → ClassId) (dI : Nat → Nat → Nat) (sz : Nat) (h0 : Nat) (tp : Nat) (rd : Nat) (gd : Nat) (im : Nat) (rw : Nat) (gn : Nat) (ho : Nat) (sq : Nat) (pl : Nat) (gdt : Nat) (gdu : Nat) (gdn : Nat) (plf : Nat) (plo : Nat) (plb : Nat) (pla : Nat) (p0 : Int32) (p1 : Int32)  : Met l yX6_served wz_X6_served ({ frames := 1, cells := 0, slots := 0, locals := 21 }) (va_Pc [.ref h0, .int p0, .int p1] (fun U => U.heap.size = sz ∧ va_P (dC, dI) vwCl [(h0, .inr (6, [.ref tp, .int 0, .int 0, .int (-1), .ref rd, .ref gd, .ref im, .ref rw, .ref gn, .ref ho, .ref sq])), (gd, .inr (0, [.ref pl, .int 0, .long 0, .long 0, .int 0, .int (-1), .int 0, .ref gdt, .int 0, .ref gdu, .int 0, .ref gdn])), (pl, .inr (3, [.int 0, .int 0, .int 0, .int 0, .long 0, .ref plf, .ref plo, .ref plb, .ref pla]))] U.heap ∧ va_K (dC, dI) vwCl [] U ∧ va_D (fun _ => True) [(h0, .inr (6, [.ref tp, .int 0, .int 0, .int (-1), .ref rd, .ref gd, .ref im, .ref rw, .ref gn, .ref ho, .ref sq])), (gd, .inr (0, [.ref pl, .int 0, .long 0, .long 0, .int 0, .int (-1), .int 0, .ref gdt, .int 0, .ref gdu, .int 0, .ref gdn])), (pl, .inr (3, [.int 0, .int 0, .int 0, .int 0, .long 0, .ref plf, .ref plo, .ref plb, .ref pla]))])) (va_Qi (fun (r : Int32) (u : Unit) => r = -2) (fun (_ : Unit) (_ : State) => True) (va_A [(h0, .inr (6, [.ref tp, .int 0, .int 0, .int (-1), .ref rd, .ref gd, .ref im, .ref rw, .ref gn, .ref ho, .ref sq])), (gd, .inr (0, [.ref pl, .int 0, .long 0, .long 0, .int 0, .int (-1), .int 0, .ref gdt, .int 0, .ref gdu, .int 0, .ref gdn])), (pl, .inr (3, [.int 0, .int 0, .int 0, .int 0, .long 0, .ref plf, .ref plo, .ref plb, .ref pla]))] sz)) 0 0 (va_A [(h0, .inr (6, [.ref tp, .int 0, .int 0, .int (-1), .ref rd, .ref gd, .ref im, .ref rw, .ref gn, .ref ho, .ref sq])), (gd, .inr (0, [.ref pl, .int 0, .long 0, .long 0, .int 0, .int (-1), .int 0, .ref gdt, .int 0, .ref gdu, .int 0, .ref gdn])), (pl, .inr (3, [.int 0, .int 0, .int 0, .int 0, .long 0, .ref plf, .ref plo, .ref plb, .ref pla]))] sz) := by
  refine Met.ofW (cc := cX6_served) (maxL := 3) (ret := (some .int)) (by decide) rfl ?_
  intro p e s m args below meth c s₁ B hml hv
  obtain ⟨rfl, hsz, hP, hK, hD0⟩ := hv
  have hx := B.exec
  have hb := B.bytes
  have hr := B.returns
  have hts := atoms_spec (ws := wz_X6_served) B.pre
  have hown : s.vm.findClass RX6 = some m.cls := findClass_of_methodNamed B.named
  have hlocks := B.notSynchronized
  subst hsz
  have hD := hD0.self (sz := s.heap.size)
  generalize hAe : va_A [(h0, .inr (6, [.ref tp, .int 0, .int 0, .int (-1), .ref rd, .ref gd, .ref im, .ref rw, .ref gn, .ref ho, .ref sq])), (gd, .inr (0, [.ref pl, .int 0, .long 0, .long 0, .int 0, .int (-1), .int 0, .ref gdt, .int 0, .ref gdu, .int 0, .ref gdn])), (pl, .inr (3, [.int 0, .int 0, .int 0, .int 0, .long 0, .ref plf, .ref plo, .ref plb, .ref pla]))] s.heap.size = A at hD ⊢
  have hA : ∀ q : Nat, s.heap.size ≤ q → A q := fun q h => by rw [← hAe]; exact Or.inr h
  have hS : va_S A s.heap s.heap [] := va_S.rf
  have hP : va_P (dC, dI) vwCl [(h0, .inr (6, [.ref tp, .int 0, .int 0, .int (-1), .ref rd, .ref gd, .ref im, .ref rw, .ref gn, .ref ho, .ref sq])), (gd, .inr (0, [.ref pl, .int 0, .long 0, .long 0, .int 0, .int (-1), .int 0, .ref gdt, .int 0, .ref gdu, .int 0, .ref gdn])), (pl, .inr (3, [.int 0, .int 0, .int 0, .int 0, .long 0, .ref plf, .ref plo, .ref plb, .ref pla]))] s.heap := hP
  have hl := lv_entry ([.ref h0, .int p0, .int p1]) (n := 3) (Nat.le_of_ble_eq_true rfl)
  rw [lg_entry_eq]
  generalize (lg_sl ([.ref h0, .int p0, .int p1]) ++ List.replicate (3 - (lg_sl ([.ref h0, .int p0, .int p1])).length) Slot.unset).toArray = ls at hl ⊢
  have hl : lv_has ls 3 [(0, .ref h0), (1, .int p0), (2, .int p1)] := hl
  refine lv_aload_n hx hb dX6_served_0 rfl (lv_at hl 0 rfl) ?_
  refine lv_iload_n hx hb dX6_served_1 rfl (lv_at hl 1 rfl) ?_
  have hPc := hP.sub (ws' := [(h0, .inr (6, [.ref tp, .int 0, .int 0, .int (-1), .ref rd, .ref gd, .ref im, .ref rw, .ref gn, .ref ho, .ref sq])), (gd, .inr (0, [.ref pl, .int 0, .long 0, .long 0, .int 0, .int (-1), .int 0, .ref gdt, .int 0, .ref gdu, .int 0, .ref gdn])), (pl, .inr (3, [.int 0, .int 0, .int 0, .int 0, .long 0, .ref plf, .ref plo, .ref plb, .ref pla]))]) [0, 1, 2] rfl
  have hDc := hD.sub (ws' := [(h0, .inr (6, [.ref tp, .int 0, .int 0, .int (-1), .ref rd, .ref gd, .ref im, .ref rw, .ref gn, .ref ho, .ref sq])), (gd, .inr (0, [.ref pl, .int 0, .long 0, .long 0, .int 0, .int (-1), .int 0, .ref gdt, .int 0, .ref gdu, .int 0, .ref gdn])), (pl, .inr (3, [.int 0, .int 0, .int 0, .int 0, .long 0, .ref plf, .ref plo, .ref plb, .ref pla]))]) [0, 1, 2] (by decide) rfl
  have hKc := hK.sub (tys' := []) [] rfl
  have hFc := va_free (wc := [(h0, .inr (6, [.ref tp, .int 0, .int 0, .int (-1), .ref rd, .ref gd, .ref im, .ref rw, .ref gn, .ref ho, .ref sq])), (gd, .inr (0, [.ref pl, .int 0, .long 0, .long 0, .int 0, .int (-1), .int 0, .ref gdt, .int 0, .ref gdu, .int 0, .ref gdn])), (pl, .inr (3, [.int 0, .int 0, .int 0, .int 0, .long 0, .ref plf, .ref plo, .ref plb, .ref pla]))]) hD hS hA [0, 1, 2] rfl
  refine va_calli (va_runV (As := [.int p0]) (rest := []) ⟨hx, hb, hml, hown, hts⟩ (c_X6_isCell l dC dI s.heap.size h0 tp rd gd im rw gn ho sq pl gdt gdu gdn plf plo plb pla p0 ) (cwV 1 hts g_X6_served_X6_isCell rfl rfl rfl (by decide +kernel) ⟨Nat.le_of_ble_eq_true rfl, Nat.le_of_ble_eq_true rfl⟩) ⟨fun a U g mk q => by obtain ⟨q0, q1, qP, qK, qD⟩ := q; exact ⟨q0, q1, qP, va_K.moved (u := U) (U := U.calling g mk a) (Vm.Alike.refl U.vm) qK, qD⟩, va_recv hKc hPc (ci := 6) (q0 := 0) rfl rfl, fun U hU hW => ⟨rfl, by rw [hU], by rw [hU]; exact hPc, va_K.moved hW.alike hKc, hDc.weaken (fun _ _ _ _ => trivial)⟩⟩ rfl rfl hl.1 rfl (lv_room (Nat.le_of_ble_eq_true rfl)) dX6_served_2 ⟨Nat.le_of_ble_eq_true rfl, Nat.le_of_ble_eq_true rfl⟩) hS (fun q _ h => hFc q h) hFc (fun r_1 u t H1 locs ht hvm hw_2 hB hz1 hk1 hS => ?_)
  obtain ⟨hP1, hK1, hD1⟩ := hB
  have hP1 : va_P (dC, dI) vwCl [(h0, .inr (6, [.ref tp, .int 0, .int 0, .int (-1), .ref rd, .ref gd, .ref im, .ref rw, .ref gn, .ref ho, .ref sq])), (gd, .inr (0, [.ref pl, .int 0, .long 0, .long 0, .int 0, .int (-1), .int 0, .ref gdt, .int 0, .ref gdu, .int 0, .ref gdn])), (pl, .inr (3, [.int 0, .int 0, .int 0, .int 0, .long 0, .ref plf, .ref plo, .ref plb, .ref pla]))] t.heap := hP1
  rw [ht] at hP1
  try dsimp only at hw_2
  obtain ⟨hP, hD⟩ := va_join (wr := []) (w1 := [(h0, .inr (6, [.ref tp, .int 0, .int 0, .int (-1), .ref rd, .ref gd, .ref im, .ref rw, .ref gn, .ref ho, .ref sq])), (gd, .inr (0, [.ref pl, .int 0, .long 0, .long 0, .int 0, .int (-1), .int 0, .ref gdt, .int 0, .ref gdu, .int 0, .ref gdn])), (pl, .inr (3, [.int 0, .int 0, .int 0, .int 0, .long 0, .ref plf, .ref plo, .ref plb, .ref pla]))]) hP hD [0, 1, 2] [] rfl rfl (by decide) (by decide) hk1 hFc hP1 hD1
  generalize H1 = H at hP hS ⊢
  have hP : va_P (dC, dI) vwCl [(h0, .inr (6, [.ref tp, .int 0, .int 0, .int (-1), .ref rd, .ref gd, .ref im, .ref rw, .ref gn, .ref ho, .ref sq])), (gd, .inr (0, [.ref pl, .int 0, .long 0, .long 0, .int 0, .int (-1), .int 0, .ref gdt, .int 0, .ref gdu, .int 0, .ref gdn])), (pl, .inr (3, [.int 0, .int 0, .int 0, .int 0, .long 0, .ref plf, .ref plo, .ref plb, .ref pla]))] H := hP
  have hD : va_D A [(h0, .inr (6, [.ref tp, .int 0, .int 0, .int (-1), .ref rd, .ref gd, .ref im, .ref rw, .ref gn, .ref ho, .ref sq])), (gd, .inr (0, [.ref pl, .int 0, .long 0, .long 0, .int 0, .int (-1), .int 0, .ref gdt, .int 0, .ref gdu, .int 0, .ref gdn])), (pl, .inr (3, [.int 0, .int 0, .int 0, .int 0, .long 0, .ref plf, .ref plo, .ref plb, .ref pla]))] := hD
  obtain rfl : r_1 = 0 := hw_2
  refine lv_if_ne (tgt := 11) hx hb dX6_served_5 (by decide) (fun h => absurd (by decide) h) (fun _ => ?_)
  refine lv_bipush (v := -2) hx hb dX6_served_8 (by decide) ?_
  refine W.widen (k := 0) (n := 0) (by omega) (by omega) ?_
  exact W.iret (v := -2) hx hb hr (fun t ht hW => ⟨⟨(-2), (), rfl, (by first | rfl | ((repeat' split) <;> (first | rfl | (exfalso; omega)))), trivial⟩, hS.F ht⟩) hS.2.2 dX6_served_10

theorem dX6_letter_0 : decode cX6_letter 0 = .ok (.aload_n 0, 1) := by decide +kernel
theorem dX6_letter_1 : decode cX6_letter 1 = .ok (.invokevirtual 86, 3) := by decide +kernel
theorem dX6_letter_4 : decode cX6_letter 4 = .ok (.ifCond .eq 12, 3) := by decide +kernel
theorem dX6_letter_16 : decode cX6_letter 16 = .ok (.bipush (-2), 2) := by decide +kernel
theorem dX6_letter_18 : decode cX6_letter 18 = .ok (.ireturn, 1) := by decide +kernel
def wz_X6_letter : List Cond := .code yX6_letter cX6_letter 6 (some .int) :: ([Cond.methodLink RX6 86 yX6_hasMaze, Cond.instanceMethod yX6_hasMaze, Cond.selects RX6 yX6_hasMaze yX6_hasMaze, Cond.initialized RX6, Cond.code yX6_hasMaze cX6_hasMaze 1 (some .boolean), Cond.fieldLink RX6 33 "HedgeMaze" "garden" "LHedgeMaze$Garden;", Cond.fieldLink RX6 83 "HedgeMaze$Garden" "lines" "I"] ++ wsX60 ++ wsX00)
set_option maxRecDepth 20000 in
theorem g_X6_letter_X6_hasMaze : GoodIn wz_X6_letter (wsV RX6 86 RX6 yX6_hasMaze wz_X6_hasMaze) := goodIn_r _ [1, 2, 3, 4, 5, 6, 7, 8, 9, 10, 11, 12, 13, 14, 15, 16, 17, 18, 19, 20, 21, 22, 23, 24, 25, 26, 27, 28, 29, 30] rfl (by decide +kernel)
set_option maxHeartbeats 4000000 in
set_option maxRecDepth 100000 in
theorem c_X6_letter (l : Launch) (dC : Nat → ClassId) (dI : Nat → Nat → Nat) (sz : Nat) (h0 : Nat) (tp : Nat) (rd : Nat) (gd : Nat) (im : Nat) (rw : Nat) (gn : Nat) (ho : Nat) (sq : Nat) (pl : Nat) (gdt : Nat) (gdu : Nat) (gdn : Nat) (plf : Nat) (plo : Nat) (plb : Nat) (pla : Nat) (p0 : Int32)  : Met l yX6_letter wz_X6_letter ({ frames := 1, cells := 0, slots := 0, locals := 20 }) (va_Pc [.ref h0, .int p0] (fun U => U.heap.size = sz ∧ va_P (dC, dI) vwCl [(h0, .inr (6, [.ref tp, .int 0, .int 0, .int (-1), .ref rd, .ref gd, .ref im, .ref rw, .ref gn, .ref ho, .ref sq])), (gd, .inr (0, [.ref pl, .int 0, .long 0, .long 0, .int 0, .int (-1), .int 0, .ref gdt, .int 0, .ref gdu, .int 0, .ref gdn])), (pl, .inr (3, [.int 0, .int 0, .int 0, .int 0, .long 0, .ref plf, .ref plo, .ref plb, .ref pla]))] U.heap ∧ va_K (dC, dI) vwCl [] U ∧ va_D (fun _ => True) [(h0, .inr (6, [.ref tp, .int 0, .int 0, .int (-1), .ref rd, .ref gd, .ref im, .ref rw, .ref gn, .ref ho, .ref sq])), (gd, .inr (0, [.ref pl, .int 0, .long 0, .long 0, .int 0, .int (-1), .int 0, .ref gdt, .int 0, .ref gdu, .int 0, .ref gdn])), (pl, .inr (3, [.int 0, .int 0, .int 0, .int 0, .long 0, .ref plf, .ref plo, .ref plb, .ref pla]))])) (va_Qi (fun (r : Int32) (u : Unit) => r = -2) (fun (_ : Unit) (_ : State) => True) (va_A [(h0, .inr (6, [.ref tp, .int 0, .int 0, .int (-1), .ref rd, .ref gd, .ref im, .ref rw, .ref gn, .ref ho, .ref sq])), (gd, .inr (0, [.ref pl, .int 0, .long 0, .long 0, .int 0, .int (-1), .int 0, .ref gdt, .int 0, .ref gdu, .int 0, .ref gdn])), (pl, .inr (3, [.int 0, .int 0, .int 0, .int 0, .long 0, .ref plf, .ref plo, .ref plb, .ref pla]))] sz)) 0 0 (va_A [(h0, .inr (6, [.ref tp, .int 0, .int 0, .int (-1), .ref rd, .ref gd, .ref im, .ref rw, .ref gn, .ref ho, .ref sq])), (gd, .inr (0, [.ref pl, .int 0, .long 0, .long 0, .int 0, .int (-1), .int 0, .ref gdt, .int 0, .ref gdu, .int 0, .ref gdn])), (pl, .inr (3, [.int 0, .int 0, .int 0, .int 0, .long 0, .ref plf, .ref plo, .ref plb, .ref pla]))] sz) := by
  refine Met.ofW (cc := cX6_letter) (maxL := 6) (ret := (some .int)) (by decide) rfl ?_
  intro p e s m args below meth c s₁ B hml hv
  obtain ⟨rfl, hsz, hP, hK, hD0⟩ := hv
  have hx := B.exec
  have hb := B.bytes
  have hr := B.returns
  have hts := atoms_spec (ws := wz_X6_letter) B.pre
  have hown : s.vm.findClass RX6 = some m.cls := findClass_of_methodNamed B.named
  have hlocks := B.notSynchronized
  subst hsz
  have hD := hD0.self (sz := s.heap.size)
  generalize hAe : va_A [(h0, .inr (6, [.ref tp, .int 0, .int 0, .int (-1), .ref rd, .ref gd, .ref im, .ref rw, .ref gn, .ref ho, .ref sq])), (gd, .inr (0, [.ref pl, .int 0, .long 0, .long 0, .int 0, .int (-1), .int 0, .ref gdt, .int 0, .ref gdu, .int 0, .ref gdn])), (pl, .inr (3, [.int 0, .int 0, .int 0, .int 0, .long 0, .ref plf, .ref plo, .ref plb, .ref pla]))] s.heap.size = A at hD ⊢
  have hA : ∀ q : Nat, s.heap.size ≤ q → A q := fun q h => by rw [← hAe]; exact Or.inr h
  have hS : va_S A s.heap s.heap [] := va_S.rf
  have hP : va_P (dC, dI) vwCl [(h0, .inr (6, [.ref tp, .int 0, .int 0, .int (-1), .ref rd, .ref gd, .ref im, .ref rw, .ref gn, .ref ho, .ref sq])), (gd, .inr (0, [.ref pl, .int 0, .long 0, .long 0, .int 0, .int (-1), .int 0, .ref gdt, .int 0, .ref gdu, .int 0, .ref gdn])), (pl, .inr (3, [.int 0, .int 0, .int 0, .int 0, .long 0, .ref plf, .ref plo, .ref plb, .ref pla]))] s.heap := hP
  have hl := lv_entry ([.ref h0, .int p0]) (n := 6) (Nat.le_of_ble_eq_true rfl)
  rw [lg_entry_eq]
  generalize (lg_sl ([.ref h0, .int p0]) ++ List.replicate (6 - (lg_sl ([.ref h0, .int p0])).length) Slot.unset).toArray = ls at hl ⊢
  have hl : lv_has ls 6 [(0, .ref h0), (1, .int p0)] := hl
  refine lv_aload_n hx hb dX6_letter_0 rfl (lv_at hl 0 rfl) ?_
  have hPc := hP.sub (ws' := [(h0, .inr (6, [.ref tp, .int 0, .int 0, .int (-1), .ref rd, .ref gd, .ref im, .ref rw, .ref gn, .ref ho, .ref sq])), (gd, .inr (0, [.ref pl, .int 0, .long 0, .long 0, .int 0, .int (-1), .int 0, .ref gdt, .int 0, .ref gdu, .int 0, .ref gdn]))]) [0, 1] rfl
  have hDc := hD.sub (ws' := [(h0, .inr (6, [.ref tp, .int 0, .int 0, .int (-1), .ref rd, .ref gd, .ref im, .ref rw, .ref gn, .ref ho, .ref sq])), (gd, .inr (0, [.ref pl, .int 0, .long 0, .long 0, .int 0, .int (-1), .int 0, .ref gdt, .int 0, .ref gdu, .int 0, .ref gdn]))]) [0, 1] (by decide) rfl
  have hKc := hK.sub (tys' := []) [] rfl
  have hFc := va_free (wc := [(h0, .inr (6, [.ref tp, .int 0, .int 0, .int (-1), .ref rd, .ref gd, .ref im, .ref rw, .ref gn, .ref ho, .ref sq])), (gd, .inr (0, [.ref pl, .int 0, .long 0, .long 0, .int 0, .int (-1), .int 0, .ref gdt, .int 0, .ref gdu, .int 0, .ref gdn]))]) hD hS hA [0, 1] rfl
  refine va_calli (va_runV (As := []) (rest := []) ⟨hx, hb, hml, hown, hts⟩ (c_X6_hasMaze l dC dI s.heap.size h0 tp rd gd im rw gn ho sq pl gdt gdu gdn ) (cwV 0 hts g_X6_letter_X6_hasMaze rfl rfl rfl (by decide +kernel) ⟨Nat.le_of_ble_eq_true rfl, Nat.le_of_ble_eq_true rfl⟩) ⟨fun a U g mk q => by obtain ⟨q0, q1, qP, qK, qD⟩ := q; exact ⟨q0, q1, qP, va_K.moved (u := U) (U := U.calling g mk a) (Vm.Alike.refl U.vm) qK, qD⟩, va_recv hKc hPc (ci := 6) (q0 := 0) rfl rfl, fun U hU hW => ⟨rfl, by rw [hU], by rw [hU]; exact hPc, va_K.moved hW.alike hKc, hDc.weaken (fun _ _ _ _ => trivial)⟩⟩ rfl rfl hl.1 rfl (lv_room (Nat.le_of_ble_eq_true rfl)) dX6_letter_1 ⟨Nat.le_of_ble_eq_true rfl, Nat.le_of_ble_eq_true rfl⟩) hS (fun q _ h => hFc q h) hFc (fun r_1 u t H1 locs ht hvm hw_2 hB hz1 hk1 hS => ?_)
  obtain ⟨hP1, hK1, hD1⟩ := hB
  have hP1 : va_P (dC, dI) vwCl [(h0, .inr (6, [.ref tp, .int 0, .int 0, .int (-1), .ref rd, .ref gd, .ref im, .ref rw, .ref gn, .ref ho, .ref sq])), (gd, .inr (0, [.ref pl, .int 0, .long 0, .long 0, .int 0, .int (-1), .int 0, .ref gdt, .int 0, .ref gdu, .int 0, .ref gdn]))] t.heap := hP1
  rw [ht] at hP1
  try dsimp only at hw_2
  obtain ⟨hP, hD⟩ := va_join (wr := [(pl, .inr (3, [.int 0, .int 0, .int 0, .int 0, .long 0, .ref plf, .ref plo, .ref plb, .ref pla]))]) (w1 := [(h0, .inr (6, [.ref tp, .int 0, .int 0, .int (-1), .ref rd, .ref gd, .ref im, .ref rw, .ref gn, .ref ho, .ref sq])), (gd, .inr (0, [.ref pl, .int 0, .long 0, .long 0, .int 0, .int (-1), .int 0, .ref gdt, .int 0, .ref gdu, .int 0, .ref gdn]))]) hP hD [0, 1] [2] rfl rfl (by decide) (by decide) hk1 hFc hP1 hD1
  generalize H1 = H at hP hS ⊢
  have hP : va_P (dC, dI) vwCl [(pl, .inr (3, [.int 0, .int 0, .int 0, .int 0, .long 0, .ref plf, .ref plo, .ref plb, .ref pla])), (h0, .inr (6, [.ref tp, .int 0, .int 0, .int (-1), .ref rd, .ref gd, .ref im, .ref rw, .ref gn, .ref ho, .ref sq])), (gd, .inr (0, [.ref pl, .int 0, .long 0, .long 0, .int 0, .int (-1), .int 0, .ref gdt, .int 0, .ref gdu, .int 0, .ref gdn]))] H := hP
  have hD : va_D A [(pl, .inr (3, [.int 0, .int 0, .int 0, .int 0, .long 0, .ref plf, .ref plo, .ref plb, .ref pla])), (h0, .inr (6, [.ref tp, .int 0, .int 0, .int (-1), .ref rd, .ref gd, .ref im, .ref rw, .ref gn, .ref ho, .ref sq])), (gd, .inr (0, [.ref pl, .int 0, .long 0, .long 0, .int 0, .int (-1), .int 0, .ref gdt, .int 0, .ref gdu, .int 0, .ref gdn]))] := hD
  obtain rfl : r_1 = 0 := hw_2
  refine lv_if_eq (tgt := 16) hx hb dX6_letter_4 (by decide) (fun _ => ?_) (fun h => absurd (by decide) h)
  refine lv_bipush (v := -2) hx hb dX6_letter_16 (by decide) ?_
  refine W.widen (k := 0) (n := 0) (by omega) (by omega) ?_
  exact W.iret (v := -2) hx hb hr (fun t ht hW => ⟨⟨(-2), (), rfl, (by first | rfl | ((repeat' split) <;> (first | rfl | (exfalso; omega)))), trivial⟩, hS.F ht⟩) hS.2.2 dX6_letter_18

theorem dX6_goes_0 : decode cX6_goes 0 = .ok (.aload_n 0, 1) := by decide +kernel
theorem dX6_goes_1 : decode cX6_goes 1 = .ok (.iload_n 1, 1) := by decide +kernel
theorem dX6_goes_2 : decode cX6_goes 2 = .ok (.invokevirtual 252, 3) := by decide +kernel
theorem dX6_goes_5 : decode cX6_goes 5 = .ok (.ifCond .eq 11, 3) := by decide +kernel
theorem dX6_goes_16 : decode cX6_goes 16 = .ok (.bipush (-2), 2) := by decide +kernel
theorem dX6_goes_18 : decode cX6_goes 18 = .ok (.ireturn, 1) := by decide +kernel
def wz_X6_goes : List Cond := .code yX6_goes cX6_goes 4 (some .int) :: ([Cond.methodLink RX6 252 yX6_isGuest, Cond.instanceMethod yX6_isGuest, Cond.selects RX6 yX6_isGuest yX6_isGuest, Cond.initialized RX6, Cond.code yX6_isGuest cX6_isGuest 2 (some .boolean), Cond.fieldLink RX6 33 "HedgeMaze" "garden" "LHedgeMaze$Garden;", Cond.fieldLink RX6 258 "HedgeMaze$Garden" "guestCount" "I"] ++ wsX60 ++ wsX00)
set_option maxRecDepth 20000 in
theorem g_X6_goes_X6_isGuest : GoodIn wz_X6_goes (wsV RX6 252 RX6 yX6_isGuest wz_X6_isGuest) := goodIn_r _ [1, 2, 3, 4, 5, 6, 7, 8, 9, 10, 11, 12, 13, 14, 15, 16, 17, 18, 19, 20, 21, 22, 23, 24, 25, 26, 27, 28, 29, 30] rfl (by decide +kernel)
set_option maxHeartbeats 4000000 in
set_option maxRecDepth 100000 in
theorem c_X6_goes (l : Launch) (dC : Nat → ClassId) (dI : Nat → Nat → Nat) (sz : Nat) (h0 : Nat) (tp : Nat) (rd : Nat) (gd : Nat) (im : Nat) (rw : Nat) (gn : Nat) (ho : Nat) (sq : Nat) (pl : Nat) (gdt : Nat) (gdu : Nat) (gdn : Nat) (plf : Nat) (plo : Nat) (plb : Nat) (pla : Nat) (p0 : Int32) (p1 : Int32)  : Met l yX6_goes wz_X6_goes ({ frames := 1, cells := 0, slots := 0, locals := 21 }) (va_Pc [.ref h0, .int p0, .int p1] (fun U => U.heap.size = sz ∧ va_P (dC, dI) vwCl [(h0, .inr (6, [.ref tp, .int 0, .int 0, .int (-1), .ref rd, .ref gd, .ref im, .ref rw, .ref gn, .ref ho, .ref sq])), (gd, .inr (0, [.ref pl, .int 0, .long 0, .long 0, .int 0, .int (-1), .int 0, .ref gdt, .int 0, .ref gdu, .int 0, .ref gdn])), (pl, .inr (3, [.int 0, .int 0, .int 0, .int 0, .long 0, .ref plf, .ref plo, .ref plb, .ref pla]))] U.heap ∧ va_K (dC, dI) vwCl [] U ∧ va_D (fun _ => True) [(h0, .inr (6, [.ref tp, .int 0, .int 0, .int (-1), .ref rd, .ref gd, .ref im, .ref rw, .ref gn, .ref ho, .ref sq])), (gd, .inr (0, [.ref pl, .int 0, .long 0, .long 0, .int 0, .int (-1), .int 0, .ref gdt, .int 0, .ref gdu, .int 0, .ref gdn])), (pl, .inr (3, [.int 0, .int 0, .int 0, .int 0, .long 0, .ref plf, .ref plo, .ref plb, .ref pla]))])) (va_Qi (fun (r : Int32) (u : Unit) => r = -2) (fun (_ : Unit) (_ : State) => True) (va_A [(h0, .inr (6, [.ref tp, .int 0, .int 0, .int (-1), .ref rd, .ref gd, .ref im, .ref rw, .ref gn, .ref ho, .ref sq])), (gd, .inr (0, [.ref pl, .int 0, .long 0, .long 0, .int 0, .int (-1), .int 0, .ref gdt, .int 0, .ref gdu, .int 0, .ref gdn])), (pl, .inr (3, [.int 0, .int 0, .int 0, .int 0, .long 0, .ref plf, .ref plo, .ref plb, .ref pla]))] sz)) 0 0 (va_A [(h0, .inr (6, [.ref tp, .int 0, .int 0, .int (-1), .ref rd, .ref gd, .ref im, .ref rw, .ref gn, .ref ho, .ref sq])), (gd, .inr (0, [.ref pl, .int 0, .long 0, .long 0, .int 0, .int (-1), .int 0, .ref gdt, .int 0, .ref gdu, .int 0, .ref gdn])), (pl, .inr (3, [.int 0, .int 0, .int 0, .int 0, .long 0, .ref plf, .ref plo, .ref plb, .ref pla]))] sz) := by
  refine Met.ofW (cc := cX6_goes) (maxL := 4) (ret := (some .int)) (by decide) rfl ?_
  intro p e s m args below meth c s₁ B hml hv
  obtain ⟨rfl, hsz, hP, hK, hD0⟩ := hv
  have hx := B.exec
  have hb := B.bytes
  have hr := B.returns
  have hts := atoms_spec (ws := wz_X6_goes) B.pre
  have hown : s.vm.findClass RX6 = some m.cls := findClass_of_methodNamed B.named
  have hlocks := B.notSynchronized
  subst hsz
  have hD := hD0.self (sz := s.heap.size)
  generalize hAe : va_A [(h0, .inr (6, [.ref tp, .int 0, .int 0, .int (-1), .ref rd, .ref gd, .ref im, .ref rw, .ref gn, .ref ho, .ref sq])), (gd, .inr (0, [.ref pl, .int 0, .long 0, .long 0, .int 0, .int (-1), .int 0, .ref gdt, .int 0, .ref gdu, .int 0, .ref gdn])), (pl, .inr (3, [.int 0, .int 0, .int 0, .int 0, .long 0, .ref plf, .ref plo, .ref plb, .ref pla]))] s.heap.size = A at hD ⊢
  have hA : ∀ q : Nat, s.heap.size ≤ q → A q := fun q h => by rw [← hAe]; exact Or.inr h
  have hS : va_S A s.heap s.heap [] := va_S.rf
  have hP : va_P (dC, dI) vwCl [(h0, .inr (6, [.ref tp, .int 0, .int 0, .int (-1), .ref rd, .ref gd, .ref im, .ref rw, .ref gn, .ref ho, .ref sq])), (gd, .inr (0, [.ref pl, .int 0, .long 0, .long 0, .int 0, .int (-1), .int 0, .ref gdt, .int 0, .ref gdu, .int 0, .ref gdn])), (pl, .inr (3, [.int 0, .int 0, .int 0, .int 0, .long 0, .ref plf, .ref plo, .ref plb, .ref pla]))] s.heap := hP
  have hl := lv_entry ([.ref h0, .int p0, .int p1]) (n := 4) (Nat.le_of_ble_eq_true rfl)
  rw [lg_entry_eq]
  generalize (lg_sl ([.ref h0, .int p0, .int p1]) ++ List.replicate (4 - (lg_sl ([.ref h0, .int p0, .int p1])).length) Slot.unset).toArray = ls at hl ⊢
  have hl : lv_has ls 4 [(0, .ref h0), (1, .int p0), (2, .int p1)] := hl
  refine lv_aload_n hx hb dX6_goes_0 rfl (lv_at hl 0 rfl) ?_
  refine lv_iload_n hx hb dX6_goes_1 rfl (lv_at hl 1 rfl) ?_
  have hPc := hP.sub (ws' := [(h0, .inr (6, [.ref tp, .int 0, .int 0, .int (-1), .ref rd, .ref gd, .ref im, .ref rw, .ref gn, .ref ho, .ref sq])), (gd, .inr (0, [.ref pl, .int 0, .long 0, .long 0, .int 0, .int (-1), .int 0, .ref gdt, .int 0, .ref gdu, .int 0, .ref gdn]))]) [0, 1] rfl
  have hDc := hD.sub (ws' := [(h0, .inr (6, [.ref tp, .int 0, .int 0, .int (-1), .ref rd, .ref gd, .ref im, .ref rw, .ref gn, .ref ho, .ref sq])), (gd, .inr (0, [.ref pl, .int 0, .long 0, .long 0, .int 0, .int (-1), .int 0, .ref gdt, .int 0, .ref gdu, .int 0, .ref gdn]))]) [0, 1] (by decide) rfl
  have hKc := hK.sub (tys' := []) [] rfl
  have hFc := va_free (wc := [(h0, .inr (6, [.ref tp, .int 0, .int 0, .int (-1), .ref rd, .ref gd, .ref im, .ref rw, .ref gn, .ref ho, .ref sq])), (gd, .inr (0, [.ref pl, .int 0, .long 0, .long 0, .int 0, .int (-1), .int 0, .ref gdt, .int 0, .ref gdu, .int 0, .ref gdn]))]) hD hS hA [0, 1] rfl
  refine va_calli (va_runV (As := [.int p0]) (rest := []) ⟨hx, hb, hml, hown, hts⟩ (c_X6_isGuest l dC dI s.heap.size h0 tp rd gd im rw gn ho sq pl gdt gdu gdn p0 ) (cwV 1 hts g_X6_goes_X6_isGuest rfl rfl rfl (by decide +kernel) ⟨Nat.le_of_ble_eq_true rfl, Nat.le_of_ble_eq_true rfl⟩) ⟨fun a U g mk q => by obtain ⟨q0, q1, qP, qK, qD⟩ := q; exact ⟨q0, q1, qP, va_K.moved (u := U) (U := U.calling g mk a) (Vm.Alike.refl U.vm) qK, qD⟩, va_recv hKc hPc (ci := 6) (q0 := 0) rfl rfl, fun U hU hW => ⟨rfl, by rw [hU], by rw [hU]; exact hPc, va_K.moved hW.alike hKc, hDc.weaken (fun _ _ _ _ => trivial)⟩⟩ rfl rfl hl.1 rfl (lv_room (Nat.le_of_ble_eq_true rfl)) dX6_goes_2 ⟨Nat.le_of_ble_eq_true rfl, Nat.le_of_ble_eq_true rfl⟩) hS (fun q _ h => hFc q h) hFc (fun r_1 u t H1 locs ht hvm hw_2 hB hz1 hk1 hS => ?_)
  obtain ⟨hP1, hK1, hD1⟩ := hB
  have hP1 : va_P (dC, dI) vwCl [(h0, .inr (6, [.ref tp, .int 0, .int 0, .int (-1), .ref rd, .ref gd, .ref im, .ref rw, .ref gn, .ref ho, .ref sq])), (gd, .inr (0, [.ref pl, .int 0, .long 0, .long 0, .int 0, .int (-1), .int 0, .ref gdt, .int 0, .ref gdu, .int 0, .ref gdn]))] t.heap := hP1
  rw [ht] at hP1
  try dsimp only at hw_2
  obtain ⟨hP, hD⟩ := va_join (wr := [(pl, .inr (3, [.int 0, .int 0, .int 0, .int 0, .long 0, .ref plf, .ref plo, .ref plb, .ref pla]))]) (w1 := [(h0, .inr (6, [.ref tp, .int 0, .int 0, .int (-1), .ref rd, .ref gd, .ref im, .ref rw, .ref gn, .ref ho, .ref sq])), (gd, .inr (0, [.ref pl, .int 0, .long 0, .long 0, .int 0, .int (-1), .int 0, .ref gdt, .int 0, .ref gdu, .int 0, .ref gdn]))]) hP hD [0, 1] [2] rfl rfl (by decide) (by decide) hk1 hFc hP1 hD1
  generalize H1 = H at hP hS ⊢
  have hP : va_P (dC, dI) vwCl [(pl, .inr (3, [.int 0, .int 0, .int 0, .int 0, .long 0, .ref plf, .ref plo, .ref plb, .ref pla])), (h0, .inr (6, [.ref tp, .int 0, .int 0, .int (-1), .ref rd, .ref gd, .ref im, .ref rw, .ref gn, .ref ho, .ref sq])), (gd, .inr (0, [.ref pl, .int 0, .long 0, .long 0, .int 0, .int (-1), .int 0, .ref gdt, .int 0, .ref gdu, .int 0, .ref gdn]))] H := hP
  have hD : va_D A [(pl, .inr (3, [.int 0, .int 0, .int 0, .int 0, .long 0, .ref plf, .ref plo, .ref plb, .ref pla])), (h0, .inr (6, [.ref tp, .int 0, .int 0, .int (-1), .ref rd, .ref gd, .ref im, .ref rw, .ref gn, .ref ho, .ref sq])), (gd, .inr (0, [.ref pl, .int 0, .long 0, .long 0, .int 0, .int (-1), .int 0, .ref gdt, .int 0, .ref gdu, .int 0, .ref gdn]))] := hD
  obtain rfl : r_1 = 0 := hw_2
  refine lv_if_eq (tgt := 16) hx hb dX6_goes_5 (by decide) (fun _ => ?_) (fun h => absurd (by decide) h)
  refine lv_bipush (v := -2) hx hb dX6_goes_16 (by decide) ?_
  refine W.widen (k := 0) (n := 0) (by omega) (by omega) ?_
  exact W.iret (v := -2) hx hb hr (fun t ht hW => ⟨⟨(-2), (), rfl, (by first | rfl | ((repeat' split) <;> (first | rfl | (exfalso; omega)))), trivial⟩, hS.F ht⟩) hS.2.2 dX6_goes_18

theorem dX6_walk_0 : decode cX6_walk 0 = .ok (.aload_n 0, 1) := by decide +kernel
theorem dX6_walk_1 : decode cX6_walk 1 = .ok (.iload_n 1, 1) := by decide +kernel
theorem dX6_walk_2 : decode cX6_walk 2 = .ok (.iload_n 2, 1) := by decide +kernel
theorem dX6_walk_3 : decode cX6_walk 3 = .ok (.invokevirtual 293, 3) := by decide +kernel
theorem dX6_walk_6 : decode cX6_walk 6 = .ok (.istore_n 3, 1) := by decide +kernel
theorem dX6_walk_7 : decode cX6_walk 7 = .ok (.iload_n 3, 1) := by decide +kernel
theorem dX6_walk_8 : decode cX6_walk 8 = .ok (.ifCond .eq 7, 3) := by decide +kernel
theorem dX6_walk_11 : decode cX6_walk 11 = .ok (.iload_n 3, 1) := by decide +kernel
theorem dX6_walk_12 : decode cX6_walk 12 = .ok (.goto 15, 3) := by decide +kernel
theorem dX6_walk_27 : decode cX6_walk 27 = .ok (.ireturn, 1) := by decide +kernel
def wz_X6_walk : List Cond := .code yX6_walk cX6_walk 4 (some .int) :: ([Cond.methodLink RX6 293 yX6_refusalOfWalk, Cond.instanceMethod yX6_refusalOfWalk, Cond.selects RX6 yX6_refusalOfWalk yX6_refusalOfWalk, Cond.initialized RX6, Cond.code yX6_refusalOfWalk cX6_refusalOfWalk 5 (some .int), Cond.methodLink RX6 211 yX6_isSlot, Cond.static yX6_isSlot, Cond.code yX6_isSlot cX6_isSlot 1 (some .boolean), Cond.methodLink RX6 99 yX6_isCell, Cond.instanceMethod yX6_isCell, Cond.selects RX6 yX6_isCell yX6_isCell, Cond.code yX6_isCell cX6_isCell 2 (some .boolean), Cond.fieldLink RX6 33 "HedgeMaze" "garden" "LHedgeMaze$Garden;", Cond.fieldLink RX6 90 "HedgeMaze$Garden" "plan" "LHedgeMaze$Plan;", Cond.fieldLink RX6 169 "HedgeMaze$Plan" "cellCount" "I"] ++ wsX60 ++ wsX00 ++ wsX30)
set_option maxRecDepth 20000 in
theorem g_X6_walk_X6_refusalOfWalk : GoodIn wz_X6_walk (wsV RX6 293 RX6 yX6_refusalOfWalk wz_X6_refusalOfWalk) := goodIn_r _ [1, 2, 3, 4, 5, 6, 7, 4, 8, 9, 10, 11, 12, 13, 14, 15, 16, 17, 18, 19, 20, 21, 22, 23, 24, 25, 26, 27, 28, 29, 30, 31, 32, 33, 34, 35, 36, 37, 38, 39, 40, 41, 42, 43, 44, 45, 46, 47] rfl (by decide +kernel)
set_option maxHeartbeats 4000000 in
set_option maxRecDepth 100000 in
theorem c_X6_walk (l : Launch) (dC : Nat → ClassId) (dI : Nat → Nat → Nat) (sz : Nat) (h0 : Nat) (tp : Nat) (rd : Nat) (gd : Nat) (im : Nat) (rw : Nat) (gn : Nat) (ho : Nat) (sq : Nat) (pl : Nat) (gdt : Nat) (gdu : Nat) (gdn : Nat) (plf : Nat) (plo : Nat) (plb : Nat) (pla : Nat) (p0 : Int32) (p1 : Int32)  : Met l yX6_walk wz_X6_walk ({ frames := 2, cells := 0, slots := 0, locals := 45 }) (va_Pc [.ref h0, .int p0, .int p1] (fun U => U.heap.size = sz ∧ va_P (dC, dI) vwCl [(h0, .inr (6, [.ref tp, .int 0, .int 0, .int (-1), .ref rd, .ref gd, .ref im, .ref rw, .ref gn, .ref ho, .ref sq])), (gd, .inr (0, [.ref pl, .int 0, .long 0, .long 0, .int 0, .int (-1), .int 0, .ref gdt, .int 0, .ref gdu, .int 0, .ref gdn])), (pl, .inr (3, [.int 0, .int 0, .int 0, .int 0, .long 0, .ref plf, .ref plo, .ref plb, .ref pla]))] U.heap ∧ va_K (dC, dI) vwCl [] U ∧ va_D (fun _ => True) [(h0, .inr (6, [.ref tp, .int 0, .int 0, .int (-1), .ref rd, .ref gd, .ref im, .ref rw, .ref gn, .ref ho, .ref sq])), (gd, .inr (0, [.ref pl, .int 0, .long 0, .long 0, .int 0, .int (-1), .int 0, .ref gdt, .int 0, .ref gdu, .int 0, .ref gdn])), (pl, .inr (3, [.int 0, .int 0, .int 0, .int 0, .long 0, .ref plf, .ref plo, .ref plb, .ref pla]))])) (va_Qi (fun (r : Int32) (u : Unit) => r = -2) (fun (_ : Unit) (_ : State) => True) (va_A [(h0, .inr (6, [.ref tp, .int 0, .int 0, .int (-1), .ref rd, .ref gd, .ref im, .ref rw, .ref gn, .ref ho, .ref sq])), (gd, .inr (0, [.ref pl, .int 0, .long 0, .long 0, .int 0, .int (-1), .int 0, .ref gdt, .int 0, .ref gdu, .int 0, .ref gdn])), (pl, .inr (3, [.int 0, .int 0, .int 0, .int 0, .long 0, .ref plf, .ref plo, .ref plb, .ref pla]))] sz)) 0 0 (va_A [(h0, .inr (6, [.ref tp, .int 0, .int 0, .int (-1), .ref rd, .ref gd, .ref im, .ref rw, .ref gn, .ref ho, .ref sq])), (gd, .inr (0, [.ref pl, .int 0, .long 0, .long 0, .int 0, .int (-1), .int 0, .ref gdt, .int 0, .ref gdu, .int 0, .ref gdn])), (pl, .inr (3, [.int 0, .int 0, .int 0, .int 0, .long 0, .ref plf, .ref plo, .ref plb, .ref pla]))] sz) := by
  refine Met.ofW (cc := cX6_walk) (maxL := 4) (ret := (some .int)) (by decide) rfl ?_
  intro p e s m args below meth c s₁ B hml hv
  obtain ⟨rfl, hsz, hP, hK, hD0⟩ := hv
  have hx := B.exec
  have hb := B.bytes
  have hr := B.returns
  have hts := atoms_spec (ws := wz_X6_walk) B.pre
  have hown : s.vm.findClass RX6 = some m.cls := findClass_of_methodNamed B.named
  have hlocks := B.notSynchronized
  subst hsz
  have hD := hD0.self (sz := s.heap.size)
  generalize hAe : va_A [(h0, .inr (6, [.ref tp, .int 0, .int 0, .int (-1), .ref rd, .ref gd, .ref im, .ref rw, .ref gn, .ref ho, .ref sq])), (gd, .inr (0, [.ref pl, .int 0, .long 0, .long 0, .int 0, .int (-1), .int 0, .ref gdt, .int 0, .ref gdu, .int 0, .ref gdn])), (pl, .inr (3, [.int 0, .int 0, .int 0, .int 0, .long 0, .ref plf, .ref plo, .ref plb, .ref pla]))] s.heap.size = A at hD ⊢
  have hA : ∀ q : Nat, s.heap.size ≤ q → A q := fun q h => by rw [← hAe]; exact Or.inr h
  have hS : va_S A s.heap s.heap [] := va_S.rf
  have hP : va_P (dC, dI) vwCl [(h0, .inr (6, [.ref tp, .int 0, .int 0, .int (-1), .ref rd, .ref gd, .ref im, .ref rw, .ref gn, .ref ho, .ref sq])), (gd, .inr (0, [.ref pl, .int 0, .long 0, .long 0, .int 0, .int (-1), .int 0, .ref gdt, .int 0, .ref gdu, .int 0, .ref gdn])), (pl, .inr (3, [.int 0, .int 0, .int 0, .int 0, .long 0, .ref plf, .ref plo, .ref plb, .ref pla]))] s.heap := hP
  have hl := lv_entry ([.ref h0, .int p0, .int p1]) (n := 4) (Nat.le_of_ble_eq_true rfl)
  rw [lg_entry_eq]
  generalize (lg_sl ([.ref h0, .int p0, .int p1]) ++ List.replicate (4 - (lg_sl ([.ref h0, .int p0, .int p1])).length) Slot.unset).toArray = ls at hl ⊢
  have hl : lv_has ls 4 [(0, .ref h0), (1, .int p0), (2, .int p1)] := hl
  refine lv_aload_n hx hb dX6_walk_0 rfl (lv_at hl 0 rfl) ?_
  refine lv_iload_n hx hb dX6_walk_1 rfl (lv_at hl 1 rfl) ?_
  refine lv_iload_n hx hb dX6_walk_2 rfl (lv_at hl 2 rfl) ?_
  have hPc := hP.sub (ws' := [(h0, .inr (6, [.ref tp, .int 0, .int 0, .int (-1), .ref rd, .ref gd, .ref im, .ref rw, .ref gn, .ref ho, .ref sq])), (gd, .inr (0, [.ref pl, .int 0, .long 0, .long 0, .int 0, .int (-1), .int 0, .ref gdt, .int 0, .ref gdu, .int 0, .ref gdn])), (pl, .inr (3, [.int 0, .int 0, .int 0, .int 0, .long 0, .ref plf, .ref plo, .ref plb, .ref pla]))]) [0, 1, 2] rfl
  have hDc := hD.sub (ws' := [(h0, .inr (6, [.ref tp, .int 0, .int 0, .int (-1), .ref rd, .ref gd, .ref im, .ref rw, .ref gn, .ref ho, .ref sq])), (gd, .inr (0, [.ref pl, .int 0, .long 0, .long 0, .int 0, .int (-1), .int 0, .ref gdt, .int 0, .ref gdu, .int 0, .ref gdn])), (pl, .inr (3, [.int 0, .int 0, .int 0, .int 0, .long 0, .ref plf, .ref plo, .ref plb, .ref pla]))]) [0, 1, 2] (by decide) rfl
  have hKc := hK.sub (tys' := []) [] rfl
  have hFc := va_free (wc := [(h0, .inr (6, [.ref tp, .int 0, .int 0, .int (-1), .ref rd, .ref gd, .ref im, .ref rw, .ref gn, .ref ho, .ref sq])), (gd, .inr (0, [.ref pl, .int 0, .long 0, .long 0, .int 0, .int (-1), .int 0, .ref gdt, .int 0, .ref gdu, .int 0, .ref gdn])), (pl, .inr (3, [.int 0, .int 0, .int 0, .int 0, .long 0, .ref plf, .ref plo, .ref plb, .ref pla]))]) hD hS hA [0, 1, 2] rfl
  refine va_calli (va_runV (As := [.int p0, .int p1]) (rest := []) ⟨hx, hb, hml, hown, hts⟩ (c_X6_refusalOfWalk l dC dI s.heap.size h0 tp rd gd im rw gn ho sq pl gdt gdu gdn plf plo plb pla p0 p1 ) (cwV 2 hts g_X6_walk_X6_refusalOfWalk rfl rfl rfl (by decide +kernel) ⟨Nat.le_of_ble_eq_true rfl, Nat.le_of_ble_eq_true rfl⟩) ⟨fun a U g mk q => by obtain ⟨q0, q1, qP, qK, qD⟩ := q; exact ⟨q0, q1, qP, va_K.moved (u := U) (U := U.calling g mk a) (Vm.Alike.refl U.vm) qK, qD⟩, va_recv hKc hPc (ci := 6) (q0 := 0) rfl rfl, fun U hU hW => ⟨rfl, by rw [hU], by rw [hU]; exact hPc, va_K.moved hW.alike hKc, hDc.weaken (fun _ _ _ _ => trivial)⟩⟩ rfl rfl hl.1 rfl (lv_room (Nat.le_of_ble_eq_true rfl)) dX6_walk_3 ⟨Nat.le_of_ble_eq_true rfl, Nat.le_of_ble_eq_true rfl⟩) hS (fun q _ h => hFc q h) hFc (fun r_1 u t H1 locs ht hvm hw_2 hB hz1 hk1 hS => ?_)
  have hP1 : va_P (dC, dI) vwCl [] H1 := i_nilP
  have hD1 : va_D (va_A [(h0, .inr (6, [.ref tp, .int 0, .int 0, .int (-1), .ref rd, .ref gd, .ref im, .ref rw, .ref gn, .ref ho, .ref sq])), (gd, .inr (0, [.ref pl, .int 0, .long 0, .long 0, .int 0, .int (-1), .int 0, .ref gdt, .int 0, .ref gdu, .int 0, .ref gdn])), (pl, .inr (3, [.int 0, .int 0, .int 0, .int 0, .long 0, .ref plf, .ref plo, .ref plb, .ref pla]))] s.heap.size) [] := i_nilD
  try dsimp only at hw_2
  obtain ⟨hP, hD⟩ := va_join (wr := []) (w1 := []) hP hD [0, 1, 2] [] rfl rfl (by decide) (by decide) hk1 hFc hP1 hD1
  generalize H1 = H at hP hS ⊢
  have hP : va_P (dC, dI) vwCl [] H := hP
  have hD : va_D A [] := hD
  obtain rfl : r_1 = -2 := hw_2
  refine lv_istore_n (lv' := [(3, .int (-2)), (0, .ref h0), (1, .int p0), (2, .int p1)]) hx hb dX6_walk_6 rfl hl (by decide) rfl (fun ls hl => ?_)
  refine lv_iload_n hx hb dX6_walk_7 rfl (lv_at hl 0 rfl) ?_
  refine lv_if_eq (tgt := 15) hx hb dX6_walk_8 (by decide) (fun h => absurd h (by decide)) (fun _ => ?_)
  refine lv_iload_n hx hb dX6_walk_11 rfl (lv_at hl 0 rfl) ?_
  refine lv_goto (tgt := 27) hx hb dX6_walk_12 (by decide) ?_
  refine W.widen (k := 0) (n := 0) (by omega) (by omega) ?_
  exact W.iret (v := -2) hx hb hr (fun t ht hW => ⟨⟨(-2), (), rfl, (by first | rfl | ((repeat' split) <;> (first | rfl | (exfalso; omega)))), trivial⟩, hS.F ht⟩) hS.2.2 dX6_walk_27

theorem dX6_ends_0 : decode cX6_ends 0 = .ok (.aload_n 0, 1) := by decide +kernel
theorem dX6_ends_1 : decode cX6_ends 1 = .ok (.iload_n 1, 1) := by decide +kernel
theorem dX6_ends_2 : decode cX6_ends 2 = .ok (.iload_n 2, 1) := by decide +kernel
theorem dX6_ends_3 : decode cX6_ends 3 = .ok (.invokevirtual 293, 3) := by decide +kernel
theorem dX6_ends_6 : decode cX6_ends 6 = .ok (.istore_n 3, 1) := by decide +kernel
theorem dX6_ends_7 : decode cX6_ends 7 = .ok (.iload_n 3, 1) := by decide +kernel
theorem dX6_ends_8 : decode cX6_ends 8 = .ok (.ifCond .eq 7, 3) := by decide +kernel
theorem dX6_ends_11 : decode cX6_ends 11 = .ok (.iload_n 3, 1) := by decide +kernel
theorem dX6_ends_12 : decode cX6_ends 12 = .ok (.goto 15, 3) := by decide +kernel
theorem dX6_ends_27 : decode cX6_ends 27 = .ok (.ireturn, 1) := by decide +kernel
def wz_X6_ends : List Cond := .code yX6_ends cX6_ends 4 (some .int) :: ([Cond.methodLink RX6 293 yX6_refusalOfWalk, Cond.instanceMethod yX6_refusalOfWalk, Cond.selects RX6 yX6_refusalOfWalk yX6_refusalOfWalk, Cond.initialized RX6, Cond.code yX6_refusalOfWalk cX6_refusalOfWalk 5 (some .int), Cond.methodLink RX6 211 yX6_isSlot, Cond.static yX6_isSlot, Cond.code yX6_isSlot cX6_isSlot 1 (some .boolean), Cond.methodLink RX6 99 yX6_isCell, Cond.instanceMethod yX6_isCell, Cond.selects RX6 yX6_isCell yX6_isCell, Cond.code yX6_isCell cX6_isCell 2 (some .boolean), Cond.fieldLink RX6 33 "HedgeMaze" "garden" "LHedgeMaze$Garden;", Cond.fieldLink RX6 90 "HedgeMaze$Garden" "plan" "LHedgeMaze$Plan;", Cond.fieldLink RX6 169 "HedgeMaze$Plan" "cellCount" "I"] ++ wsX60 ++ wsX00 ++ wsX30)
set_option maxRecDepth 20000 in
theorem g_X6_ends_X6_refusalOfWalk : GoodIn wz_X6_ends (wsV RX6 293 RX6 yX6_refusalOfWalk wz_X6_refusalOfWalk) := goodIn_r _ [1, 2, 3, 4, 5, 6, 7, 4, 8, 9, 10, 11, 12, 13, 14, 15, 16, 17, 18, 19, 20, 21, 22, 23, 24, 25, 26, 27, 28, 29, 30, 31, 32, 33, 34, 35, 36, 37, 38, 39, 40, 41, 42, 43, 44, 45, 46, 47] rfl (by decide +kernel)
set_option maxHeartbeats 4000000 in
set_option maxRecDepth 100000 in
theorem c_X6_ends (l : Launch) (dC : Nat → ClassId) (dI : Nat → Nat → Nat) (sz : Nat) (h0 : Nat) (tp : Nat) (rd : Nat) (gd : Nat) (im : Nat) (rw : Nat) (gn : Nat) (ho : Nat) (sq : Nat) (pl : Nat) (gdt : Nat) (gdu : Nat) (gdn : Nat) (plf : Nat) (plo : Nat) (plb : Nat) (pla : Nat) (p0 : Int32) (p1 : Int32)  : Met l yX6_ends wz_X6_ends ({ frames := 2, cells := 0, slots := 0, locals := 45 }) (va_Pc [.ref h0, .int p0, .int p1] (fun U => U.heap.size = sz ∧ va_P (dC, dI) vwCl [(h0, .inr (6, [.ref tp, .int 0, .int 0, .int (-1), .ref rd, .ref gd, .ref im, .ref rw, .ref gn, .ref ho, .ref sq])), (gd, .inr (0, [.ref pl, .int 0, .long 0, .long 0, .int 0, .int (-1), .int 0, .ref gdt, .int 0, .ref gdu, .int 0, .ref gdn])), (pl, .inr (3, [.int 0, .int 0, .int 0, .int 0, .long 0, .ref plf, .ref plo, .ref plb, .ref pla]))] U.heap ∧ va_K (dC, dI) vwCl [] U ∧ va_D (fun _ => True) [(h0, .inr (6, [.ref tp, .int 0, .int 0, .int (-1), .ref rd, .ref gd, .ref im, .ref rw, .ref gn, .ref ho, .ref sq])), (gd, .inr (0, [.ref pl, .int 0, .long 0, .long 0, .int 0, .int (-1), .int 0, .ref gdt, .int 0, .ref gdu, .int 0, .ref gdn])), (pl, .inr (3, [.int 0, .int 0, .int 0, .int 0, .long 0, .ref plf, .ref plo, .ref plb, .ref pla]))])) (va_Qi (fun (r : Int32) (u : Unit) => r = -2) (fun (_ : Unit) (_ : State) => True) (va_A [(h0, .inr (6, [.ref tp, .int 0, .int 0, .int (-1), .ref rd, .ref gd, .ref im, .ref rw, .ref gn, .ref ho, .ref sq])), (gd, .inr (0, [.ref pl, .int 0, .long 0, .long 0, .int 0, .int (-1), .int 0, .ref gdt, .int 0, .ref gdu, .int 0, .ref gdn])), (pl, .inr (3, [.int 0, .int 0, .int 0, .int 0, .long 0, .ref plf, .ref plo, .ref plb, .ref pla]))] sz)) 0 0 (va_A [(h0, .inr (6, [.ref tp, .int 0, .int 0, .int (-1), .ref rd, .ref gd, .ref im, .ref rw, .ref gn, .ref ho, .ref sq])), (gd, .inr (0, [.ref pl, .int 0, .long 0, .long 0, .int 0, .int (-1), .int 0, .ref gdt, .int 0, .ref gdu, .int 0, .ref gdn])), (pl, .inr (3, [.int 0, .int 0, .int 0, .int 0, .long 0, .ref plf, .ref plo, .ref plb, .ref pla]))] sz) := by
  refine Met.ofW (cc := cX6_ends) (maxL := 4) (ret := (some .int)) (by decide) rfl ?_
  intro p e s m args below meth c s₁ B hml hv
  obtain ⟨rfl, hsz, hP, hK, hD0⟩ := hv
  have hx := B.exec
  have hb := B.bytes
  have hr := B.returns
  have hts := atoms_spec (ws := wz_X6_ends) B.pre
  have hown : s.vm.findClass RX6 = some m.cls := findClass_of_methodNamed B.named
  have hlocks := B.notSynchronized
  subst hsz
  have hD := hD0.self (sz := s.heap.size)
  generalize hAe : va_A [(h0, .inr (6, [.ref tp, .int 0, .int 0, .int (-1), .ref rd, .ref gd, .ref im, .ref rw, .ref gn, .ref ho, .ref sq])), (gd, .inr (0, [.ref pl, .int 0, .long 0, .long 0, .int 0, .int (-1), .int 0, .ref gdt, .int 0, .ref gdu, .int 0, .ref gdn])), (pl, .inr (3, [.int 0, .int 0, .int 0, .int 0, .long 0, .ref plf, .ref plo, .ref plb, .ref pla]))] s.heap.size = A at hD ⊢
  have hA : ∀ q : Nat, s.heap.size ≤ q → A q := fun q h => by rw [← hAe]; exact Or.inr h
  have hS : va_S A s.heap s.heap [] := va_S.rf
  have hP : va_P (dC, dI) vwCl [(h0, .inr (6, [.ref tp, .int 0, .int 0, .int (-1), .ref rd, .ref gd, .ref im, .ref rw, .ref gn, .ref ho, .ref sq])), (gd, .inr (0, [.ref pl, .int 0, .long 0, .long 0, .int 0, .int (-1), .int 0, .ref gdt, .int 0, .ref gdu, .int 0, .ref gdn])), (pl, .inr (3, [.int 0, .int 0, .int 0, .int 0, .long 0, .ref plf, .ref plo, .ref plb, .ref pla]))] s.heap := hP
  have hl := lv_entry ([.ref h0, .int p0, .int p1]) (n := 4) (Nat.le_of_ble_eq_true rfl)
  rw [lg_entry_eq]
  generalize (lg_sl ([.ref h0, .int p0, .int p1]) ++ List.replicate (4 - (lg_sl ([.ref h0, .int p0, .int p1])).length) Slot.unset).toArray = ls at hl ⊢
  have hl : lv_has ls 4 [(0, .ref h0), (1, .int p0), (2, .int p1)] := hl
  refine lv_aload_n hx hb dX6_ends_0 rfl (lv_at hl 0 rfl) ?_
  refine lv_iload_n hx hb dX6_ends_1 rfl (lv_at hl 1 rfl) ?_
  refine lv_iload_n hx hb dX6_ends_2 rfl (lv_at hl 2 rfl) ?_
  have hPc := hP.sub (ws' := [(h0, .inr (6, [.ref tp, .int 0, .int 0, .int (-1), .ref rd, .ref gd, .ref im, .ref rw, .ref gn, .ref ho, .ref sq])), (gd, .inr (0, [.ref pl, .int 0, .long 0, .long 0, .int 0, .int (-1), .int 0, .ref gdt, .int 0, .ref gdu, .int 0, .ref gdn])), (pl, .inr (3, [.int 0, .int 0, .int 0, .int 0, .long 0, .ref plf, .ref plo, .ref plb, .ref pla]))]) [0, 1, 2] rfl
  have hDc := hD.sub (ws' := [(h0, .inr (6, [.ref tp, .int 0, .int 0, .int (-1), .ref rd, .ref gd, .ref im, .ref rw, .ref gn, .ref ho, .ref sq])), (gd, .inr (0, [.ref pl, .int 0, .long 0, .long 0, .int 0, .int (-1), .int 0, .ref gdt, .int 0, .ref gdu, .int 0, .ref gdn])), (pl, .inr (3, [.int 0, .int 0, .int 0, .int 0, .long 0, .ref plf, .ref plo, .ref plb, .ref pla]))]) [0, 1, 2] (by decide) rfl
  have hKc := hK.sub (tys' := []) [] rfl
  have hFc := va_free (wc := [(h0, .inr (6, [.ref tp, .int 0, .int 0, .int (-1), .ref rd, .ref gd, .ref im, .ref rw, .ref gn, .ref ho, .ref sq])), (gd, .inr (0, [.ref pl, .int 0, .long 0, .long 0, .int 0, .int (-1), .int 0, .ref gdt, .int 0, .ref gdu, .int 0, .ref gdn])), (pl, .inr (3, [.int 0, .int 0, .int 0, .int 0, .long 0, .ref plf, .ref plo, .ref plb, .ref pla]))]) hD hS hA [0, 1, 2] rfl
  refine va_calli (va_runV (As := [.int p0, .int p1]) (rest := []) ⟨hx, hb, hml, hown, hts⟩ (c_X6_refusalOfWalk l dC dI s.heap.size h0 tp rd gd im rw gn ho sq pl gdt gdu gdn plf plo plb pla p0 p1 ) (cwV 2 hts g_X6_ends_X6_refusalOfWalk rfl rfl rfl (by decide +kernel) ⟨Nat.le_of_ble_eq_true rfl, Nat.le_of_ble_eq_true rfl⟩) ⟨fun a U g mk q => by obtain ⟨q0, q1, qP, qK, qD⟩ := q; exact ⟨q0, q1, qP, va_K.moved (u := U) (U := U.calling g mk a) (Vm.Alike.refl U.vm) qK, qD⟩, va_recv hKc hPc (ci := 6) (q0 := 0) rfl rfl, fun U hU hW => ⟨rfl, by rw [hU], by rw [hU]; exact hPc, va_K.moved hW.alike hKc, hDc.weaken (fun _ _ _ _ => trivial)⟩⟩ rfl rfl hl.1 rfl (lv_room (Nat.le_of_ble_eq_true rfl)) dX6_ends_3 ⟨Nat.le_of_ble_eq_true rfl, Nat.le_of_ble_eq_true rfl⟩) hS (fun q _ h => hFc q h) hFc (fun r_1 u t H1 locs ht hvm hw_2 hB hz1 hk1 hS => ?_)
  have hP1 : va_P (dC, dI) vwCl [] H1 := i_nilP
  have hD1 : va_D (va_A [(h0, .inr (6, [.ref tp, .int 0, .int 0, .int (-1), .ref rd, .ref gd, .ref im, .ref rw, .ref gn, .ref ho, .ref sq])), (gd, .inr (0, [.ref pl, .int 0, .long 0, .long 0, .int 0, .int (-1), .int 0, .ref gdt, .int 0, .ref gdu, .int 0, .ref gdn])), (pl, .inr (3, [.int 0, .int 0, .int 0, .int 0, .long 0, .ref plf, .ref plo, .ref plb, .ref pla]))] s.heap.size) [] := i_nilD
  try dsimp only at hw_2
  obtain ⟨hP, hD⟩ := va_join (wr := []) (w1 := []) hP hD [0, 1, 2] [] rfl rfl (by decide) (by decide) hk1 hFc hP1 hD1
  generalize H1 = H at hP hS ⊢
  have hP : va_P (dC, dI) vwCl [] H := hP
  have hD : va_D A [] := hD
  obtain rfl : r_1 = -2 := hw_2
  refine lv_istore_n (lv' := [(3, .int (-2)), (0, .ref h0), (1, .int p0), (2, .int p1)]) hx hb dX6_ends_6 rfl hl (by decide) rfl (fun ls hl => ?_)
  refine lv_iload_n hx hb dX6_ends_7 rfl (lv_at hl 0 rfl) ?_
  refine lv_if_eq (tgt := 15) hx hb dX6_ends_8 (by decide) (fun h => absurd h (by decide)) (fun _ => ?_)
  refine lv_iload_n hx hb dX6_ends_11 rfl (lv_at hl 0 rfl) ?_
  refine lv_goto (tgt := 27) hx hb dX6_ends_12 (by decide) ?_
  refine W.widen (k := 0) (n := 0) (by omega) (by omega) ?_
  exact W.iret (v := -2) hx hb hr (fun t ht hW => ⟨⟨(-2), (), rfl, (by first | rfl | ((repeat' split) <;> (first | rfl | (exfalso; omega)))), trivial⟩, hS.F ht⟩) hS.2.2 dX6_ends_27

theorem dX6_odd_0 : decode cX6_odd 0 = .ok (.iload 5, 2) := by decide +kernel
theorem dX6_odd_2 : decode cX6_odd 2 = .ok (.ifCond .lt 9, 3) := by decide +kernel
theorem dX6_odd_5 : decode cX6_odd 5 = .ok (.iload 5, 2) := by decide +kernel
theorem dX6_odd_7 : decode cX6_odd 7 = .ok (.iconst 1, 1) := by decide +kernel
theorem dX6_odd_8 : decode cX6_odd 8 = .ok (.if_icmp .le 6, 3) := by decide +kernel
theorem dX6_odd_11 : decode cX6_odd 11 = .ok (.bipush (-2), 2) := by decide +kernel
theorem dX6_odd_13 : decode cX6_odd 13 = .ok (.ireturn, 1) := by decide +kernel
theorem dX6_odd_14 : decode cX6_odd 14 = .ok (.aload_n 0, 1) := by decide +kernel
theorem dX6_odd_15 : decode cX6_odd 15 = .ok (.iload_n 1, 1) := by decide +kernel
theorem dX6_odd_16 : decode cX6_odd 16 = .ok (.iload_n 2, 1) := by decide +kernel
theorem dX6_odd_17 : decode cX6_odd 17 = .ok (.invokevirtual 293, 3) := by decide +kernel
theorem dX6_odd_20 : decode cX6_odd 20 = .ok (.istore 6, 2) := by decide +kernel
theorem dX6_odd_22 : decode cX6_odd 22 = .ok (.iload 6, 2) := by decide +kernel
theorem dX6_odd_24 : decode cX6_odd 24 = .ok (.ifCond .ne 12, 3) := by decide +kernel
theorem dX6_odd_36 : decode cX6_odd 36 = .ok (.iload 6, 2) := by decide +kernel
theorem dX6_odd_38 : decode cX6_odd 38 = .ok (.ifCond .eq 6, 3) := by decide +kernel
theorem dX6_odd_41 : decode cX6_odd 41 = .ok (.iload 6, 2) := by decide +kernel
theorem dX6_odd_43 : decode cX6_odd 43 = .ok (.ireturn, 1) := by decide +kernel
def wz_X6_odd : List Cond := .code yX6_odd cX6_odd 11 (some .int) :: ([Cond.methodLink RX6 293 yX6_refusalOfWalk, Cond.instanceMethod yX6_refusalOfWalk, Cond.selects RX6 yX6_refusalOfWalk yX6_refusalOfWalk, Cond.initialized RX6, Cond.code yX6_refusalOfWalk cX6_refusalOfWalk 5 (some .int), Cond.methodLink RX6 211 yX6_isSlot, Cond.static yX6_isSlot, Cond.code yX6_isSlot cX6_isSlot 1 (some .boolean), Cond.methodLink RX6 99 yX6_isCell, Cond.instanceMethod yX6_isCell, Cond.selects RX6 yX6_isCell yX6_isCell, Cond.code yX6_isCell cX6_isCell 2 (some .boolean), Cond.fieldLink RX6 33 "HedgeMaze" "garden" "LHedgeMaze$Garden;", Cond.fieldLink RX6 90 "HedgeMaze$Garden" "plan" "LHedgeMaze$Plan;", Cond.fieldLink RX6 169 "HedgeMaze$Plan" "cellCount" "I"] ++ wsX60 ++ wsX00 ++ wsX30)
set_option maxRecDepth 20000 in
theorem g_X6_odd_X6_refusalOfWalk : GoodIn wz_X6_odd (wsV RX6 293 RX6 yX6_refusalOfWalk wz_X6_refusalOfWalk) := goodIn_r _ [1, 2, 3, 4, 5, 6, 7, 4, 8, 9, 10, 11, 12, 13, 14, 15, 16, 17, 18, 19, 20, 21, 22, 23, 24, 25, 26, 27, 28, 29, 30, 31, 32, 33, 34, 35, 36, 37, 38, 39, 40, 41, 42, 43, 44, 45, 46, 47] rfl (by decide +kernel)
set_option maxHeartbeats 4000000 in
set_option maxRecDepth 100000 in
theorem c_X6_odd (l : Launch) (dC : Nat → ClassId) (dI : Nat → Nat → Nat) (sz : Nat) (h0 : Nat) (tp : Nat) (rd : Nat) (gd : Nat) (im : Nat) (rw : Nat) (gn : Nat) (ho : Nat) (sq : Nat) (pl : Nat) (gdt : Nat) (gdu : Nat) (gdn : Nat) (plf : Nat) (plo : Nat) (plb : Nat) (pla : Nat) (p0 : Int32) (p1 : Int32) (p2 : Int32) (p3 : Int32) (p4 : Int32)  : Met l yX6_odd wz_X6_odd ({ frames := 2, cells := 0, slots := 0, locals := 45 }) (va_Pc [.ref h0, .int p0, .int p1, .int p2, .int p3, .int p4] (fun U => U.heap.size = sz ∧ va_P (dC, dI) vwCl [(h0, .inr (6, [.ref tp, .int 0, .int 0, .int (-1), .ref rd, .ref gd, .ref im, .ref rw, .ref gn, .ref ho, .ref sq])), (gd, .inr (0, [.ref pl, .int 0, .long 0, .long 0, .int 0, .int (-1), .int 0, .ref gdt, .int 0, .ref gdu, .int 0, .ref gdn])), (pl, .inr (3, [.int 0, .int 0, .int 0, .int 0, .long 0, .ref plf, .ref plo, .ref plb, .ref pla]))] U.heap ∧ va_K (dC, dI) vwCl [] U ∧ va_D (fun _ => True) [(h0, .inr (6, [.ref tp, .int 0, .int 0, .int (-1), .ref rd, .ref gd, .ref im, .ref rw, .ref gn, .ref ho, .ref sq])), (gd, .inr (0, [.ref pl, .int 0, .long 0, .long 0, .int 0, .int (-1), .int 0, .ref gdt, .int 0, .ref gdu, .int 0, .ref gdn])), (pl, .inr (3, [.int 0, .int 0, .int 0, .int 0, .long 0, .ref plf, .ref plo, .ref plb, .ref pla]))])) (va_Qi (fun (r : Int32) (u : Unit) => r = -2) (fun (_ : Unit) (_ : State) => True) (va_A [(h0, .inr (6, [.ref tp, .int 0, .int 0, .int (-1), .ref rd, .ref gd, .ref im, .ref rw, .ref gn, .ref ho, .ref sq])), (gd, .inr (0, [.ref pl, .int 0, .long 0, .long 0, .int 0, .int (-1), .int 0, .ref gdt, .int 0, .ref gdu, .int 0, .ref gdn])), (pl, .inr (3, [.int 0, .int 0, .int 0, .int 0, .long 0, .ref plf, .ref plo, .ref plb, .ref pla]))] sz)) 0 0 (va_A [(h0, .inr (6, [.ref tp, .int 0, .int 0, .int (-1), .ref rd, .ref gd, .ref im, .ref rw, .ref gn, .ref ho, .ref sq])), (gd, .inr (0, [.ref pl, .int 0, .long 0, .long 0, .int 0, .int (-1), .int 0, .ref gdt, .int 0, .ref gdu, .int 0, .ref gdn])), (pl, .inr (3, [.int 0, .int 0, .int 0, .int 0, .long 0, .ref plf, .ref plo, .ref plb, .ref pla]))] sz) := by
  refine Met.ofW (cc := cX6_odd) (maxL := 11) (ret := (some .int)) (by decide) rfl ?_
  intro p e s m args below meth c s₁ B hml hv
  obtain ⟨rfl, hsz, hP, hK, hD0⟩ := hv
  have hx := B.exec
  have hb := B.bytes
  have hr := B.returns
  have hts := atoms_spec (ws := wz_X6_odd) B.pre
  have hown : s.vm.findClass RX6 = some m.cls := findClass_of_methodNamed B.named
  have hlocks := B.notSynchronized
  subst hsz
  have hD := hD0.self (sz := s.heap.size)
  generalize hAe : va_A [(h0, .inr (6, [.ref tp, .int 0, .int 0, .int (-1), .ref rd, .ref gd, .ref im, .ref rw, .ref gn, .ref ho, .ref sq])), (gd, .inr (0, [.ref pl, .int 0, .long 0, .long 0, .int 0, .int (-1), .int 0, .ref gdt, .int 0, .ref gdu, .int 0, .ref gdn])), (pl, .inr (3, [.int 0, .int 0, .int 0, .int 0, .long 0, .ref plf, .ref plo, .ref plb, .ref pla]))] s.heap.size = A at hD ⊢
  have hA : ∀ q : Nat, s.heap.size ≤ q → A q := fun q h => by rw [← hAe]; exact Or.inr h
  have hS : va_S A s.heap s.heap [] := va_S.rf
  have hP : va_P (dC, dI) vwCl [(h0, .inr (6, [.ref tp, .int 0, .int 0, .int (-1), .ref rd, .ref gd, .ref im, .ref rw, .ref gn, .ref ho, .ref sq])), (gd, .inr (0, [.ref pl, .int 0, .long 0, .long 0, .int 0, .int (-1), .int 0, .ref gdt, .int 0, .ref gdu, .int 0, .ref gdn])), (pl, .inr (3, [.int 0, .int 0, .int 0, .int 0, .long 0, .ref plf, .ref plo, .ref plb, .ref pla]))] s.heap := hP
  have hl := lv_entry ([.ref h0, .int p0, .int p1, .int p2, .int p3, .int p4]) (n := 11) (Nat.le_of_ble_eq_true rfl)
  rw [lg_entry_eq]
  generalize (lg_sl ([.ref h0, .int p0, .int p1, .int p2, .int p3, .int p4]) ++ List.replicate (11 - (lg_sl ([.ref h0, .int p0, .int p1, .int p2, .int p3, .int p4])).length) Slot.unset).toArray = ls at hl ⊢
  have hl : lv_has ls 11 [(0, .ref h0), (1, .int p0), (2, .int p1), (3, .int p2), (4, .int p3), (5, .int p4)] := hl
  refine lv_iload hx hb dX6_odd_0 (lv_at hl 5 rfl) ?_
  refine lv_if_lt (tgt := 11) hx hb dX6_odd_2 (by decide) (fun c_1 => ?_) (fun c_1 => ?_)
  · have c_1 : p4.toInt < 0 := i_lt (a := p4) (b := 0) rfl (by decide) c_1
    refine lv_bipush (v := -2) hx hb dX6_odd_11 (by decide) ?_
    refine W.widen (k := 0) (n := 0) (by omega) (by omega) ?_
    exact W.iret (v := -2) hx hb hr (fun t ht hW => ⟨⟨(-2), (), rfl, (by first | rfl | ((repeat' split) <;> (first | rfl | (exfalso; omega)))), trivial⟩, hS.F ht⟩) hS.2.2 dX6_odd_13
  · have c_1 : 0 ≤ p4.toInt := i_nlt (a := p4) (b := 0) rfl (by decide) c_1
    refine lv_iload hx hb dX6_odd_5 (lv_at hl 5 rfl) ?_
    refine lv_iconst (v := 1) hx hb dX6_odd_7 (by decide) ?_
    refine lv_icmp_le (tgt := 14) hx hb dX6_odd_8 (by decide) (fun c_2 => ?_) (fun c_2 => ?_)
    · have c_2 : p4.toInt ≤ 1 := i_le (a := p4) (b := 1) rfl (by decide) c_2
      refine lv_aload_n hx hb dX6_odd_14 rfl (lv_at hl 0 rfl) ?_
      refine lv_iload_n hx hb dX6_odd_15 rfl (lv_at hl 1 rfl) ?_
      refine lv_iload_n hx hb dX6_odd_16 rfl (lv_at hl 2 rfl) ?_
      have hPc := hP.sub (ws' := [(h0, .inr (6, [.ref tp, .int 0, .int 0, .int (-1), .ref rd, .ref gd, .ref im, .ref rw, .ref gn, .ref ho, .ref sq])), (gd, .inr (0, [.ref pl, .int 0, .long 0, .long 0, .int 0, .int (-1), .int 0, .ref gdt, .int 0, .ref gdu, .int 0, .ref gdn])), (pl, .inr (3, [.int 0, .int 0, .int 0, .int 0, .long 0, .ref plf, .ref plo, .ref plb, .ref pla]))]) [0, 1, 2] rfl
      have hDc := hD.sub (ws' := [(h0, .inr (6, [.ref tp, .int 0, .int 0, .int (-1), .ref rd, .ref gd, .ref im, .ref rw, .ref gn, .ref ho, .ref sq])), (gd, .inr (0, [.ref pl, .int 0, .long 0, .long 0, .int 0, .int (-1), .int 0, .ref gdt, .int 0, .ref gdu, .int 0, .ref gdn])), (pl, .inr (3, [.int 0, .int 0, .int 0, .int 0, .long 0, .ref plf, .ref plo, .ref plb, .ref pla]))]) [0, 1, 2] (by decide) rfl
      have hKc := hK.sub (tys' := []) [] rfl
      have hFc := va_free (wc := [(h0, .inr (6, [.ref tp, .int 0, .int 0, .int (-1), .ref rd, .ref gd, .ref im, .ref rw, .ref gn, .ref ho, .ref sq])), (gd, .inr (0, [.ref pl, .int 0, .long 0, .long 0, .int 0, .int (-1), .int 0, .ref gdt, .int 0, .ref gdu, .int 0, .ref gdn])), (pl, .inr (3, [.int 0, .int 0, .int 0, .int 0, .long 0, .ref plf, .ref plo, .ref plb, .ref pla]))]) hD hS hA [0, 1, 2] rfl
      refine va_calli (va_runV (As := [.int p0, .int p1]) (rest := []) ⟨hx, hb, hml, hown, hts⟩ (c_X6_refusalOfWalk l dC dI s.heap.size h0 tp rd gd im rw gn ho sq pl gdt gdu gdn plf plo plb pla p0 p1 ) (cwV 2 hts g_X6_odd_X6_refusalOfWalk rfl rfl rfl (by decide +kernel) ⟨Nat.le_of_ble_eq_true rfl, Nat.le_of_ble_eq_true rfl⟩) ⟨fun a U g mk q => by obtain ⟨q0, q1, qP, qK, qD⟩ := q; exact ⟨q0, q1, qP, va_K.moved (u := U) (U := U.calling g mk a) (Vm.Alike.refl U.vm) qK, qD⟩, va_recv hKc hPc (ci := 6) (q0 := 0) rfl rfl, fun U hU hW => ⟨rfl, by rw [hU], by rw [hU]; exact hPc, va_K.moved hW.alike hKc, hDc.weaken (fun _ _ _ _ => trivial)⟩⟩ rfl rfl hl.1 rfl (lv_room (Nat.le_of_ble_eq_true rfl)) dX6_odd_17 ⟨Nat.le_of_ble_eq_true rfl, Nat.le_of_ble_eq_true rfl⟩) hS (fun q _ h => hFc q h) hFc (fun r_3 u t H1 locs ht hvm hw_4 hB hz1 hk1 hS => ?_)
      have hP1 : va_P (dC, dI) vwCl [] H1 := i_nilP
      have hD1 : va_D (va_A [(h0, .inr (6, [.ref tp, .int 0, .int 0, .int (-1), .ref rd, .ref gd, .ref im, .ref rw, .ref gn, .ref ho, .ref sq])), (gd, .inr (0, [.ref pl, .int 0, .long 0, .long 0, .int 0, .int (-1), .int 0, .ref gdt, .int 0, .ref gdu, .int 0, .ref gdn])), (pl, .inr (3, [.int 0, .int 0, .int 0, .int 0, .long 0, .ref plf, .ref plo, .ref plb, .ref pla]))] s.heap.size) [] := i_nilD
      try dsimp only at hw_4
      obtain ⟨hP, hD⟩ := va_join (wr := []) (w1 := []) hP hD [0, 1, 2] [] rfl rfl (by decide) (by decide) hk1 hFc hP1 hD1
      generalize H1 = H at hP hS ⊢
      have hP : va_P (dC, dI) vwCl [] H := hP
      have hD : va_D A [] := hD
      obtain rfl : r_3 = -2 := hw_4
      refine lv_istore (lv' := [(6, .int (-2)), (0, .ref h0), (1, .int p0), (2, .int p1), (3, .int p2), (4, .int p3), (5, .int p4)]) hx hb dX6_odd_20 hl (by decide) rfl (fun ls hl => ?_)
      refine lv_iload hx hb dX6_odd_22 (lv_at hl 0 rfl) ?_
      refine lv_if_ne (tgt := 36) hx hb dX6_odd_24 (by decide) (fun _ => ?_) (fun h => absurd h (by decide))
      refine lv_iload hx hb dX6_odd_36 (lv_at hl 0 rfl) ?_
      refine lv_if_eq (tgt := 44) hx hb dX6_odd_38 (by decide) (fun h => absurd h (by decide)) (fun _ => ?_)
      refine lv_iload hx hb dX6_odd_41 (lv_at hl 0 rfl) ?_
      refine W.widen (k := 0) (n := 0) (by omega) (by omega) ?_
      exact W.iret (v := -2) hx hb hr (fun t ht hW => ⟨⟨(-2), (), rfl, (by first | rfl | ((repeat' split) <;> (first | rfl | (exfalso; omega)))), trivial⟩, hS.F ht⟩) hS.2.2 dX6_odd_43
    · have c_2 : 1 < p4.toInt := i_nle (a := p4) (b := 1) rfl (by decide) c_2
      refine lv_bipush (v := -2) hx hb dX6_odd_11 (by decide) ?_
      refine W.widen (k := 0) (n := 0) (by omega) (by omega) ?_
      exact W.iret (v := -2) hx hb hr (fun t ht hW => ⟨⟨(-2), (), rfl, (by first | rfl | ((repeat' split) <;> (first | rfl | (exfalso; omega)))), trivial⟩, hS.F ht⟩) hS.2.2 dX6_odd_13

theorem dX6_openings_0 : decode cX6_openings 0 = .ok (.aload_n 0, 1) := by decide +kernel
theorem dX6_openings_1 : decode cX6_openings 1 = .ok (.invokevirtual 86, 3) := by decide +kernel
theorem dX6_openings_4 : decode cX6_openings 4 = .ok (.ifCond .eq 8, 3) := by decide +kernel
theorem dX6_openings_12 : decode cX6_openings 12 = .ok (.bipush (-2), 2) := by decide +kernel
theorem dX6_openings_14 : decode cX6_openings 14 = .ok (.ireturn, 1) := by decide +kernel
def wz_X6_openings : List Cond := .code yX6_openings cX6_openings 3 (some .int) :: ([Cond.methodLink RX6 86 yX6_hasMaze, Cond.instanceMethod yX6_hasMaze, Cond.selects RX6 yX6_hasMaze yX6_hasMaze, Cond.initialized RX6, Cond.code yX6_hasMaze cX6_hasMaze 1 (some .boolean), Cond.fieldLink RX6 33 "HedgeMaze" "garden" "LHedgeMaze$Garden;", Cond.fieldLink RX6 83 "HedgeMaze$Garden" "lines" "I"] ++ wsX60 ++ wsX00)
set_option maxRecDepth 20000 in
theorem g_X6_openings_X6_hasMaze : GoodIn wz_X6_openings (wsV RX6 86 RX6 yX6_hasMaze wz_X6_hasMaze) := goodIn_r _ [1, 2, 3, 4, 5, 6, 7, 8, 9, 10, 11, 12, 13, 14, 15, 16, 17, 18, 19, 20, 21, 22, 23, 24, 25, 26, 27, 28, 29, 30] rfl (by decide +kernel)
set_option maxHeartbeats 4000000 in
set_option maxRecDepth 100000 in
theorem c_X6_openings (l : Launch) (dC : Nat → ClassId) (dI : Nat → Nat → Nat) (sz : Nat) (h0 : Nat) (tp : Nat) (rd : Nat) (gd : Nat) (im : Nat) (rw : Nat) (gn : Nat) (ho : Nat) (sq : Nat) (pl : Nat) (gdt : Nat) (gdu : Nat) (gdn : Nat) (plf : Nat) (plo : Nat) (plb : Nat) (pla : Nat) (p0 : Int32)  : Met l yX6_openings wz_X6_openings ({ frames := 1, cells := 0, slots := 0, locals := 20 }) (va_Pc [.ref h0, .int p0] (fun U => U.heap.size = sz ∧ va_P (dC, dI) vwCl [(h0, .inr (6, [.ref tp, .int 0, .int 0, .int (-1), .ref rd, .ref gd, .ref im, .ref rw, .ref gn, .ref ho, .ref sq])), (gd, .inr (0, [.ref pl, .int 0, .long 0, .long 0, .int 0, .int (-1), .int 0, .ref gdt, .int 0, .ref gdu, .int 0, .ref gdn])), (pl, .inr (3, [.int 0, .int 0, .int 0, .int 0, .long 0, .ref plf, .ref plo, .ref plb, .ref pla]))] U.heap ∧ va_K (dC, dI) vwCl [] U ∧ va_D (fun _ => True) [(h0, .inr (6, [.ref tp, .int 0, .int 0, .int (-1), .ref rd, .ref gd, .ref im, .ref rw, .ref gn, .ref ho, .ref sq])), (gd, .inr (0, [.ref pl, .int 0, .long 0, .long 0, .int 0, .int (-1), .int 0, .ref gdt, .int 0, .ref gdu, .int 0, .ref gdn])), (pl, .inr (3, [.int 0, .int 0, .int 0, .int 0, .long 0, .ref plf, .ref plo, .ref plb, .ref pla]))])) (va_Qi (fun (r : Int32) (u : Unit) => r = -2) (fun (_ : Unit) (_ : State) => True) (va_A [(h0, .inr (6, [.ref tp, .int 0, .int 0, .int (-1), .ref rd, .ref gd, .ref im, .ref rw, .ref gn, .ref ho, .ref sq])), (gd, .inr (0, [.ref pl, .int 0, .long 0, .long 0, .int 0, .int (-1), .int 0, .ref gdt, .int 0, .ref gdu, .int 0, .ref gdn])), (pl, .inr (3, [.int 0, .int 0, .int 0, .int 0, .long 0, .ref plf, .ref plo, .ref plb, .ref pla]))] sz)) 0 0 (va_A [(h0, .inr (6, [.ref tp, .int 0, .int 0, .int (-1), .ref rd, .ref gd, .ref im, .ref rw, .ref gn, .ref ho, .ref sq])), (gd, .inr (0, [.ref pl, .int 0, .long 0, .long 0, .int 0, .int (-1), .int 0, .ref gdt, .int 0, .ref gdu, .int 0, .ref gdn])), (pl, .inr (3, [.int 0, .int 0, .int 0, .int 0, .long 0, .ref plf, .ref plo, .ref plb, .ref pla]))] sz) := by
  refine Met.ofW (cc := cX6_openings) (maxL := 3) (ret := (some .int)) (by decide) rfl ?_
  intro p e s m args below meth c s₁ B hml hv
  obtain ⟨rfl, hsz, hP, hK, hD0⟩ := hv
  have hx := B.exec
  have hb := B.bytes
  have hr := B.returns
  have hts := atoms_spec (ws := wz_X6_openings) B.pre
  have hown : s.vm.findClass RX6 = some m.cls := findClass_of_methodNamed B.named
  have hlocks := B.notSynchronized
  subst hsz
  have hD := hD0.self (sz := s.heap.size)
  generalize hAe : va_A [(h0, .inr (6, [.ref tp, .int 0, .int 0, .int (-1), .ref rd, .ref gd, .ref im, .ref rw, .ref gn, .ref ho, .ref sq])), (gd, .inr (0, [.ref pl, .int 0, .long 0, .long 0, .int 0, .int (-1), .int 0, .ref gdt, .int 0, .ref gdu, .int 0, .ref gdn])), (pl, .inr (3, [.int 0, .int 0, .int 0, .int 0, .long 0, .ref plf, .ref plo, .ref plb, .ref pla]))] s.heap.size = A at hD ⊢
  have hA : ∀ q : Nat, s.heap.size ≤ q → A q := fun q h => by rw [← hAe]; exact Or.inr h
  have hS : va_S A s.heap s.heap [] := va_S.rf
  have hP : va_P (dC, dI) vwCl [(h0, .inr (6, [.ref tp, .int 0, .int 0, .int (-1), .ref rd, .ref gd, .ref im, .ref rw, .ref gn, .ref ho, .ref sq])), (gd, .inr (0, [.ref pl, .int 0, .long 0, .long 0, .int 0, .int (-1), .int 0, .ref gdt, .int 0, .ref gdu, .int 0, .ref gdn])), (pl, .inr (3, [.int 0, .int 0, .int 0, .int 0, .long 0, .ref plf, .ref plo, .ref plb, .ref pla]))] s.heap := hP
  have hl := lv_entry ([.ref h0, .int p0]) (n := 3) (Nat.le_of_ble_eq_true rfl)
  rw [lg_entry_eq]
  generalize (lg_sl ([.ref h0, .int p0]) ++ List.replicate (3 - (lg_sl ([.ref h0, .int p0])).length) Slot.unset).toArray = ls at hl ⊢
  have hl : lv_has ls 3 [(0, .ref h0), (1, .int p0)] := hl
  refine lv_aload_n hx hb dX6_openings_0 rfl (lv_at hl 0 rfl) ?_
  have hPc := hP.sub (ws' := [(h0, .inr (6, [.ref tp, .int 0, .int 0, .int (-1), .ref rd, .ref gd, .ref im, .ref rw, .ref gn, .ref ho, .ref sq])), (gd, .inr (0, [.ref pl, .int 0, .long 0, .long 0, .int 0, .int (-1), .int 0, .ref gdt, .int 0, .ref gdu, .int 0, .ref gdn]))]) [0, 1] rfl
  have hDc := hD.sub (ws' := [(h0, .inr (6, [.ref tp, .int 0, .int 0, .int (-1), .ref rd, .ref gd, .ref im, .ref rw, .ref gn, .ref ho, .ref sq])), (gd, .inr (0, [.ref pl, .int 0, .long 0, .long 0, .int 0, .int (-1), .int 0, .ref gdt, .int 0, .ref gdu, .int 0, .ref gdn]))]) [0, 1] (by decide) rfl
  have hKc := hK.sub (tys' := []) [] rfl
  have hFc := va_free (wc := [(h0, .inr (6, [.ref tp, .int 0, .int 0, .int (-1), .ref rd, .ref gd, .ref im, .ref rw, .ref gn, .ref ho, .ref sq])), (gd, .inr (0, [.ref pl, .int 0, .long 0, .long 0, .int 0, .int (-1), .int 0, .ref gdt, .int 0, .ref gdu, .int 0, .ref gdn]))]) hD hS hA [0, 1] rfl
  refine va_calli (va_runV (As := []) (rest := []) ⟨hx, hb, hml, hown, hts⟩ (c_X6_hasMaze l dC dI s.heap.size h0 tp rd gd im rw gn ho sq pl gdt gdu gdn ) (cwV 0 hts g_X6_openings_X6_hasMaze rfl rfl rfl (by decide +kernel) ⟨Nat.le_of_ble_eq_true rfl, Nat.le_of_ble_eq_true rfl⟩) ⟨fun a U g mk q => by obtain ⟨q0, q1, qP, qK, qD⟩ := q; exact ⟨q0, q1, qP, va_K.moved (u := U) (U := U.calling g mk a) (Vm.Alike.refl U.vm) qK, qD⟩, va_recv hKc hPc (ci := 6) (q0 := 0) rfl rfl, fun U hU hW => ⟨rfl, by rw [hU], by rw [hU]; exact hPc, va_K.moved hW.alike hKc, hDc.weaken (fun _ _ _ _ => trivial)⟩⟩ rfl rfl hl.1 rfl (lv_room (Nat.le_of_ble_eq_true rfl)) dX6_openings_1 ⟨Nat.le_of_ble_eq_true rfl, Nat.le_of_ble_eq_true rfl⟩) hS (fun q _ h => hFc q h) hFc (fun r_1 u t H1 locs ht hvm hw_2 hB hz1 hk1 hS => ?_)
  obtain ⟨hP1, hK1, hD1⟩ := hB
  have hP1 : va_P (dC, dI) vwCl [(h0, .inr (6, [.ref tp, .int 0, .int 0, .int (-1), .ref rd, .ref gd, .ref im, .ref rw, .ref gn, .ref ho, .ref sq])), (gd, .inr (0, [.ref pl, .int 0, .long 0, .long 0, .int 0, .int (-1), .int 0, .ref gdt, .int 0, .ref gdu, .int 0, .ref gdn]))] t.heap := hP1
  rw [ht] at hP1
  try dsimp only at hw_2
  obtain ⟨hP, hD⟩ := va_join (wr := [(pl, .inr (3, [.int 0, .int 0, .int 0, .int 0, .long 0, .ref plf, .ref plo, .ref plb, .ref pla]))]) (w1 := [(h0, .inr (6, [.ref tp, .int 0, .int 0, .int (-1), .ref rd, .ref gd, .ref im, .ref rw, .ref gn, .ref ho, .ref sq])), (gd, .inr (0, [.ref pl, .int 0, .long 0, .long 0, .int 0, .int (-1), .int 0, .ref gdt, .int 0, .ref gdu, .int 0, .ref gdn]))]) hP hD [0, 1] [2] rfl rfl (by decide) (by decide) hk1 hFc hP1 hD1
  generalize H1 = H at hP hS ⊢
  have hP : va_P (dC, dI) vwCl [(pl, .inr (3, [.int 0, .int 0, .int 0, .int 0, .long 0, .ref plf, .ref plo, .ref plb, .ref pla])), (h0, .inr (6, [.ref tp, .int 0, .int 0, .int (-1), .ref rd, .ref gd, .ref im, .ref rw, .ref gn, .ref ho, .ref sq])), (gd, .inr (0, [.ref pl, .int 0, .long 0, .long 0, .int 0, .int (-1), .int 0, .ref gdt, .int 0, .ref gdu, .int 0, .ref gdn]))] H := hP
  have hD : va_D A [(pl, .inr (3, [.int 0, .int 0, .int 0, .int 0, .long 0, .ref plf, .ref plo, .ref plb, .ref pla])), (h0, .inr (6, [.ref tp, .int 0, .int 0, .int (-1), .ref rd, .ref gd, .ref im, .ref rw, .ref gn, .ref ho, .ref sq])), (gd, .inr (0, [.ref pl, .int 0, .long 0, .long 0, .int 0, .int (-1), .int 0, .ref gdt, .int 0, .ref gdu, .int 0, .ref gdn]))] := hD
  obtain rfl : r_1 = 0 := hw_2
  refine lv_if_eq (tgt := 12) hx hb dX6_openings_4 (by decide) (fun _ => ?_) (fun h => absurd (by decide) h)
  refine lv_bipush (v := -2) hx hb dX6_openings_12 (by decide) ?_
  refine W.widen (k := 0) (n := 0) (by omega) (by omega) ?_
  exact W.iret (v := -2) hx hb hr (fun t ht hW => ⟨⟨(-2), (), rfl, (by first | rfl | ((repeat' split) <;> (first | rfl | (exfalso; omega)))), trivial⟩, hS.F ht⟩) hS.2.2 dX6_openings_14

theorem dX6_drawn_0 : decode cX6_drawn 0 = .ok (.aload_n 0, 1) := by decide +kernel
theorem dX6_drawn_1 : decode cX6_drawn 1 = .ok (.iload_n 3, 1) := by decide +kernel
theorem dX6_drawn_2 : decode cX6_drawn 2 = .ok (.invokevirtual 99, 3) := by decide +kernel
theorem dX6_drawn_5 : decode cX6_drawn 5 = .ok (.ifCond .eq 11, 3) := by decide +kernel
theorem dX6_drawn_16 : decode cX6_drawn 16 = .ok (.bipush (-2), 2) := by decide +kernel
theorem dX6_drawn_18 : decode cX6_drawn 18 = .ok (.ireturn, 1) := by decide +kernel
def wz_X6_drawn : List Cond := .code yX6_drawn cX6_drawn 4 (some .int) :: ([Cond.methodLink RX6 99 yX6_isCell, Cond.instanceMethod yX6_isCell, Cond.selects RX6 yX6_isCell yX6_isCell, Cond.initialized RX6, Cond.code yX6_isCell cX6_isCell 2 (some .boolean), Cond.fieldLink RX6 33 "HedgeMaze" "garden" "LHedgeMaze$Garden;", Cond.fieldLink RX6 90 "HedgeMaze$Garden" "plan" "LHedgeMaze$Plan;", Cond.fieldLink RX6 169 "HedgeMaze$Plan" "cellCount" "I"] ++ wsX60 ++ wsX00 ++ wsX30)
set_option maxRecDepth 20000 in
theorem g_X6_drawn_X6_isCell : GoodIn wz_X6_drawn (wsV RX6 99 RX6 yX6_isCell wz_X6_isCell) := goodIn_r _ [1, 2, 3, 4, 5, 6, 7, 8, 9, 10, 11, 12, 13, 14, 15, 16, 17, 18, 19, 20, 21, 22, 23, 24, 25, 26, 27, 28, 29, 30, 31, 32, 33, 34, 35, 36, 37, 38, 39, 40] rfl (by decide +kernel)
set_option maxHeartbeats 4000000 in
set_option maxRecDepth 100000 in
theorem c_X6_drawn (l : Launch) (dC : Nat → ClassId) (dI : Nat → Nat → Nat) (sz : Nat) (h0 : Nat) (tp : Nat) (rd : Nat) (gd : Nat) (im : Nat) (rw : Nat) (gn : Nat) (ho : Nat) (sq : Nat) (pl : Nat) (gdt : Nat) (gdu : Nat) (gdn : Nat) (plf : Nat) (plo : Nat) (plb : Nat) (pla : Nat) (p0 : Int32) (p1 : Int32) (p2 : Int32)  : Met l yX6_drawn wz_X6_drawn ({ frames := 1, cells := 0, slots := 0, locals := 21 }) (va_Pc [.ref h0, .int p0, .int p1, .int p2] (fun U => U.heap.size = sz ∧ va_P (dC, dI) vwCl [(h0, .inr (6, [.ref tp, .int 0, .int 0, .int (-1), .ref rd, .ref gd, .ref im, .ref rw, .ref gn, .ref ho, .ref sq])), (gd, .inr (0, [.ref pl, .int 0, .long 0, .long 0, .int 0, .int (-1), .int 0, .ref gdt, .int 0, .ref gdu, .int 0, .ref gdn])), (pl, .inr (3, [.int 0, .int 0, .int 0, .int 0, .long 0, .ref plf, .ref plo, .ref plb, .ref pla]))] U.heap ∧ va_K (dC, dI) vwCl [] U ∧ va_D (fun _ => True) [(h0, .inr (6, [.ref tp, .int 0, .int 0, .int (-1), .ref rd, .ref gd, .ref im, .ref rw, .ref gn, .ref ho, .ref sq])), (gd, .inr (0, [.ref pl, .int 0, .long 0, .long 0, .int 0, .int (-1), .int 0, .ref gdt, .int 0, .ref gdu, .int 0, .ref gdn])), (pl, .inr (3, [.int 0, .int 0, .int 0, .int 0, .long 0, .ref plf, .ref plo, .ref plb, .ref pla]))])) (va_Qi (fun (r : Int32) (u : Unit) => r = -2) (fun (_ : Unit) (_ : State) => True) (va_A [(h0, .inr (6, [.ref tp, .int 0, .int 0, .int (-1), .ref rd, .ref gd, .ref im, .ref rw, .ref gn, .ref ho, .ref sq])), (gd, .inr (0, [.ref pl, .int 0, .long 0, .long 0, .int 0, .int (-1), .int 0, .ref gdt, .int 0, .ref gdu, .int 0, .ref gdn])), (pl, .inr (3, [.int 0, .int 0, .int 0, .int 0, .long 0, .ref plf, .ref plo, .ref plb, .ref pla]))] sz)) 0 0 (va_A [(h0, .inr (6, [.ref tp, .int 0, .int 0, .int (-1), .ref rd, .ref gd, .ref im, .ref rw, .ref gn, .ref ho, .ref sq])), (gd, .inr (0, [.ref pl, .int 0, .long 0, .long 0, .int 0, .int (-1), .int 0, .ref gdt, .int 0, .ref gdu, .int 0, .ref gdn])), (pl, .inr (3, [.int 0, .int 0, .int 0, .int 0, .long 0, .ref plf, .ref plo, .ref plb, .ref pla]))] sz) := by
  refine Met.ofW (cc := cX6_drawn) (maxL := 4) (ret := (some .int)) (by decide) rfl ?_
  intro p e s m args below meth c s₁ B hml hv
  obtain ⟨rfl, hsz, hP, hK, hD0⟩ := hv
  have hx := B.exec
  have hb := B.bytes
  have hr := B.returns
  have hts := atoms_spec (ws := wz_X6_drawn) B.pre
  have hown : s.vm.findClass RX6 = some m.cls := findClass_of_methodNamed B.named
  have hlocks := B.notSynchronized
  subst hsz
  have hD := hD0.self (sz := s.heap.size)
  generalize hAe : va_A [(h0, .inr (6, [.ref tp, .int 0, .int 0, .int (-1), .ref rd, .ref gd, .ref im, .ref rw, .ref gn, .ref ho, .ref sq])), (gd, .inr (0, [.ref pl, .int 0, .long 0, .long 0, .int 0, .int (-1), .int 0, .ref gdt, .int 0, .ref gdu, .int 0, .ref gdn])), (pl, .inr (3, [.int 0, .int 0, .int 0, .int 0, .long 0, .ref plf, .ref plo, .ref plb, .ref pla]))] s.heap.size = A at hD ⊢
  have hA : ∀ q : Nat, s.heap.size ≤ q → A q := fun q h => by rw [← hAe]; exact Or.inr h
  have hS : va_S A s.heap s.heap [] := va_S.rf
  have hP : va_P (dC, dI) vwCl [(h0, .inr (6, [.ref tp, .int 0, .int 0, .int (-1), .ref rd, .ref gd, .ref im, .ref rw, .ref gn, .ref ho, .ref sq])), (gd, .inr (0, [.ref pl, .int 0, .long 0, .long 0, .int 0, .int (-1), .int 0, .ref gdt, .int 0, .ref gdu, .int 0, .ref gdn])), (pl, .inr (3, [.int 0, .int 0, .int 0, .int 0, .long 0, .ref plf, .ref plo, .ref plb, .ref pla]))] s.heap := hP
  have hl := lv_entry ([.ref h0, .int p0, .int p1, .int p2]) (n := 4) (Nat.le_of_ble_eq_true rfl)
  rw [lg_entry_eq]
  generalize (lg_sl ([.ref h0, .int p0, .int p1, .int p2]) ++ List.replicate (4 - (lg_sl ([.ref h0, .int p0, .int p1, .int p2])).length) Slot.unset).toArray = ls at hl ⊢
  have hl : lv_has ls 4 [(0, .ref h0), (1, .int p0), (2, .int p1), (3, .int p2)] := hl
  refine lv_aload_n hx hb dX6_drawn_0 rfl (lv_at hl 0 rfl) ?_
  refine lv_iload_n hx hb dX6_drawn_1 rfl (lv_at hl 3 rfl) ?_
  have hPc := hP.sub (ws' := [(h0, .inr (6, [.ref tp, .int 0, .int 0, .int (-1), .ref rd, .ref gd, .ref im, .ref rw, .ref gn, .ref ho, .ref sq])), (gd, .inr (0, [.ref pl, .int 0, .long 0, .long 0, .int 0, .int (-1), .int 0, .ref gdt, .int 0, .ref gdu, .int 0, .ref gdn])), (pl, .inr (3, [.int 0, .int 0, .int 0, .int 0, .long 0, .ref plf, .ref plo, .ref plb, .ref pla]))]) [0, 1, 2] rfl
  have hDc := hD.sub (ws' := [(h0, .inr (6, [.ref tp, .int 0, .int 0, .int (-1), .ref rd, .ref gd, .ref im, .ref rw, .ref gn, .ref ho, .ref sq])), (gd, .inr (0, [.ref pl, .int 0, .long 0, .long 0, .int 0, .int (-1), .int 0, .ref gdt, .int 0, .ref gdu, .int 0, .ref gdn])), (pl, .inr (3, [.int 0, .int 0, .int 0, .int 0, .long 0, .ref plf, .ref plo, .ref plb, .ref pla]))]) [0, 1, 2] (by decide) rfl
  have hKc := hK.sub (tys' := []) [] rfl
  have hFc := va_free (wc := [(h0, .inr (6, [.ref tp, .int 0, .int 0, .int (-1), .ref rd, .ref gd, .ref im, .ref rw, .ref gn, .ref ho, .ref sq])), (gd, .inr (0, [.ref pl, .int 0, .long 0, .long 0, .int 0, .int (-1), .int 0, .ref gdt, .int 0, .ref gdu, .int 0, .ref gdn])), (pl, .inr (3, [.int 0, .int 0, .int 0, .int 0, .long 0, .ref plf, .ref plo, .ref plb, .ref pla]))]) hD hS hA [0, 1, 2] rfl
  refine va_calli (va_runV (As := [.int p2]) (rest := []) ⟨hx, hb, hml, hown, hts⟩ (c_X6_isCell l dC dI s.heap.size h0 tp rd gd im rw gn ho sq pl gdt gdu gdn plf plo plb pla p2 ) (cwV 1 hts g_X6_drawn_X6_isCell rfl rfl rfl (by decide +kernel) ⟨Nat.le_of_ble_eq_true rfl, Nat.le_of_ble_eq_true rfl⟩) ⟨fun a U g mk q => by obtain ⟨q0, q1, qP, qK, qD⟩ := q; exact ⟨q0, q1, qP, va_K.moved (u := U) (U := U.calling g mk a) (Vm.Alike.refl U.vm) qK, qD⟩, va_recv hKc hPc (ci := 6) (q0 := 0) rfl rfl, fun U hU hW => ⟨rfl, by rw [hU], by rw [hU]; exact hPc, va_K.moved hW.alike hKc, hDc.weaken (fun _ _ _ _ => trivial)⟩⟩ rfl rfl hl.1 rfl (lv_room (Nat.le_of_ble_eq_true rfl)) dX6_drawn_2 ⟨Nat.le_of_ble_eq_true rfl, Nat.le_of_ble_eq_true rfl⟩) hS (fun q _ h => hFc q h) hFc (fun r_1 u t H1 locs ht hvm hw_2 hB hz1 hk1 hS => ?_)
  obtain ⟨hP1, hK1, hD1⟩ := hB
  have hP1 : va_P (dC, dI) vwCl [(h0, .inr (6, [.ref tp, .int 0, .int 0, .int (-1), .ref rd, .ref gd, .ref im, .ref rw, .ref gn, .ref ho, .ref sq])), (gd, .inr (0, [.ref pl, .int 0, .long 0, .long 0, .int 0, .int (-1), .int 0, .ref gdt, .int 0, .ref gdu, .int 0, .ref gdn])), (pl, .inr (3, [.int 0, .int 0, .int 0, .int 0, .long 0, .ref plf, .ref plo, .ref plb, .ref pla]))] t.heap := hP1
  rw [ht] at hP1
  try dsimp only at hw_2
  obtain ⟨hP, hD⟩ := va_join (wr := []) (w1 := [(h0, .inr (6, [.ref tp, .int 0, .int 0, .int (-1), .ref rd, .ref gd, .ref im, .ref rw, .ref gn, .ref ho, .ref sq])), (gd, .inr (0, [.ref pl, .int 0, .long 0, .long 0, .int 0, .int (-1), .int 0, .ref gdt, .int 0, .ref gdu, .int 0, .ref gdn])), (pl, .inr (3, [.int 0, .int 0, .int 0, .int 0, .long 0, .ref plf, .ref plo, .ref plb, .ref pla]))]) hP hD [0, 1, 2] [] rfl rfl (by decide) (by decide) hk1 hFc hP1 hD1
  generalize H1 = H at hP hS ⊢
  have hP : va_P (dC, dI) vwCl [(h0, .inr (6, [.ref tp, .int 0, .int 0, .int (-1), .ref rd, .ref gd, .ref im, .ref rw, .ref gn, .ref ho, .ref sq])), (gd, .inr (0, [.ref pl, .int 0, .long 0, .long 0, .int 0, .int (-1), .int 0, .ref gdt, .int 0, .ref gdu, .int 0, .ref gdn])), (pl, .inr (3, [.int 0, .int 0, .int 0, .int 0, .long 0, .ref plf, .ref plo, .ref plb, .ref pla]))] H := hP
  have hD : va_D A [(h0, .inr (6, [.ref tp, .int 0, .int 0, .int (-1), .ref rd, .ref gd, .ref im, .ref rw, .ref gn, .ref ho, .ref sq])), (gd, .inr (0, [.ref pl, .int 0, .long 0, .long 0, .int 0, .int (-1), .int 0, .ref gdt, .int 0, .ref gdu, .int 0, .ref gdn])), (pl, .inr (3, [.int 0, .int 0, .int 0, .int 0, .long 0, .ref plf, .ref plo, .ref plb, .ref pla]))] := hD
  obtain rfl : r_1 = 0 := hw_2
  refine lv_if_eq (tgt := 16) hx hb dX6_drawn_5 (by decide) (fun _ => ?_) (fun h => absurd (by decide) h)
  refine lv_bipush (v := -2) hx hb dX6_drawn_16 (by decide) ?_
  refine W.widen (k := 0) (n := 0) (by omega) (by omega) ?_
  exact W.iret (v := -2) hx hb hr (fun t ht hW => ⟨⟨(-2), (), rfl, (by first | rfl | ((repeat' split) <;> (first | rfl | (exfalso; omega)))), trivial⟩, hS.F ht⟩) hS.2.2 dX6_drawn_18

theorem dX6_lastly_0 : decode cX6_lastly 0 = .ok (.aload_n 0, 1) := by decide +kernel
theorem dX6_lastly_1 : decode cX6_lastly 1 = .ok (.invokevirtual 86, 3) := by decide +kernel
theorem dX6_lastly_4 : decode cX6_lastly 4 = .ok (.ifCond .eq 11, 3) := by decide +kernel
theorem dX6_lastly_15 : decode cX6_lastly 15 = .ok (.bipush (-2), 2) := by decide +kernel
theorem dX6_lastly_17 : decode cX6_lastly 17 = .ok (.ireturn, 1) := by decide +kernel
def wz_X6_lastly : List Cond := .code yX6_lastly cX6_lastly 3 (some .int) :: ([Cond.methodLink RX6 86 yX6_hasMaze, Cond.instanceMethod yX6_hasMaze, Cond.selects RX6 yX6_hasMaze yX6_hasMaze, Cond.initialized RX6, Cond.code yX6_hasMaze cX6_hasMaze 1 (some .boolean), Cond.fieldLink RX6 33 "HedgeMaze" "garden" "LHedgeMaze$Garden;", Cond.fieldLink RX6 83 "HedgeMaze$Garden" "lines" "I"] ++ wsX60 ++ wsX00)
set_option maxRecDepth 20000 in
theorem g_X6_lastly_X6_hasMaze : GoodIn wz_X6_lastly (wsV RX6 86 RX6 yX6_hasMaze wz_X6_hasMaze) := goodIn_r _ [1, 2, 3, 4, 5, 6, 7, 8, 9, 10, 11, 12, 13, 14, 15, 16, 17, 18, 19, 20, 21, 22, 23, 24, 25, 26, 27, 28, 29, 30] rfl (by decide +kernel)
set_option maxHeartbeats 4000000 in
set_option maxRecDepth 100000 in
theorem c_X6_lastly (l : Launch) (dC : Nat → ClassId) (dI : Nat → Nat → Nat) (sz : Nat) (h0 : Nat) (tp : Nat) (rd : Nat) (gd : Nat) (im : Nat) (rw : Nat) (gn : Nat) (ho : Nat) (sq : Nat) (pl : Nat) (gdt : Nat) (gdu : Nat) (gdn : Nat) (plf : Nat) (plo : Nat) (plb : Nat) (pla : Nat) (p0 : Int32) (p1 : Int32)  : Met l yX6_lastly wz_X6_lastly ({ frames := 1, cells := 0, slots := 0, locals := 20 }) (va_Pc [.ref h0, .int p0, .int p1] (fun U => U.heap.size = sz ∧ va_P (dC, dI) vwCl [(h0, .inr (6, [.ref tp, .int 0, .int 0, .int (-1), .ref rd, .ref gd, .ref im, .ref rw, .ref gn, .ref ho, .ref sq])), (gd, .inr (0, [.ref pl, .int 0, .long 0, .long 0, .int 0, .int (-1), .int 0, .ref gdt, .int 0, .ref gdu, .int 0, .ref gdn])), (pl, .inr (3, [.int 0, .int 0, .int 0, .int 0, .long 0, .ref plf, .ref plo, .ref plb, .ref pla]))] U.heap ∧ va_K (dC, dI) vwCl [] U ∧ va_D (fun _ => True) [(h0, .inr (6, [.ref tp, .int 0, .int 0, .int (-1), .ref rd, .ref gd, .ref im, .ref rw, .ref gn, .ref ho, .ref sq])), (gd, .inr (0, [.ref pl, .int 0, .long 0, .long 0, .int 0, .int (-1), .int 0, .ref gdt, .int 0, .ref gdu, .int 0, .ref gdn])), (pl, .inr (3, [.int 0, .int 0, .int 0, .int 0, .long 0, .ref plf, .ref plo, .ref plb, .ref pla]))])) (va_Qi (fun (r : Int32) (u : Unit) => r = -2) (fun (_ : Unit) (_ : State) => True) (va_A [(h0, .inr (6, [.ref tp, .int 0, .int 0, .int (-1), .ref rd, .ref gd, .ref im, .ref rw, .ref gn, .ref ho, .ref sq])), (gd, .inr (0, [.ref pl, .int 0, .long 0, .long 0, .int 0, .int (-1), .int 0, .ref gdt, .int 0, .ref gdu, .int 0, .ref gdn])), (pl, .inr (3, [.int 0, .int 0, .int 0, .int 0, .long 0, .ref plf, .ref plo, .ref plb, .ref pla]))] sz)) 0 0 (va_A [(h0, .inr (6, [.ref tp, .int 0, .int 0, .int (-1), .ref rd, .ref gd, .ref im, .ref rw, .ref gn, .ref ho, .ref sq])), (gd, .inr (0, [.ref pl, .int 0, .long 0, .long 0, .int 0, .int (-1), .int 0, .ref gdt, .int 0, .ref gdu, .int 0, .ref gdn])), (pl, .inr (3, [.int 0, .int 0, .int 0, .int 0, .long 0, .ref plf, .ref plo, .ref plb, .ref pla]))] sz) := by
  refine Met.ofW (cc := cX6_lastly) (maxL := 3) (ret := (some .int)) (by decide) rfl ?_
  intro p e s m args below meth c s₁ B hml hv
  obtain ⟨rfl, hsz, hP, hK, hD0⟩ := hv
  have hx := B.exec
  have hb := B.bytes
  have hr := B.returns
  have hts := atoms_spec (ws := wz_X6_lastly) B.pre
  have hown : s.vm.findClass RX6 = some m.cls := findClass_of_methodNamed B.named
  have hlocks := B.notSynchronized
  subst hsz
  have hD := hD0.self (sz := s.heap.size)
  generalize hAe : va_A [(h0, .inr (6, [.ref tp, .int 0, .int 0, .int (-1), .ref rd, .ref gd, .ref im, .ref rw, .ref gn, .ref ho, .ref sq])), (gd, .inr (0, [.ref pl, .int 0, .long 0, .long 0, .int 0, .int (-1), .int 0, .ref gdt, .int 0, .ref gdu, .int 0, .ref gdn])), (pl, .inr (3, [.int 0, .int 0, .int 0, .int 0, .long 0, .ref plf, .ref plo, .ref plb, .ref pla]))] s.heap.size = A at hD ⊢
  have hA : ∀ q : Nat, s.heap.size ≤ q → A q := fun q h => by rw [← hAe]; exact Or.inr h
  have hS : va_S A s.heap s.heap [] := va_S.rf
  have hP : va_P (dC, dI) vwCl [(h0, .inr (6, [.ref tp, .int 0, .int 0, .int (-1), .ref rd, .ref gd, .ref im, .ref rw, .ref gn, .ref ho, .ref sq])), (gd, .inr (0, [.ref pl, .int 0, .long 0, .long 0, .int 0, .int (-1), .int 0, .ref gdt, .int 0, .ref gdu, .int 0, .ref gdn])), (pl, .inr (3, [.int 0, .int 0, .int 0, .int 0, .long 0, .ref plf, .ref plo, .ref plb, .ref pla]))] s.heap := hP
  have hl := lv_entry ([.ref h0, .int p0, .int p1]) (n := 3) (Nat.le_of_ble_eq_true rfl)
  rw [lg_entry_eq]
  generalize (lg_sl ([.ref h0, .int p0, .int p1]) ++ List.replicate (3 - (lg_sl ([.ref h0, .int p0, .int p1])).length) Slot.unset).toArray = ls at hl ⊢
  have hl : lv_has ls 3 [(0, .ref h0), (1, .int p0), (2, .int p1)] := hl
  refine lv_aload_n hx hb dX6_lastly_0 rfl (lv_at hl 0 rfl) ?_
  have hPc := hP.sub (ws' := [(h0, .inr (6, [.ref tp, .int 0, .int 0, .int (-1), .ref rd, .ref gd, .ref im, .ref rw, .ref gn, .ref ho, .ref sq])), (gd, .inr (0, [.ref pl, .int 0, .long 0, .long 0, .int 0, .int (-1), .int 0, .ref gdt, .int 0, .ref gdu, .int 0, .ref gdn]))]) [0, 1] rfl
  have hDc := hD.sub (ws' := [(h0, .inr (6, [.ref tp, .int 0, .int 0, .int (-1), .ref rd, .ref gd, .ref im, .ref rw, .ref gn, .ref ho, .ref sq])), (gd, .inr (0, [.ref pl, .int 0, .long 0, .long 0, .int 0, .int (-1), .int 0, .ref gdt, .int 0, .ref gdu, .int 0, .ref gdn]))]) [0, 1] (by decide) rfl
  have hKc := hK.sub (tys' := []) [] rfl
  have hFc := va_free (wc := [(h0, .inr (6, [.ref tp, .int 0, .int 0, .int (-1), .ref rd, .ref gd, .ref im, .ref rw, .ref gn, .ref ho, .ref sq])), (gd, .inr (0, [.ref pl, .int 0, .long 0, .long 0, .int 0, .int (-1), .int 0, .ref gdt, .int 0, .ref gdu, .int 0, .ref gdn]))]) hD hS hA [0, 1] rfl
  refine va_calli (va_runV (As := []) (rest := []) ⟨hx, hb, hml, hown, hts⟩ (c_X6_hasMaze l dC dI s.heap.size h0 tp rd gd im rw gn ho sq pl gdt gdu gdn ) (cwV 0 hts g_X6_lastly_X6_hasMaze rfl rfl rfl (by decide +kernel) ⟨Nat.le_of_ble_eq_true rfl, Nat.le_of_ble_eq_true rfl⟩) ⟨fun a U g mk q => by obtain ⟨q0, q1, qP, qK, qD⟩ := q; exact ⟨q0, q1, qP, va_K.moved (u := U) (U := U.calling g mk a) (Vm.Alike.refl U.vm) qK, qD⟩, va_recv hKc hPc (ci := 6) (q0 := 0) rfl rfl, fun U hU hW => ⟨rfl, by rw [hU], by rw [hU]; exact hPc, va_K.moved hW.alike hKc, hDc.weaken (fun _ _ _ _ => trivial)⟩⟩ rfl rfl hl.1 rfl (lv_room (Nat.le_of_ble_eq_true rfl)) dX6_lastly_1 ⟨Nat.le_of_ble_eq_true rfl, Nat.le_of_ble_eq_true rfl⟩) hS (fun q _ h => hFc q h) hFc (fun r_1 u t H1 locs ht hvm hw_2 hB hz1 hk1 hS => ?_)
  obtain ⟨hP1, hK1, hD1⟩ := hB
  have hP1 : va_P (dC, dI) vwCl [(h0, .inr (6, [.ref tp, .int 0, .int 0, .int (-1), .ref rd, .ref gd, .ref im, .ref rw, .ref gn, .ref ho, .ref sq])), (gd, .inr (0, [.ref pl, .int 0, .long 0, .long 0, .int 0, .int (-1), .int 0, .ref gdt, .int 0, .ref gdu, .int 0, .ref gdn]))] t.heap := hP1
  rw [ht] at hP1
  try dsimp only at hw_2
  obtain ⟨hP, hD⟩ := va_join (wr := [(pl, .inr (3, [.int 0, .int 0, .int 0, .int 0, .long 0, .ref plf, .ref plo, .ref plb, .ref pla]))]) (w1 := [(h0, .inr (6, [.ref tp, .int 0, .int 0, .int (-1), .ref rd, .ref gd, .ref im, .ref rw, .ref gn, .ref ho, .ref sq])), (gd, .inr (0, [.ref pl, .int 0, .long 0, .long 0, .int 0, .int (-1), .int 0, .ref gdt, .int 0, .ref gdu, .int 0, .ref gdn]))]) hP hD [0, 1] [2] rfl rfl (by decide) (by decide) hk1 hFc hP1 hD1
  generalize H1 = H at hP hS ⊢
  have hP : va_P (dC, dI) vwCl [(pl, .inr (3, [.int 0, .int 0, .int 0, .int 0, .long 0, .ref plf, .ref plo, .ref plb, .ref pla])), (h0, .inr (6, [.ref tp, .int 0, .int 0, .int (-1), .ref rd, .ref gd, .ref im, .ref rw, .ref gn, .ref ho, .ref sq])), (gd, .inr (0, [.ref pl, .int 0, .long 0, .long 0, .int 0, .int (-1), .int 0, .ref gdt, .int 0, .ref gdu, .int 0, .ref gdn]))] H := hP
  have hD : va_D A [(pl, .inr (3, [.int 0, .int 0, .int 0, .int 0, .long 0, .ref plf, .ref plo, .ref plb, .ref pla])), (h0, .inr (6, [.ref tp, .int 0, .int 0, .int (-1), .ref rd, .ref gd, .ref im, .ref rw, .ref gn, .ref ho, .ref sq])), (gd, .inr (0, [.ref pl, .int 0, .long 0, .long 0, .int 0, .int (-1), .int 0, .ref gdt, .int 0, .ref gdu, .int 0, .ref gdn]))] := hD
  obtain rfl : r_1 = 0 := hw_2
  refine lv_if_eq (tgt := 15) hx hb dX6_lastly_4 (by decide) (fun _ => ?_) (fun h => absurd (by decide) h)
  refine lv_bipush (v := -2) hx hb dX6_lastly_15 (by decide) ?_
  refine W.widen (k := 0) (n := 0) (by omega) (by omega) ?_
  exact W.iret (v := -2) hx hb hr (fun t ht hW => ⟨⟨(-2), (), rfl, (by first | rfl | ((repeat' split) <;> (first | rfl | (exfalso; omega)))), trivial⟩, hS.F ht⟩) hS.2.2 dX6_lastly_17

