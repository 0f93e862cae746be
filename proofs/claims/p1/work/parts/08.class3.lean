theorem dX6_guest_0 : decode cX6_guest 0 = .ok (.aload_n 0, 1) := by decide +kernel
theorem dX6_guest_1 : decode cX6_guest 1 = .ok (.iload_n 1, 1) := by decide +kernel
theorem dX6_guest_2 : decode cX6_guest 2 = .ok (.invokevirtual 252, 3) := by decide +kernel
theorem dX6_guest_5 : decode cX6_guest 5 = .ok (.ifCond .eq 15, 3) := by decide +kernel
theorem dX6_guest_20 : decode cX6_guest 20 = .ok (.iconst (-1), 1) := by decide +kernel
theorem dX6_guest_21 : decode cX6_guest 21 = .ok (.ireturn, 1) := by decide +kernel
def wz_X6_guest : List Cond := .code yX6_guest cX6_guest 2 (some .int) :: ([Cond.methodLink RX6 252 yX6_isGuest, Cond.instanceMethod yX6_isGuest, Cond.selects RX6 yX6_isGuest yX6_isGuest, Cond.initialized RX6, Cond.code yX6_isGuest cX6_isGuest 2 (some .boolean), Cond.fieldLink RX6 33 "HedgeMaze" "garden" "LHedgeMaze$Garden;", Cond.fieldLink RX6 258 "HedgeMaze$Garden" "guestCount" "I"] ++ wsX60 ++ wsX00)
set_option maxRecDepth 20000 in
theorem g_X6_guest_X6_isGuest : GoodIn wz_X6_guest (wsV RX6 252 RX6 yX6_isGuest wz_X6_isGuest) := goodIn_r _ [1, 2, 3, 4, 5, 6, 7, 8, 9, 10, 11, 12, 13, 14, 15, 16, 17, 18, 19, 20, 21, 22, 23, 24, 25, 26, 27, 28, 29, 30] rfl (by decide +kernel)
set_option maxHeartbeats 4000000 in
set_option maxRecDepth 100000 in
theorem c_X6_guest (l : Launch) (dC : Nat → ClassId) (dI : Nat → Nat → Nat) (sz : Nat) (h0 : Nat) (tp : Nat) (rd : Nat) (gd : Nat) (im : Nat) (rw : Nat) (gn : Nat) (ho : Nat) (sq : Nat) (pl : Nat) (gdt : Nat) (gdu : Nat) (gdn : Nat) (plf : Nat) (plo : Nat) (plb : Nat) (pla : Nat) (p0 : Int32)  : Met l yX6_guest wz_X6_guest ({ frames := 1, cells := 0, slots := 0, locals := 21 }) (va_Pc [.ref h0, .int p0] (fun U => U.heap.size = sz ∧ va_P (dC, dI) vwCl [(h0, .inr (6, [.ref tp, .int 0, .int 0, .int (-1), .ref rd, .ref gd, .ref im, .ref rw, .ref gn, .ref ho, .ref sq])), (gd, .inr (0, [.ref pl, .int 0, .long 0, .long 0, .int 0, .int (-1), .int 0, .ref gdt, .int 0, .ref gdu, .int 0, .ref gdn])), (pl, .inr (3, [.int 0, .int 0, .int 0, .int 0, .long 0, .ref plf, .ref plo, .ref plb, .ref pla]))] U.heap ∧ va_K (dC, dI) vwCl [] U ∧ va_D (fun _ => True) [(h0, .inr (6, [.ref tp, .int 0, .int 0, .int (-1), .ref rd, .ref gd, .ref im, .ref rw, .ref gn, .ref ho, .ref sq])), (gd, .inr (0, [.ref pl, .int 0, .long 0, .long 0, .int 0, .int (-1), .int 0, .ref gdt, .int 0, .ref gdu, .int 0, .ref gdn])), (pl, .inr (3, [.int 0, .int 0, .int 0, .int 0, .long 0, .ref plf, .ref plo, .ref plb, .ref pla]))])) (va_Qi (fun (r : Int32) (u : Unit) => r = -1) (fun (_ : Unit) (_ : State) => True) (va_A [(h0, .inr (6, [.ref tp, .int 0, .int 0, .int (-1), .ref rd, .ref gd, .ref im, .ref rw, .ref gn, .ref ho, .ref sq])), (gd, .inr (0, [.ref pl, .int 0, .long 0, .long 0, .int 0, .int (-1), .int 0, .ref gdt, .int 0, .ref gdu, .int 0, .ref gdn])), (pl, .inr (3, [.int 0, .int 0, .int 0, .int 0, .long 0, .ref plf, .ref plo, .ref plb, .ref pla]))] sz)) 0 0 (va_A [(h0, .inr (6, [.ref tp, .int 0, .int 0, .int (-1), .ref rd, .ref gd, .ref im, .ref rw, .ref gn, .ref ho, .ref sq])), (gd, .inr (0, [.ref pl, .int 0, .long 0, .long 0, .int 0, .int (-1), .int 0, .ref gdt, .int 0, .ref gdu, .int 0, .ref gdn])), (pl, .inr (3, [.int 0, .int 0, .int 0, .int 0, .long 0, .ref plf, .ref plo, .ref plb, .ref pla]))] sz) := by
  refine Met.ofW (cc := cX6_guest) (maxL := 2) (ret := (some .int)) (by decide) rfl ?_
  intro p e s m args below meth c s₁ B hml hv
  obtain ⟨rfl, hsz, hP, hK, hD0⟩ := hv
  have hx := B.exec
  have hb := B.bytes
  have hr := B.returns
  have hts := atoms_spec (ws := wz_X6_guest) B.pre
  have hown : s.vm.findClass RX6 = some m.cls := findClass_of_methodNamed B.named
  have hlocks := B.notSynchronized
  subst hsz
  have hD := hD0.self (sz := s.heap.size)
  generalize hAe : va_A [(h0, .inr (6, [.ref tp, .int 0, .int 0, .int (-1), .ref rd, .ref gd, .ref im, .ref rw, .ref gn, .ref ho, .ref sq])), (gd, .inr (0, [.ref pl, .int 0, .long 0, .long 0, .int 0, .int (-1), .int 0, .ref gdt, .int 0, .ref gdu, .int 0, .ref gdn])), (pl, .inr (3, [.int 0, .int 0, .int 0, .int 0, .long 0, .ref plf, .ref plo, .ref plb, .ref pla]))] s.heap.size = A at hD ⊢
  have hA : ∀ q : Nat, s.heap.size ≤ q → A q := fun q h => by rw [← hAe]; exact Or.inr h
  have hS : va_S A s.heap s.heap [] := va_S.rf
  have hP : va_P (dC, dI) vwCl [(h0, .inr (6, [.ref tp, .int 0, .int 0, .int (-1), .ref rd, .ref gd, .ref im, .ref rw, .ref gn, .ref ho, .ref sq])), (gd, .inr (0, [.ref pl, .int 0, .long 0, .long 0, .int 0, .int (-1), .int 0, .ref gdt, .int 0, .ref gdu, .int 0, .ref gdn])), (pl, .inr (3, [.int 0, .int 0, .int 0, .int 0, .long 0, .ref plf, .ref plo, .ref plb, .ref pla]))] s.heap := hP
  have hl := lv_entry ([.ref h0, .int p0]) (n := 2) (Nat.le_of_ble_eq_true rfl)
  rw [lg_entry_eq]
  generalize (lg_sl ([.ref h0, .int p0]) ++ List.replicate (2 - (lg_sl ([.ref h0, .int p0])).length) Slot.unset).toArray = ls at hl ⊢
  have hl : lv_has ls 2 [(0, .ref h0), (1, .int p0)] := hl
  refine lv_aload_n hx hb dX6_guest_0 rfl (lv_at hl 0 rfl) ?_
  refine lv_iload_n hx hb dX6_guest_1 rfl (lv_at hl 1 rfl) ?_
  have hPc := hP.sub (ws' := [(h0, .inr (6, [.ref tp, .int 0, .int 0, .int (-1), .ref rd, .ref gd, .ref im, .ref rw, .ref gn, .ref ho, .ref sq])), (gd, .inr (0, [.ref pl, .int 0, .long 0, .long 0, .int 0, .int (-1), .int 0, .ref gdt, .int 0, .ref gdu, .int 0, .ref gdn]))]) [0, 1] rfl
  have hDc := hD.sub (ws' := [(h0, .inr (6, [.ref tp, .int 0, .int 0, .int (-1), .ref rd, .ref gd, .ref im, .ref rw, .ref gn, .ref ho, .ref sq])), (gd, .inr (0, [.ref pl, .int 0, .long 0, .long 0, .int 0, .int (-1), .int 0, .ref gdt, .int 0, .ref gdu, .int 0, .ref gdn]))]) [0, 1] (by decide) rfl
  have hKc := hK.sub (tys' := []) [] rfl
  have hFc := va_free (wc := [(h0, .inr (6, [.ref tp, .int 0, .int 0, .int (-1), .ref rd, .ref gd, .ref im, .ref rw, .ref gn, .ref ho, .ref sq])), (gd, .inr (0, [.ref pl, .int 0, .long 0, .long 0, .int 0, .int (-1), .int 0, .ref gdt, .int 0, .ref gdu, .int 0, .ref gdn]))]) hD hS hA [0, 1] rfl
  refine va_calli (va_runV (As := [.int p0]) (rest := []) ⟨hx, hb, hml, hown, hts⟩ (c_X6_isGuest l dC dI s.heap.size h0 tp rd gd im rw gn ho sq pl gdt gdu gdn p0 ) (cwV 1 hts g_X6_guest_X6_isGuest rfl rfl rfl (by decide +kernel) ⟨Nat.le_of_ble_eq_true rfl, Nat.le_of_ble_eq_true rfl⟩) ⟨fun a U g mk q => by obtain ⟨q0, q1, qP, qK, qD⟩ := q; exact ⟨q0, q1, qP, va_K.moved (u := U) (U := U.calling g mk a) (Vm.Alike.refl U.vm) qK, qD⟩, va_recv hKc hPc (ci := 6) (q0 := 0) rfl rfl, fun U hU hW => ⟨rfl, by rw [hU], by rw [hU]; exact hPc, va_K.moved hW.alike hKc, hDc.weaken (fun _ _ _ _ => trivial)⟩⟩ rfl rfl hl.1 rfl (lv_room (Nat.le_of_ble_eq_true rfl)) dX6_guest_2 ⟨Nat.le_of_ble_eq_true rfl, Nat.le_of_ble_eq_true rfl⟩) hS (fun q _ h => hFc q h) hFc (fun r_1 u t H1 locs ht hvm hw_2 hB hz1 hk1 hS => ?_)
  obtain ⟨hP1, hK1, hD1⟩ := hB
  have hP1 : va_P (dC, dI) vwCl [(h0, .inr (6, [.ref tp, .int 0, .int 0, .int (-1), .ref rd, .ref gd, .ref im, .ref rw, .ref gn, .ref ho, .ref sq])), (gd, .inr (0, [.ref pl, .int 0, .long 0, .long 0, .int 0, .int (-1), .int 0, .ref gdt, .int 0, .ref gdu, .int 0, .ref gdn]))] t.heap := hP1
  rw [ht] at hP1
  try dsimp only at hw_2
  obtain ⟨hP, hD⟩ := va_join (wr := [(pl, .inr (3, [.int 0, .int 0, .int 0, .int 0, .long 0, .ref plf, .ref plo, .ref plb, .ref pla]))]) (w1 := [(h0, .inr (6, [.ref tp, .int 0, .int 0, .int (-1), .ref rd, .ref gd, .ref im, .ref rw, .ref gn, .ref ho, .ref sq])), (gd, .inr (0, [.ref pl, .int 0, .long 0, .long 0, .int 0, .int (-1), .int 0, .ref gdt, .int 0, .ref gdu, .int 0, .ref gdn]))]) hP hD [0, 1] [2] rfl rfl (by decide) (by decide) hk1 hFc hP1 hD1
  generalize H1 = H at hP hS ⊢
  have hP : va_P (dC, dI) vwCl [(pl, .inr (3, [.int 0, .int 0, .int 0, .int 0, .long 0, .ref plf, .ref plo, .ref plb, .ref pla])), (h0, .inr (6, [.ref tp, .int 0, .int 0, .int (-1), .ref rd, .ref gd, .ref im, .ref rw, .ref gn, .ref ho, .ref sq])), (gd, .inr (0, [.ref pl, .int 0, .long 0, .long 0, .int 0, .int (-1), .int 0, .ref gdt, .int 0, .ref gdu, .int 0, .ref gdn]))] H := hP
  have hD : va_D A [(pl, .inr (3, [.int 0, .int 0, .int 0, .int 0, .long 0, .ref plf, .ref plo, .ref plb, .ref pla])), (h0, .inr (6, [.ref tp, .int 0, .int 0, .int (-1), .ref rd, .ref gd, .ref im, .ref rw, .ref gn, .ref ho, .ref sq])), (gd, .inr (0, [.ref pl, .int 0, .long 0, .long 0, .int 0, .int (-1), .int 0, .ref gdt, .int 0, .ref gdu, .int 0, .ref gdn]))] := hD
  obtain rfl : r_1 = 0 := hw_2
  refine lv_if_eq (tgt := 20) hx hb dX6_guest_5 (by decide) (fun _ => ?_) (fun h => absurd (by decide) h)
  refine lv_iconst (v := -1) hx hb dX6_guest_20 (by decide) ?_
  refine W.widen (k := 0) (n := 0) (by omega) (by omega) ?_
  exact W.iret (v := -1) hx hb hr (fun t ht hW => ⟨⟨(-1), (), rfl, (by first | rfl | ((repeat' split) <;> (first | rfl | (exfalso; omega)))), trivial⟩, hS.F ht⟩) hS.2.2 dX6_guest_21

theorem dX6_end_0 : decode cX6_end 0 = .ok (.iload_n 1, 1) := by decide +kernel
theorem dX6_end_1 : decode cX6_end 1 = .ok (.ifCond .lt 11, 3) := by decide +kernel
theorem dX6_end_4 : decode cX6_end 4 = .ok (.iload_n 1, 1) := by decide +kernel
theorem dX6_end_5 : decode cX6_end 5 = .ok (.aload_n 0, 1) := by decide +kernel
theorem dX6_end_6 : decode cX6_end 6 = .ok (.getfield 13, 3) := by decide +kernel
theorem dX6_end_9 : decode cX6_end 9 = .ok (.if_icmp .le 5, 3) := by decide +kernel
theorem dX6_end_12 : decode cX6_end 12 = .ok (.iconst (-1), 1) := by decide +kernel
theorem dX6_end_13 : decode cX6_end 13 = .ok (.ireturn, 1) := by decide +kernel
theorem dX6_end_14 : decode cX6_end 14 = .ok (.aload_n 0, 1) := by decide +kernel
theorem dX6_end_15 : decode cX6_end 15 = .ok (.iload_n 1, 1) := by decide +kernel
theorem dX6_end_16 : decode cX6_end 16 = .ok (.putfield 13, 3) := by decide +kernel
theorem dX6_end_19 : decode cX6_end 19 = .ok (.iload_n 1, 1) := by decide +kernel
theorem dX6_end_20 : decode cX6_end 20 = .ok (.ireturn, 1) := by decide +kernel
def wz_X6_end : List Cond := .code yX6_end cX6_end 2 (some .int) :: ([Cond.fieldLink RX6 13 "HedgeMaze" "tapeSize" "I"] ++ wsX60)
theorem wd_X6_end_0 : Cond.fieldLink RX6 13 "HedgeMaze" "tapeSize" "I" ∈ wz_X6_end := List.mem_of_getElem? (i := 1) rfl
theorem in_X6_end_X6 : ∀ w ∈ wsX60, w ∈ wz_X6_end := fun _ h => List.mem_cons_of_mem _ (List.mem_append_right _ h)
set_option maxHeartbeats 4000000 in
set_option maxRecDepth 100000 in
theorem c_X6_end (l : Launch) (dC : Nat → ClassId) (dI : Nat → Nat → Nat) (sz : Nat) (h0 : Nat) (tp : Nat) (rd : Nat) (gd : Nat) (im : Nat) (rw : Nat) (gn : Nat) (ho : Nat) (sq : Nat) (p0 : Int32)  : Met l yX6_end wz_X6_end ({ frames := 0, cells := 0, slots := 0, locals := 0 }) (va_Pc [.ref h0, .int p0] (fun U => U.heap.size = sz ∧ va_P (dC, dI) vwCl [(h0, .inr (6, [.ref tp, .int 0, .int 0, .int (-1), .ref rd, .ref gd, .ref im, .ref rw, .ref gn, .ref ho, .ref sq]))] U.heap ∧ va_K (dC, dI) vwCl [] U ∧ va_D (fun _ => True) [(h0, .inr (6, [.ref tp, .int 0, .int 0, .int (-1), .ref rd, .ref gd, .ref im, .ref rw, .ref gn, .ref ho, .ref sq]))])) (va_Qi (fun (r : Int32) (u : Unit) => r = if p0.toInt = 0 then 0 else -1) (fun (_ : Unit) (_ : State) => True) (va_A [(h0, .inr (6, [.ref tp, .int 0, .int 0, .int (-1), .ref rd, .ref gd, .ref im, .ref rw, .ref gn, .ref ho, .ref sq]))] sz)) 0 0 (va_A [(h0, .inr (6, [.ref tp, .int 0, .int 0, .int (-1), .ref rd, .ref gd, .ref im, .ref rw, .ref gn, .ref ho, .ref sq]))] sz) := by
  refine Met.ofW (cc := cX6_end) (maxL := 2) (ret := (some .int)) (by decide) rfl ?_
  intro p e s m args below meth c s₁ B hml hv
  obtain ⟨rfl, hsz, hP, hK, hD0⟩ := hv
  have hx := B.exec
  have hb := B.bytes
  have hr := B.returns
  have hts := atoms_spec (ws := wz_X6_end) B.pre
  have hown : s.vm.findClass RX6 = some m.cls := findClass_of_methodNamed B.named
  have hlocks := B.notSynchronized
  subst hsz
  have hD := hD0.self (sz := s.heap.size)
  generalize hAe : va_A [(h0, .inr (6, [.ref tp, .int 0, .int 0, .int (-1), .ref rd, .ref gd, .ref im, .ref rw, .ref gn, .ref ho, .ref sq]))] s.heap.size = A at hD ⊢
  have hA : ∀ q : Nat, s.heap.size ≤ q → A q := fun q h => by rw [← hAe]; exact Or.inr h
  have hS : va_S A s.heap s.heap [] := va_S.rf
  have hP : va_P (dC, dI) vwCl [(h0, .inr (6, [.ref tp, .int 0, .int 0, .int (-1), .ref rd, .ref gd, .ref im, .ref rw, .ref gn, .ref ho, .ref sq]))] s.heap := hP
  have hl := lv_entry ([.ref h0, .int p0]) (n := 2) (Nat.le_of_ble_eq_true rfl)
  rw [lg_entry_eq]
  generalize (lg_sl ([.ref h0, .int p0]) ++ List.replicate (2 - (lg_sl ([.ref h0, .int p0])).length) Slot.unset).toArray = ls at hl ⊢
  have hl : lv_has ls 2 [(0, .ref h0), (1, .int p0)] := hl
  refine lv_iload_n hx hb dX6_end_0 rfl (lv_at hl 1 rfl) ?_
  refine lv_if_lt (tgt := 12) hx hb dX6_end_1 (by decide) (fun c_1 => ?_) (fun c_1 => ?_)
  · have c_1 : p0.toInt < 0 := i_lt (a := p0) (b := 0) rfl (by decide) c_1
    refine lv_iconst (v := -1) hx hb dX6_end_12 (by decide) ?_
    refine W.widen (k := 0) (n := 0) (by omega) (by omega) ?_
    exact W.iret (v := -1) hx hb hr (fun t ht hW => ⟨⟨(-1), (), rfl, (by first | rfl | ((repeat' split) <;> (first | rfl | (exfalso; omega)))), trivial⟩, hS.F ht⟩) hS.2.2 dX6_end_13
  · have c_1 : 0 ≤ p0.toInt := i_nlt (a := p0) (b := 0) rfl (by decide) c_1
    refine lv_iload_n hx hb dX6_end_4 rfl (lv_at hl 1 rfl) ?_
    refine lv_aload_n hx hb dX6_end_5 rfl (lv_at hl 0 rfl) ?_
    refine va_get (D := (dC, dI)) (ci := 6) (v := .int 0) (C := RX6) (T := TX6) (N := 11) hx hb hts in_X6_end_X6 hown hK hP 0 rfl rfl 1 (by decide) (hts _ wd_X6_end_0) (fun _ h9 => h9) rfl dX6_end_6 ?_
    refine lv_icmp_le (tgt := 14) hx hb dX6_end_9 (by decide) (fun c_2 => ?_) (fun c_2 => ?_)
    · have c_2 : p0.toInt ≤ 0 := i_le (a := p0) (b := 0) rfl (by decide) c_2
      refine lv_aload_n hx hb dX6_end_14 rfl (lv_at hl 0 rfl) ?_
      refine lv_iload_n hx hb dX6_end_15 rfl (lv_at hl 1 rfl) ?_
      refine va_put (D := (dC, dI)) (ci := 6) (v := .int p0) (ty := .int) (C := RX6) (T := TX6) (N := 11) hx hb hts in_X6_end_X6 tyX6 tyX6_ok nmX6 hown hK hP hD hS 0 rfl rfl 1 (by decide) (hts _ wd_X6_end_0) (fun _ h9 => h9) rfl (by decide +kernel) rfl rfl (Nat.le_of_ble_eq_true rfl) dX6_end_16 (fun H locs hP hD hS => ?_)
      have hP : va_P (dC, dI) vwCl [(h0, .inr (6, [.ref tp, .int p0, .int 0, .int (-1), .ref rd, .ref gd, .ref im, .ref rw, .ref gn, .ref ho, .ref sq]))] H := hP
      have hD : va_D A [(h0, .inr (6, [.ref tp, .int p0, .int 0, .int (-1), .ref rd, .ref gd, .ref im, .ref rw, .ref gn, .ref ho, .ref sq]))] := hD
      refine lv_iload_n hx hb dX6_end_19 rfl (lv_at hl 1 rfl) ?_
      refine W.widen (k := 0) (n := 0) (by omega) (by omega) ?_
      exact W.iret (v := p0) hx hb hr (fun t ht hW => ⟨⟨p0, (), rfl, (by rw [if_pos (by omega)]; exact i_of (Eq.trans (by omega : p0.toInt = 0) (by decide))), trivial⟩, hS.F ht⟩) hS.2.2 dX6_end_20
    · have c_2 : 0 < p0.toInt := i_nle (a := p0) (b := 0) rfl (by decide) c_2
      refine lv_iconst (v := -1) hx hb dX6_end_12 (by decide) ?_
      refine W.widen (k := 0) (n := 0) (by omega) (by omega) ?_
      exact W.iret (v := -1) hx hb hr (fun t ht hW => ⟨⟨(-1), (), rfl, (by first | rfl | ((repeat' split) <;> (first | rfl | (exfalso; omega)))), trivial⟩, hS.F ht⟩) hS.2.2 dX6_end_13

theorem dX6_fault_0 : decode cX6_fault 0 = .ok (.iload_n 1, 1) := by decide +kernel
theorem dX6_fault_1 : decode cX6_fault 1 = .ok (.ifCond .ne 8, 3) := by decide +kernel
theorem dX6_fault_4 : decode cX6_fault 4 = .ok (.aload_n 0, 1) := by decide +kernel
theorem dX6_fault_5 : decode cX6_fault 5 = .ok (.getfield 17, 3) := by decide +kernel
theorem dX6_fault_8 : decode cX6_fault 8 = .ok (.ireturn, 1) := by decide +kernel
theorem dX6_fault_9 : decode cX6_fault 9 = .ok (.iload_n 1, 1) := by decide +kernel
theorem dX6_fault_10 : decode cX6_fault 10 = .ok (.iconst 1, 1) := by decide +kernel
theorem dX6_fault_11 : decode cX6_fault 11 = .ok (.if_icmp .ne 10, 3) := by decide +kernel
theorem dX6_fault_14 : decode cX6_fault 14 = .ok (.aload_n 0, 1) := by decide +kernel
theorem dX6_fault_15 : decode cX6_fault 15 = .ok (.getfield 20, 3) := by decide +kernel
theorem dX6_fault_18 : decode cX6_fault 18 = .ok (.goto 4, 3) := by decide +kernel
theorem dX6_fault_21 : decode cX6_fault 21 = .ok (.iconst (-1), 1) := by decide +kernel
theorem dX6_fault_22 : decode cX6_fault 22 = .ok (.ireturn, 1) := by decide +kernel
def wz_X6_fault : List Cond := .code yX6_fault cX6_fault 2 (some .int) :: ([Cond.fieldLink RX6 20 "HedgeMaze" "faultPlace" "I", Cond.fieldLink RX6 17 "HedgeMaze" "faultNumber" "I"] ++ wsX60)
theorem wd_X6_fault_0 : Cond.fieldLink RX6 20 "HedgeMaze" "faultPlace" "I" ∈ wz_X6_fault := List.mem_of_getElem? (i := 1) rfl
theorem wd_X6_fault_1 : Cond.fieldLink RX6 17 "HedgeMaze" "faultNumber" "I" ∈ wz_X6_fault := List.mem_of_getElem? (i := 2) rfl
theorem in_X6_fault_X6 : ∀ w ∈ wsX60, w ∈ wz_X6_fault := fun _ h => List.mem_cons_of_mem _ (List.mem_append_right _ h)
set_option maxHeartbeats 4000000 in
set_option maxRecDepth 100000 in
theorem c_X6_fault (l : Launch) (dC : Nat → ClassId) (dI : Nat → Nat → Nat) (sz : Nat) (h0 : Nat) (tp : Nat) (rd : Nat) (gd : Nat) (im : Nat) (rw : Nat) (gn : Nat) (ho : Nat) (sq : Nat) (p0 : Int32)  : Met l yX6_fault wz_X6_fault ({ frames := 0, cells := 0, slots := 0, locals := 0 }) (va_Pc [.ref h0, .int p0] (fun U => U.heap.size = sz ∧ va_P (dC, dI) vwCl [(h0, .inr (6, [.ref tp, .int 0, .int 0, .int (-1), .ref rd, .ref gd, .ref im, .ref rw, .ref gn, .ref ho, .ref sq]))] U.heap ∧ va_K (dC, dI) vwCl [] U ∧ va_D (fun _ => True) [(h0, .inr (6, [.ref tp, .int 0, .int 0, .int (-1), .ref rd, .ref gd, .ref im, .ref rw, .ref gn, .ref ho, .ref sq]))])) (va_Qi (fun (r : Int32) (u : Unit) => r = if p0.toInt = 0 then 0 else -1) (fun (_ : Unit) (_ : State) => True) (va_A [(h0, .inr (6, [.ref tp, .int 0, .int 0, .int (-1), .ref rd, .ref gd, .ref im, .ref rw, .ref gn, .ref ho, .ref sq]))] sz)) 0 0 (va_A [(h0, .inr (6, [.ref tp, .int 0, .int 0, .int (-1), .ref rd, .ref gd, .ref im, .ref rw, .ref gn, .ref ho, .ref sq]))] sz) := by
  refine Met.ofW (cc := cX6_fault) (maxL := 2) (ret := (some .int)) (by decide) rfl ?_
  intro p e s m args below meth c s₁ B hml hv
  obtain ⟨rfl, hsz, hP, hK, hD0⟩ := hv
  have hx := B.exec
  have hb := B.bytes
  have hr := B.returns
  have hts := atoms_spec (ws := wz_X6_fault) B.pre
  have hown : s.vm.findClass RX6 = some m.cls := findClass_of_methodNamed B.named
  have hlocks := B.notSynchronized
  subst hsz
  have hD := hD0.self (sz := s.heap.size)
  generalize hAe : va_A [(h0, .inr (6, [.ref tp, .int 0, .int 0, .int (-1), .ref rd, .ref gd, .ref im, .ref rw, .ref gn, .ref ho, .ref sq]))] s.heap.size = A at hD ⊢
  have hA : ∀ q : Nat, s.heap.size ≤ q → A q := fun q h => by rw [← hAe]; exact Or.inr h
  have hS : va_S A s.heap s.heap [] := va_S.rf
  have hP : va_P (dC, dI) vwCl [(h0, .inr (6, [.ref tp, .int 0, .int 0, .int (-1), .ref rd, .ref gd, .ref im, .ref rw, .ref gn, .ref ho, .ref sq]))] s.heap := hP
  have hl := lv_entry ([.ref h0, .int p0]) (n := 2) (Nat.le_of_ble_eq_true rfl)
  rw [lg_entry_eq]
  generalize (lg_sl ([.ref h0, .int p0]) ++ List.replicate (2 - (lg_sl ([.ref h0, .int p0])).length) Slot.unset).toArray = ls at hl ⊢
  have hl : lv_has ls 2 [(0, .ref h0), (1, .int p0)] := hl
  refine lv_iload_n hx hb dX6_fault_0 rfl (lv_at hl 1 rfl) ?_
  refine lv_if_ne (tgt := 9) hx hb dX6_fault_1 (by decide) (fun c_1 => ?_) (fun c_1 => ?_)
  · have c_1 : p0.toInt ≠ 0 := i_ne (a := p0) (b := 0) rfl (by decide) c_1
    refine lv_iload_n hx hb dX6_fault_9 rfl (lv_at hl 1 rfl) ?_
    refine lv_iconst (v := 1) hx hb dX6_fault_10 (by decide) ?_
    refine lv_icmp_ne (tgt := 21) hx hb dX6_fault_11 (by decide) (fun c_2 => ?_) (fun c_2 => ?_)
    · have c_2 : p0.toInt ≠ 1 := i_ne (a := p0) (b := 1) rfl (by decide) c_2
      refine lv_iconst (v := -1) hx hb dX6_fault_21 (by decide) ?_
      refine W.widen (k := 0) (n := 0) (by omega) (by omega) ?_
      exact W.iret (v := -1) hx hb hr (fun t ht hW => ⟨⟨(-1), (), rfl, (by first | rfl | ((repeat' split) <;> (first | rfl | (exfalso; omega)))), trivial⟩, hS.F ht⟩) hS.2.2 dX6_fault_22
    · have c_2 : p0.toInt = 1 := i_eq (a := p0) (b := 1) rfl (by decide) c_2
      refine lv_aload_n hx hb dX6_fault_14 rfl (lv_at hl 0 rfl) ?_
      refine va_get (D := (dC, dI)) (ci := 6) (v := .int (-1)) (C := RX6) (T := TX6) (N := 11) hx hb hts in_X6_fault_X6 hown hK hP 0 rfl rfl 3 (by decide) (hts _ wd_X6_fault_0) (fun _ h9 => h9) rfl dX6_fault_15 ?_
      refine lv_goto (tgt := 22) hx hb dX6_fault_18 (by decide) ?_
      refine W.widen (k := 0) (n := 0) (by omega) (by omega) ?_
      exact W.iret (v := -1) hx hb hr (fun t ht hW => ⟨⟨(-1), (), rfl, (by first | rfl | ((repeat' split) <;> (first | rfl | (exfalso; omega)))), trivial⟩, hS.F ht⟩) hS.2.2 dX6_fault_22
  · have c_1 : p0.toInt = 0 := i_eq (a := p0) (b := 0) rfl (by decide) c_1
    refine lv_aload_n hx hb dX6_fault_4 rfl (lv_at hl 0 rfl) ?_
    refine va_get (D := (dC, dI)) (ci := 6) (v := .int 0) (C := RX6) (T := TX6) (N := 11) hx hb hts in_X6_fault_X6 hown hK hP 0 rfl rfl 2 (by decide) (hts _ wd_X6_fault_1) (fun _ h9 => h9) rfl dX6_fault_5 ?_
    refine W.widen (k := 0) (n := 0) (by omega) (by omega) ?_
    exact W.iret (v := 0) hx hb hr (fun t ht hW => ⟨⟨0, (), rfl, (by first | rfl | ((repeat' split) <;> (first | rfl | (exfalso; omega)))), trivial⟩, hS.F ht⟩) hS.2.2 dX6_fault_8

theorem dX6_putBytes_0 : decode cX6_putBytes 0 = .ok (.bipush 24, 2) := by decide +kernel
theorem dX6_putBytes_2 : decode cX6_putBytes 2 = .ok (.istore_n 2, 1) := by decide +kernel
theorem dX6_putBytes_3 : decode cX6_putBytes 3 = .ok (.iload_n 2, 1) := by decide +kernel
theorem dX6_putBytes_4 : decode cX6_putBytes 4 = .ok (.ifCond .lt 42, 3) := by decide +kernel
theorem dX6_putBytes_7 : decode cX6_putBytes 7 = .ok (.aload_n 0, 1) := by decide +kernel
theorem dX6_putBytes_8 : decode cX6_putBytes 8 = .ok (.getfield 13, 3) := by decide +kernel
theorem dX6_putBytes_11 : decode cX6_putBytes 11 = .ok (.sipush 1600, 3) := by decide +kernel
theorem dX6_putBytes_14 : decode cX6_putBytes 14 = .ok (.if_icmp .ge 26, 3) := by decide +kernel
theorem dX6_putBytes_17 : decode cX6_putBytes 17 = .ok (.aload_n 0, 1) := by decide +kernel
theorem dX6_putBytes_18 : decode cX6_putBytes 18 = .ok (.getfield 9, 3) := by decide +kernel
theorem dX6_putBytes_21 : decode cX6_putBytes 21 = .ok (.aload_n 0, 1) := by decide +kernel
theorem dX6_putBytes_22 : decode cX6_putBytes 22 = .ok (.getfield 13, 3) := by decide +kernel
theorem dX6_putBytes_25 : decode cX6_putBytes 25 = .ok (.iload_n 1, 1) := by decide +kernel
theorem dX6_putBytes_26 : decode cX6_putBytes 26 = .ok (.iload_n 2, 1) := by decide +kernel
theorem dX6_putBytes_27 : decode cX6_putBytes 27 = .ok (.ishr, 1) := by decide +kernel
theorem dX6_putBytes_28 : decode cX6_putBytes 28 = .ok (.i2b, 1) := by decide +kernel
theorem dX6_putBytes_29 : decode cX6_putBytes 29 = .ok (.bastore, 1) := by decide +kernel
theorem dX6_putBytes_30 : decode cX6_putBytes 30 = .ok (.aload_n 0, 1) := by decide +kernel
theorem dX6_putBytes_31 : decode cX6_putBytes 31 = .ok (.dup, 1) := by decide +kernel
theorem dX6_putBytes_32 : decode cX6_putBytes 32 = .ok (.getfield 13, 3) := by decide +kernel
theorem dX6_putBytes_35 : decode cX6_putBytes 35 = .ok (.iconst 1, 1) := by decide +kernel
theorem dX6_putBytes_36 : decode cX6_putBytes 36 = .ok (.iadd, 1) := by decide +kernel
theorem dX6_putBytes_37 : decode cX6_putBytes 37 = .ok (.putfield 13, 3) := by decide +kernel
theorem dX6_putBytes_40 : decode cX6_putBytes 40 = .ok (.iinc 2 (-8), 3) := by decide +kernel
theorem dX6_putBytes_43 : decode cX6_putBytes 43 = .ok (.goto (-40), 3) := by decide +kernel
theorem dX6_putBytes_46 : decode cX6_putBytes 46 = .ok (.return_, 1) := by decide +kernel
def wz_X6_putBytes_0 : List Cond := .code yX6_putBytes cX6_putBytes 3 none :: ([Cond.fieldLink RX6 13 "HedgeMaze" "tapeSize" "I", Cond.fieldLink RX6 9 "HedgeMaze" "tape" "[B"] ++ wsX60)
theorem wd_X6_putBytes_0_0 : Cond.fieldLink RX6 13 "HedgeMaze" "tapeSize" "I" ∈ wz_X6_putBytes_0 := List.mem_of_getElem? (i := 1) rfl
theorem wd_X6_putBytes_0_1 : Cond.fieldLink RX6 9 "HedgeMaze" "tape" "[B" ∈ wz_X6_putBytes_0 := List.mem_of_getElem? (i := 2) rfl
theorem in_X6_putBytes_0_X6 : ∀ w ∈ wsX60, w ∈ wz_X6_putBytes_0 := fun _ h => List.mem_cons_of_mem _ (List.mem_append_right _ h)
set_option maxHeartbeats 4000000 in
set_option maxRecDepth 100000 in
theorem c_X6_putBytes_0 (l : Launch) (dC : Nat → ClassId) (dI : Nat → Nat → Nat) (sz : Nat) (h0 : Nat) (tp : Nat) (rd : Nat) (gd : Nat) (im : Nat) (rw : Nat) (gn : Nat) (ho : Nat) (sq : Nat) (cb : ClassId) (ft : Nat → Int32) (p0 : Int32)  : Met l yX6_putBytes wz_X6_putBytes_0 ({ frames := 0, cells := 0, slots := 0, locals := 0 }) (va_Pc [.ref h0, .int p0] (fun U => U.heap.size = sz ∧ va_P (dC, dI) vwCl [(h0, .inr (6, [.ref tp, .int 0, .int 0, .int (-1), .ref rd, .ref gd, .ref im, .ref rw, .ref gn, .ref ho, .ref sq])), (tp, .inl (cb, 1600, .inl ft))] U.heap ∧ va_K (dC, dI) vwCl [(cb, .byte)] U ∧ va_D (fun _ => True) [(h0, .inr (6, [.ref tp, .int 0, .int 0, .int (-1), .ref rd, .ref gd, .ref im, .ref rw, .ref gn, .ref ho, .ref sq])), (tp, .inl (cb, 1600, .inl ft))])) (va_Qv (fun (u : (Nat → Int32)) => True) (fun (u : (Nat → Int32)) (t : State) => va_P (dC, dI) vwCl [(h0, .inr (6, [.ref tp, .int 4, .int 0, .int (-1), .ref rd, .ref gd, .ref im, .ref rw, .ref gn, .ref ho, .ref sq])), (tp, .inl (cb, 1600, .inl u))] t.heap ∧ va_K (dC, dI) vwCl [] t ∧ va_D (va_A [(h0, .inr (6, [.ref tp, .int 0, .int 0, .int (-1), .ref rd, .ref gd, .ref im, .ref rw, .ref gn, .ref ho, .ref sq])), (tp, .inl (cb, 1600, .inl ft))] sz) [(h0, .inr (6, [.ref tp, .int 4, .int 0, .int (-1), .ref rd, .ref gd, .ref im, .ref rw, .ref gn, .ref ho, .ref sq])), (tp, .inl (cb, 1600, .inl u))]) (va_A [(h0, .inr (6, [.ref tp, .int 0, .int 0, .int (-1), .ref rd, .ref gd, .ref im, .ref rw, .ref gn, .ref ho, .ref sq])), (tp, .inl (cb, 1600, .inl ft))] sz)) 0 0 (va_A [(h0, .inr (6, [.ref tp, .int 0, .int 0, .int (-1), .ref rd, .ref gd, .ref im, .ref rw, .ref gn, .ref ho, .ref sq])), (tp, .inl (cb, 1600, .inl ft))] sz) := by
  refine Met.ofW (cc := cX6_putBytes) (maxL := 3) (ret := none) (by decide) rfl ?_
  intro p e s m args below meth c s₁ B hml hv
  obtain ⟨rfl, hsz, hP, hK, hD0⟩ := hv
  have hx := B.exec
  have hb := B.bytes
  have hr := B.returns
  have hts := atoms_spec (ws := wz_X6_putBytes_0) B.pre
  have hown : s.vm.findClass RX6 = some m.cls := findClass_of_methodNamed B.named
  have hlocks := B.notSynchronized
  subst hsz
  have hD := hD0.self (sz := s.heap.size)
  generalize hAe : va_A [(h0, .inr (6, [.ref tp, .int 0, .int 0, .int (-1), .ref rd, .ref gd, .ref im, .ref rw, .ref gn, .ref ho, .ref sq])), (tp, .inl (cb, 1600, .inl ft))] s.heap.size = A at hD ⊢
  have hA : ∀ q : Nat, s.heap.size ≤ q → A q := fun q h => by rw [← hAe]; exact Or.inr h
  have hS : va_S A s.heap s.heap [] := va_S.rf
  have hP : va_P (dC, dI) vwCl [(h0, .inr (6, [.ref tp, .int 0, .int 0, .int (-1), .ref rd, .ref gd, .ref im, .ref rw, .ref gn, .ref ho, .ref sq])), (tp, .inl (cb, 1600, .inl ft))] s.heap := hP
  have hl := lv_entry ([.ref h0, .int p0]) (n := 3) (Nat.le_of_ble_eq_true rfl)
  rw [lg_entry_eq]
  generalize (lg_sl ([.ref h0, .int p0]) ++ List.replicate (3 - (lg_sl ([.ref h0, .int p0])).length) Slot.unset).toArray = ls at hl ⊢
  have hl : lv_has ls 3 [(0, .ref h0), (1, .int p0)] := hl
  refine lv_bipush (v := 24) hx hb dX6_putBytes_0 (by decide) ?_
  refine lv_istore_n (lv' := [(2, .int 24), (0, .ref h0), (1, .int p0)]) hx hb dX6_putBytes_2 rfl hl (by decide) rfl (fun ls hl => ?_)
  refine lv_iload_n hx hb dX6_putBytes_3 rfl (lv_at hl 0 rfl) ?_
  refine lv_if_lt (tgt := 46) hx hb dX6_putBytes_4 (by decide) (fun h => absurd h (by decide)) (fun _ => ?_)
  refine lv_aload_n hx hb dX6_putBytes_7 rfl (lv_at hl 1 rfl) ?_
  refine va_get (D := (dC, dI)) (ci := 6) (v := .int 0) (C := RX6) (T := TX6) (N := 11) hx hb hts in_X6_putBytes_0_X6 hown hK hP 0 rfl rfl 1 (by decide) (hts _ wd_X6_putBytes_0_0) (fun _ h9 => h9) rfl dX6_putBytes_8 ?_
  refine lv_sipush (v := 1600) hx hb dX6_putBytes_11 (by decide) ?_
  refine lv_icmp_ge (tgt := 40) hx hb dX6_putBytes_14 (by decide) (fun h => absurd h (by decide)) (fun _ => ?_)
  refine lv_aload_n hx hb dX6_putBytes_17 rfl (lv_at hl 1 rfl) ?_
  refine va_get (D := (dC, dI)) (ci := 6) (v := .ref tp) (C := RX6) (T := TX6) (N := 11) hx hb hts in_X6_putBytes_0_X6 hown hK hP 0 rfl rfl 0 (by decide) (hts _ wd_X6_putBytes_0_1) (fun _ h9 => h9) rfl dX6_putBytes_18 ?_
  refine lv_aload_n hx hb dX6_putBytes_21 rfl (lv_at hl 1 rfl) ?_
  refine va_get (D := (dC, dI)) (ci := 6) (v := .int 0) (C := RX6) (T := TX6) (N := 11) hx hb hts in_X6_putBytes_0_X6 hown hK hP 0 rfl rfl 1 (by decide) (hts _ wd_X6_putBytes_0_0) (fun _ h9 => h9) rfl dX6_putBytes_22 ?_
  refine lv_iload_n hx hb dX6_putBytes_25 rfl (lv_at hl 2 rfl) ?_
  refine lv_iload_n hx hb dX6_putBytes_26 rfl (lv_at hl 0 rfl) ?_
  refine lv_ishr hx hb dX6_putBytes_27 ?_
  refine lv_topi (fun x_3 ex_3 => ?_)
  refine lv_i2b (v := x_3.toInt8.toInt32) hx hb dX6_putBytes_28 rfl ?_
  refine lv_topi (fun x_4 ex_4 => ?_)
  refine va_bast hx hb hK hP hD hS 1 0 rfl rfl (vp_in_iff.mpr ⟨by decide, by decide⟩) dX6_putBytes_29 (fun H locs hP hD hS => ?_)
  have hP : va_P (dC, dI) vwCl [(h0, .inr (6, [.ref tp, .int 0, .int 0, .int (-1), .ref rd, .ref gd, .ref im, .ref rw, .ref gn, .ref ho, .ref sq])), (tp, .inl (cb, 1600, .inl (upd ft ((0 : Int32)).toNatClampNeg (vp_nar .byte x_4))))] H := hP
  have hD : va_D A [(h0, .inr (6, [.ref tp, .int 0, .int 0, .int (-1), .ref rd, .ref gd, .ref im, .ref rw, .ref gn, .ref ho, .ref sq])), (tp, .inl (cb, 1600, .inl (upd ft ((0 : Int32)).toNatClampNeg (vp_nar .byte x_4))))] := hD
  obtain ⟨f_5, ef_5⟩ : ∃ g, g = upd ft ((0 : Int32)).toNatClampNeg (vp_nar .byte x_4) := ⟨_, rfl⟩
  rw [← ef_5] at hP hD
  refine lv_aload_n hx hb dX6_putBytes_30 rfl (lv_at hl 1 rfl) ?_
  refine lv_dup hx hb dX6_putBytes_31 rfl ?_
  refine va_get (D := (dC, dI)) (ci := 6) (v := .int 0) (C := RX6) (T := TX6) (N := 11) hx hb hts in_X6_putBytes_0_X6 hown hK hP 0 rfl rfl 1 (by decide) (hts _ wd_X6_putBytes_0_0) (fun _ h9 => h9) rfl dX6_putBytes_32 ?_
  refine lv_iconst (v := 1) hx hb dX6_putBytes_35 (by decide) ?_
  refine lv_iadd hx hb dX6_putBytes_36 ?_
  refine lv_topi (fun z_6 ez_6 => ?_)
  obtain rfl : z_6 = 1 := ez_6.trans (by decide)
  refine va_put (D := (dC, dI)) (ci := 6) (v := .int 1) (ty := .int) (C := RX6) (T := TX6) (N := 11) hx hb hts in_X6_putBytes_0_X6 tyX6 tyX6_ok nmX6 hown hK hP hD hS 0 rfl rfl 1 (by decide) (hts _ wd_X6_putBytes_0_0) (fun _ h9 => h9) rfl (by decide +kernel) rfl rfl (Nat.le_of_ble_eq_true rfl) dX6_putBytes_37 (fun H locs hP hD hS => ?_)
  have hP : va_P (dC, dI) vwCl [(h0, .inr (6, [.ref tp, .int 1, .int 0, .int (-1), .ref rd, .ref gd, .ref im, .ref rw, .ref gn, .ref ho, .ref sq])), (tp, .inl (cb, 1600, .inl f_5))] H := hP
  have hD : va_D A [(h0, .inr (6, [.ref tp, .int 1, .int 0, .int (-1), .ref rd, .ref gd, .ref im, .ref rw, .ref gn, .ref ho, .ref sq])), (tp, .inl (cb, 1600, .inl f_5))] := hD
  refine lv_iinc (v := 16) (lv' := [(2, .int 16), (0, .ref h0), (1, .int p0)]) hx hb dX6_putBytes_40 hl (k := 0) rfl (by decide) (by decide) rfl (fun ls hl => ?_)
  refine lv_goto (tgt := 3) hx hb dX6_putBytes_43 (by decide) ?_
  refine lv_iload_n hx hb dX6_putBytes_3 rfl (lv_at hl 0 rfl) ?_
  refine lv_if_lt (tgt := 46) hx hb dX6_putBytes_4 (by decide) (fun h => absurd h (by decide)) (fun _ => ?_)
  refine lv_aload_n hx hb dX6_putBytes_7 rfl (lv_at hl 1 rfl) ?_
  refine va_get (D := (dC, dI)) (ci := 6) (v := .int 1) (C := RX6) (T := TX6) (N := 11) hx hb hts in_X6_putBytes_0_X6 hown hK hP 0 rfl rfl 1 (by decide) (hts _ wd_X6_putBytes_0_0) (fun _ h9 => h9) rfl dX6_putBytes_8 ?_
  refine lv_sipush (v := 1600) hx hb dX6_putBytes_11 (by decide) ?_
  refine lv_icmp_ge (tgt := 40) hx hb dX6_putBytes_14 (by decide) (fun h => absurd h (by decide)) (fun _ => ?_)
  refine lv_aload_n hx hb dX6_putBytes_17 rfl (lv_at hl 1 rfl) ?_
  refine va_get (D := (dC, dI)) (ci := 6) (v := .ref tp) (C := RX6) (T := TX6) (N := 11) hx hb hts in_X6_putBytes_0_X6 hown hK hP 0 rfl rfl 0 (by decide) (hts _ wd_X6_putBytes_0_1) (fun _ h9 => h9) rfl dX6_putBytes_18 ?_
  refine lv_aload_n hx hb dX6_putBytes_21 rfl (lv_at hl 1 rfl) ?_
  refine va_get (D := (dC, dI)) (ci := 6) (v := .int 1) (C := RX6) (T := TX6) (N := 11) hx hb hts in_X6_putBytes_0_X6 hown hK hP 0 rfl rfl 1 (by decide) (hts _ wd_X6_putBytes_0_0) (fun _ h9 => h9) rfl dX6_putBytes_22 ?_
  refine lv_iload_n hx hb dX6_putBytes_25 rfl (lv_at hl 2 rfl) ?_
  refine lv_iload_n hx hb dX6_putBytes_26 rfl (lv_at hl 0 rfl) ?_
  refine lv_ishr hx hb dX6_putBytes_27 ?_
  refine lv_topi (fun x_9 ex_9 => ?_)
  refine lv_i2b (v := x_9.toInt8.toInt32) hx hb dX6_putBytes_28 rfl ?_
  refine lv_topi (fun x_10 ex_10 => ?_)
  refine va_bast hx hb hK hP hD hS 1 0 rfl rfl (vp_in_iff.mpr ⟨by decide, by decide⟩) dX6_putBytes_29 (fun H locs hP hD hS => ?_)
  have hP : va_P (dC, dI) vwCl [(h0, .inr (6, [.ref tp, .int 1, .int 0, .int (-1), .ref rd, .ref gd, .ref im, .ref rw, .ref gn, .ref ho, .ref sq])), (tp, .inl (cb, 1600, .inl (upd f_5 ((1 : Int32)).toNatClampNeg (vp_nar .byte x_10))))] H := hP
  have hD : va_D A [(h0, .inr (6, [.ref tp, .int 1, .int 0, .int (-1), .ref rd, .ref gd, .ref im, .ref rw, .ref gn, .ref ho, .ref sq])), (tp, .inl (cb, 1600, .inl (upd f_5 ((1 : Int32)).toNatClampNeg (vp_nar .byte x_10))))] := hD
  obtain ⟨f_11, ef_11⟩ : ∃ g, g = upd f_5 ((1 : Int32)).toNatClampNeg (vp_nar .byte x_10) := ⟨_, rfl⟩
  rw [← ef_11] at hP hD
  refine lv_aload_n hx hb dX6_putBytes_30 rfl (lv_at hl 1 rfl) ?_
  refine lv_dup hx hb dX6_putBytes_31 rfl ?_
  refine va_get (D := (dC, dI)) (ci := 6) (v := .int 1) (C := RX6) (T := TX6) (N := 11) hx hb hts in_X6_putBytes_0_X6 hown hK hP 0 rfl rfl 1 (by decide) (hts _ wd_X6_putBytes_0_0) (fun _ h9 => h9) rfl dX6_putBytes_32 ?_
  refine lv_iconst (v := 1) hx hb dX6_putBytes_35 (by decide) ?_
  refine lv_iadd hx hb dX6_putBytes_36 ?_
  refine lv_topi (fun z_12 ez_12 => ?_)
  obtain rfl : z_12 = 2 := ez_12.trans (by decide)
  refine va_put (D := (dC, dI)) (ci := 6) (v := .int 2) (ty := .int) (C := RX6) (T := TX6) (N := 11) hx hb hts in_X6_putBytes_0_X6 tyX6 tyX6_ok nmX6 hown hK hP hD hS 0 rfl rfl 1 (by decide) (hts _ wd_X6_putBytes_0_0) (fun _ h9 => h9) rfl (by decide +kernel) rfl rfl (Nat.le_of_ble_eq_true rfl) dX6_putBytes_37 (fun H locs hP hD hS => ?_)
  have hP : va_P (dC, dI) vwCl [(h0, .inr (6, [.ref tp, .int 2, .int 0, .int (-1), .ref rd, .ref gd, .ref im, .ref rw, .ref gn, .ref ho, .ref sq])), (tp, .inl (cb, 1600, .inl f_11))] H := hP
  have hD : va_D A [(h0, .inr (6, [.ref tp, .int 2, .int 0, .int (-1), .ref rd, .ref gd, .ref im, .ref rw, .ref gn, .ref ho, .ref sq])), (tp, .inl (cb, 1600, .inl f_11))] := hD
  refine lv_iinc (v := 8) (lv' := [(2, .int 8), (0, .ref h0), (1, .int p0)]) hx hb dX6_putBytes_40 hl (k := 0) rfl (by decide) (by decide) rfl (fun ls hl => ?_)
  refine lv_goto (tgt := 3) hx hb dX6_putBytes_43 (by decide) ?_
  refine lv_iload_n hx hb dX6_putBytes_3 rfl (lv_at hl 0 rfl) ?_
  refine lv_if_lt (tgt := 46) hx hb dX6_putBytes_4 (by decide) (fun h => absurd h (by decide)) (fun _ => ?_)
  refine lv_aload_n hx hb dX6_putBytes_7 rfl (lv_at hl 1 rfl) ?_
  refine va_get (D := (dC, dI)) (ci := 6) (v := .int 2) (C := RX6) (T := TX6) (N := 11) hx hb hts in_X6_putBytes_0_X6 hown hK hP 0 rfl rfl 1 (by decide) (hts _ wd_X6_putBytes_0_0) (fun _ h9 => h9) rfl dX6_putBytes_8 ?_
  refine lv_sipush (v := 1600) hx hb dX6_putBytes_11 (by decide) ?_
  refine lv_icmp_ge (tgt := 40) hx hb dX6_putBytes_14 (by decide) (fun h => absurd h (by decide)) (fun _ => ?_)
  refine lv_aload_n hx hb dX6_putBytes_17 rfl (lv_at hl 1 rfl) ?_
  refine va_get (D := (dC, dI)) (ci := 6) (v := .ref tp) (C := RX6) (T := TX6) (N := 11) hx hb hts in_X6_putBytes_0_X6 hown hK hP 0 rfl rfl 0 (by decide) (hts _ wd_X6_putBytes_0_1) (fun _ h9 => h9) rfl dX6_putBytes_18 ?_
  refine lv_aload_n hx hb dX6_putBytes_21 rfl (lv_at hl 1 rfl) ?_
  refine va_get (D := (dC, dI)) (ci := 6) (v := .int 2) (C := RX6) (T := TX6) (N := 11) hx hb hts in_X6_putBytes_0_X6 hown hK hP 0 rfl rfl 1 (by decide) (hts _ wd_X6_putBytes_0_0) (fun _ h9 => h9) rfl dX6_putBytes_22 ?_
  refine lv_iload_n hx hb dX6_putBytes_25 rfl (lv_at hl 2 rfl) ?_
  refine lv_iload_n hx hb dX6_putBytes_26 rfl (lv_at hl 0 rfl) ?_
  refine lv_ishr hx hb dX6_putBytes_27 ?_
  refine lv_topi (fun x_15 ex_15 => ?_)
  refine lv_i2b (v := x_15.toInt8.toInt32) hx hb dX6_putBytes_28 rfl ?_
  refine lv_topi (fun x_16 ex_16 => ?_)
  refine va_bast hx hb hK hP hD hS 1 0 rfl rfl (vp_in_iff.mpr ⟨by decide, by decide⟩) dX6_putBytes_29 (fun H locs hP hD hS => ?_)
  have hP : va_P (dC, dI) vwCl [(h0, .inr (6, [.ref tp, .int 2, .int 0, .int (-1), .ref rd, .ref gd, .ref im, .ref rw, .ref gn, .ref ho, .ref sq])), (tp, .inl (cb, 1600, .inl (upd f_11 ((2 : Int32)).toNatClampNeg (vp_nar .byte x_16))))] H := hP
  have hD : va_D A [(h0, .inr (6, [.ref tp, .int 2, .int 0, .int (-1), .ref rd, .ref gd, .ref im, .ref rw, .ref gn, .ref ho, .ref sq])), (tp, .inl (cb, 1600, .inl (upd f_11 ((2 : Int32)).toNatClampNeg (vp_nar .byte x_16))))] := hD
  obtain ⟨f_17, ef_17⟩ : ∃ g, g = upd f_11 ((2 : Int32)).toNatClampNeg (vp_nar .byte x_16) := ⟨_, rfl⟩
  rw [← ef_17] at hP hD
  refine lv_aload_n hx hb dX6_putBytes_30 rfl (lv_at hl 1 rfl) ?_
  refine lv_dup hx hb dX6_putBytes_31 rfl ?_
  refine va_get (D := (dC, dI)) (ci := 6) (v := .int 2) (C := RX6) (T := TX6) (N := 11) hx hb hts in_X6_putBytes_0_X6 hown hK hP 0 rfl rfl 1 (by decide) (hts _ wd_X6_putBytes_0_0) (fun _ h9 => h9) rfl dX6_putBytes_32 ?_
  refine lv_iconst (v := 1) hx hb dX6_putBytes_35 (by decide) ?_
  refine lv_iadd hx hb dX6_putBytes_36 ?_
  refine lv_topi (fun z_18 ez_18 => ?_)
  obtain rfl : z_18 = 3 := ez_18.trans (by decide)
  refine va_put (D := (dC, dI)) (ci := 6) (v := .int 3) (ty := .int) (C := RX6) (T := TX6) (N := 11) hx hb hts in_X6_putBytes_0_X6 tyX6 tyX6_ok nmX6 hown hK hP hD hS 0 rfl rfl 1 (by decide) (hts _ wd_X6_putBytes_0_0) (fun _ h9 => h9) rfl (by decide +kernel) rfl rfl (Nat.le_of_ble_eq_true rfl) dX6_putBytes_37 (fun H locs hP hD hS => ?_)
  have hP : va_P (dC, dI) vwCl [(h0, .inr (6, [.ref tp, .int 3, .int 0, .int (-1), .ref rd, .ref gd, .ref im, .ref rw, .ref gn, .ref ho, .ref sq])), (tp, .inl (cb, 1600, .inl f_17))] H := hP
  have hD : va_D A [(h0, .inr (6, [.ref tp, .int 3, .int 0, .int (-1), .ref rd, .ref gd, .ref im, .ref rw, .ref gn, .ref ho, .ref sq])), (tp, .inl (cb, 1600, .inl f_17))] := hD
  refine lv_iinc (v := 0) (lv' := [(2, .int 0), (0, .ref h0), (1, .int p0)]) hx hb dX6_putBytes_40 hl (k := 0) rfl (by decide) (by decide) rfl (fun ls hl => ?_)
  refine lv_goto (tgt := 3) hx hb dX6_putBytes_43 (by decide) ?_
  refine lv_iload_n hx hb dX6_putBytes_3 rfl (lv_at hl 0 rfl) ?_
  refine lv_if_lt (tgt := 46) hx hb dX6_putBytes_4 (by decide) (fun h => absurd h (by decide)) (fun _ => ?_)
  refine lv_aload_n hx hb dX6_putBytes_7 rfl (lv_at hl 1 rfl) ?_
  refine va_get (D := (dC, dI)) (ci := 6) (v := .int 3) (C := RX6) (T := TX6) (N := 11) hx hb hts in_X6_putBytes_0_X6 hown hK hP 0 rfl rfl 1 (by decide) (hts _ wd_X6_putBytes_0_0) (fun _ h9 => h9) rfl dX6_putBytes_8 ?_
  refine lv_sipush (v := 1600) hx hb dX6_putBytes_11 (by decide) ?_
  refine lv_icmp_ge (tgt := 40) hx hb dX6_putBytes_14 (by decide) (fun h => absurd h (by decide)) (fun _ => ?_)
  refine lv_aload_n hx hb dX6_putBytes_17 rfl (lv_at hl 1 rfl) ?_
  refine va_get (D := (dC, dI)) (ci := 6) (v := .ref tp) (C := RX6) (T := TX6) (N := 11) hx hb hts in_X6_putBytes_0_X6 hown hK hP 0 rfl rfl 0 (by decide) (hts _ wd_X6_putBytes_0_1) (fun _ h9 => h9) rfl dX6_putBytes_18 ?_
  refine lv_aload_n hx hb dX6_putBytes_21 rfl (lv_at hl 1 rfl) ?_
  refine va_get (D := (dC, dI)) (ci := 6) (v := .int 3) (C := RX6) (T := TX6) (N := 11) hx hb hts in_X6_putBytes_0_X6 hown hK hP 0 rfl rfl 1 (by decide) (hts _ wd_X6_putBytes_0_0) (fun _ h9 => h9) rfl dX6_putBytes_22 ?_
  refine lv_iload_n hx hb dX6_putBytes_25 rfl (lv_at hl 2 rfl) ?_
  refine lv_iload_n hx hb dX6_putBytes_26 rfl (lv_at hl 0 rfl) ?_
  refine lv_ishr hx hb dX6_putBytes_27 ?_
  refine lv_topi (fun x_21 ex_21 => ?_)
  refine lv_i2b (v := x_21.toInt8.toInt32) hx hb dX6_putBytes_28 rfl ?_
  refine lv_topi (fun x_22 ex_22 => ?_)
  refine va_bast hx hb hK hP hD hS 1 0 rfl rfl (vp_in_iff.mpr ⟨by decide, by decide⟩) dX6_putBytes_29 (fun H locs hP hD hS => ?_)
  have hP : va_P (dC, dI) vwCl [(h0, .inr (6, [.ref tp, .int 3, .int 0, .int (-1), .ref rd, .ref gd, .ref im, .ref rw, .ref gn, .ref ho, .ref sq])), (tp, .inl (cb, 1600, .inl (upd f_17 ((3 : Int32)).toNatClampNeg (vp_nar .byte x_22))))] H := hP
  have hD : va_D A [(h0, .inr (6, [.ref tp, .int 3, .int 0, .int (-1), .ref rd, .ref gd, .ref im, .ref rw, .ref gn, .ref ho, .ref sq])), (tp, .inl (cb, 1600, .inl (upd f_17 ((3 : Int32)).toNatClampNeg (vp_nar .byte x_22))))] := hD
  obtain ⟨f_23, ef_23⟩ : ∃ g, g = upd f_17 ((3 : Int32)).toNatClampNeg (vp_nar .byte x_22) := ⟨_, rfl⟩
  rw [← ef_23] at hP hD
  refine lv_aload_n hx hb dX6_putBytes_30 rfl (lv_at hl 1 rfl) ?_
  refine lv_dup hx hb dX6_putBytes_31 rfl ?_
  refine va_get (D := (dC, dI)) (ci := 6) (v := .int 3) (C := RX6) (T := TX6) (N := 11) hx hb hts in_X6_putBytes_0_X6 hown hK hP 0 rfl rfl 1 (by decide) (hts _ wd_X6_putBytes_0_0) (fun _ h9 => h9) rfl dX6_putBytes_32 ?_
  refine lv_iconst (v := 1) hx hb dX6_putBytes_35 (by decide) ?_
  refine lv_iadd hx hb dX6_putBytes_36 ?_
  refine lv_topi (fun z_24 ez_24 => ?_)
  obtain rfl : z_24 = 4 := ez_24.trans (by decide)
  refine va_put (D := (dC, dI)) (ci := 6) (v := .int 4) (ty := .int) (C := RX6) (T := TX6) (N := 11) hx hb hts in_X6_putBytes_0_X6 tyX6 tyX6_ok nmX6 hown hK hP hD hS 0 rfl rfl 1 (by decide) (hts _ wd_X6_putBytes_0_0) (fun _ h9 => h9) rfl (by decide +kernel) rfl rfl (Nat.le_of_ble_eq_true rfl) dX6_putBytes_37 (fun H locs hP hD hS => ?_)
  have hP : va_P (dC, dI) vwCl [(h0, .inr (6, [.ref tp, .int 4, .int 0, .int (-1), .ref rd, .ref gd, .ref im, .ref rw, .ref gn, .ref ho, .ref sq])), (tp, .inl (cb, 1600, .inl f_23))] H := hP
  have hD : va_D A [(h0, .inr (6, [.ref tp, .int 4, .int 0, .int (-1), .ref rd, .ref gd, .ref im, .ref rw, .ref gn, .ref ho, .ref sq])), (tp, .inl (cb, 1600, .inl f_23))] := hD
  refine lv_iinc (v := -8) (lv' := [(2, .int (-8)), (0, .ref h0), (1, .int p0)]) hx hb dX6_putBytes_40 hl (k := 0) rfl (by decide) (by decide) rfl (fun ls hl => ?_)
  refine lv_goto (tgt := 3) hx hb dX6_putBytes_43 (by decide) ?_
  refine lv_iload_n hx hb dX6_putBytes_3 rfl (lv_at hl 0 rfl) ?_
  refine lv_if_lt (tgt := 46) hx hb dX6_putBytes_4 (by decide) (fun _ => ?_) (fun h => absurd (by decide) h)
  have hP9 := hP.sub (ws' := [(h0, .inr (6, [.ref tp, .int 4, .int 0, .int (-1), .ref rd, .ref gd, .ref im, .ref rw, .ref gn, .ref ho, .ref sq])), (tp, .inl (cb, 1600, .inl f_23))]) [0, 1] rfl
  have hD9 := hD.sub (ws' := [(h0, .inr (6, [.ref tp, .int 4, .int 0, .int (-1), .ref rd, .ref gd, .ref im, .ref rw, .ref gn, .ref ho, .ref sq])), (tp, .inl (cb, 1600, .inl f_23))]) [0, 1] (by decide) rfl
  have hK9 := hK.sub (tys' := []) [] rfl
  refine W.widen (k := 0) (n := 0) (by omega) (by omega) ?_
  exact W.vret hx hb hr (fun t ht hW => ⟨⟨(f_23), rfl, trivial, by rw [ht]; exact hP9, va_K.moved hW.alike hK9, hD9⟩, hS.F ht⟩) hS.2.2 dX6_putBytes_46

def wz_X6_putBytes_4 : List Cond := .code yX6_putBytes cX6_putBytes 3 none :: ([Cond.fieldLink RX6 13 "HedgeMaze" "tapeSize" "I", Cond.fieldLink RX6 9 "HedgeMaze" "tape" "[B"] ++ wsX60)
theorem wd_X6_putBytes_4_0 : Cond.fieldLink RX6 13 "HedgeMaze" "tapeSize" "I" ∈ wz_X6_putBytes_4 := List.mem_of_getElem? (i := 1) rfl
theorem wd_X6_putBytes_4_1 : Cond.fieldLink RX6 9 "HedgeMaze" "tape" "[B" ∈ wz_X6_putBytes_4 := List.mem_of_getElem? (i := 2) rfl
theorem in_X6_putBytes_4_X6 : ∀ w ∈ wsX60, w ∈ wz_X6_putBytes_4 := fun _ h => List.mem_cons_of_mem _ (List.mem_append_right _ h)
set_option maxHeartbeats 4000000 in
set_option maxRecDepth 100000 in
theorem c_X6_putBytes_4 (l : Launch) (dC : Nat → ClassId) (dI : Nat → Nat → Nat) (sz : Nat) (h0 : Nat) (tp : Nat) (rd : Nat) (gd : Nat) (im : Nat) (rw : Nat) (gn : Nat) (ho : Nat) (sq : Nat) (cb : ClassId) (ft : Nat → Int32) (p0 : Int32)  : Met l yX6_putBytes wz_X6_putBytes_4 ({ frames := 0, cells := 0, slots := 0, locals := 0 }) (va_Pc [.ref h0, .int p0] (fun U => U.heap.size = sz ∧ va_P (dC, dI) vwCl [(h0, .inr (6, [.ref tp, .int 4, .int 0, .int (-1), .ref rd, .ref gd, .ref im, .ref rw, .ref gn, .ref ho, .ref sq])), (tp, .inl (cb, 1600, .inl ft))] U.heap ∧ va_K (dC, dI) vwCl [(cb, .byte)] U ∧ va_D (fun _ => True) [(h0, .inr (6, [.ref tp, .int 4, .int 0, .int (-1), .ref rd, .ref gd, .ref im, .ref rw, .ref gn, .ref ho, .ref sq])), (tp, .inl (cb, 1600, .inl ft))])) (va_Qv (fun (u : (Nat → Int32)) => True) (fun (u : (Nat → Int32)) (t : State) => va_P (dC, dI) vwCl [(h0, .inr (6, [.ref tp, .int 8, .int 0, .int (-1), .ref rd, .ref gd, .ref im, .ref rw, .ref gn, .ref ho, .ref sq])), (tp, .inl (cb, 1600, .inl u))] t.heap ∧ va_K (dC, dI) vwCl [] t ∧ va_D (va_A [(h0, .inr (6, [.ref tp, .int 4, .int 0, .int (-1), .ref rd, .ref gd, .ref im, .ref rw, .ref gn, .ref ho, .ref sq])), (tp, .inl (cb, 1600, .inl ft))] sz) [(h0, .inr (6, [.ref tp, .int 8, .int 0, .int (-1), .ref rd, .ref gd, .ref im, .ref rw, .ref gn, .ref ho, .ref sq])), (tp, .inl (cb, 1600, .inl u))]) (va_A [(h0, .inr (6, [.ref tp, .int 4, .int 0, .int (-1), .ref rd, .ref gd, .ref im, .ref rw, .ref gn, .ref ho, .ref sq])), (tp, .inl (cb, 1600, .inl ft))] sz)) 0 0 (va_A [(h0, .inr (6, [.ref tp, .int 4, .int 0, .int (-1), .ref rd, .ref gd, .ref im, .ref rw, .ref gn, .ref ho, .ref sq])), (tp, .inl (cb, 1600, .inl ft))] sz) := by
  refine Met.ofW (cc := cX6_putBytes) (maxL := 3) (ret := none) (by decide) rfl ?_
  intro p e s m args below meth c s₁ B hml hv
  obtain ⟨rfl, hsz, hP, hK, hD0⟩ := hv
  have hx := B.exec
  have hb := B.bytes
  have hr := B.returns
  have hts := atoms_spec (ws := wz_X6_putBytes_4) B.pre
  have hown : s.vm.findClass RX6 = some m.cls := findClass_of_methodNamed B.named
  have hlocks := B.notSynchronized
  subst hsz
  have hD := hD0.self (sz := s.heap.size)
  generalize hAe : va_A [(h0, .inr (6, [.ref tp, .int 4, .int 0, .int (-1), .ref rd, .ref gd, .ref im, .ref rw, .ref gn, .ref ho, .ref sq])), (tp, .inl (cb, 1600, .inl ft))] s.heap.size = A at hD ⊢
  have hA : ∀ q : Nat, s.heap.size ≤ q → A q := fun q h => by rw [← hAe]; exact Or.inr h
  have hS : va_S A s.heap s.heap [] := va_S.rf
  have hP : va_P (dC, dI) vwCl [(h0, .inr (6, [.ref tp, .int 4, .int 0, .int (-1), .ref rd, .ref gd, .ref im, .ref rw, .ref gn, .ref ho, .ref sq])), (tp, .inl (cb, 1600, .inl ft))] s.heap := hP
  have hl := lv_entry ([.ref h0, .int p0]) (n := 3) (Nat.le_of_ble_eq_true rfl)
  rw [lg_entry_eq]
  generalize (lg_sl ([.ref h0, .int p0]) ++ List.replicate (3 - (lg_sl ([.ref h0, .int p0])).length) Slot.unset).toArray = ls at hl ⊢
  have hl : lv_has ls 3 [(0, .ref h0), (1, .int p0)] := hl
  refine lv_bipush (v := 24) hx hb dX6_putBytes_0 (by decide) ?_
  refine lv_istore_n (lv' := [(2, .int 24), (0, .ref h0), (1, .int p0)]) hx hb dX6_putBytes_2 rfl hl (by decide) rfl (fun ls hl => ?_)
  refine lv_iload_n hx hb dX6_putBytes_3 rfl (lv_at hl 0 rfl) ?_
  refine lv_if_lt (tgt := 46) hx hb dX6_putBytes_4 (by decide) (fun h => absurd h (by decide)) (fun _ => ?_)
  refine lv_aload_n hx hb dX6_putBytes_7 rfl (lv_at hl 1 rfl) ?_
  refine va_get (D := (dC, dI)) (ci := 6) (v := .int 4) (C := RX6) (T := TX6) (N := 11) hx hb hts in_X6_putBytes_4_X6 hown hK hP 0 rfl rfl 1 (by decide) (hts _ wd_X6_putBytes_4_0) (fun _ h9 => h9) rfl dX6_putBytes_8 ?_
  refine lv_sipush (v := 1600) hx hb dX6_putBytes_11 (by decide) ?_
  refine lv_icmp_ge (tgt := 40) hx hb dX6_putBytes_14 (by decide) (fun h => absurd h (by decide)) (fun _ => ?_)
  refine lv_aload_n hx hb dX6_putBytes_17 rfl (lv_at hl 1 rfl) ?_
  refine va_get (D := (dC, dI)) (ci := 6) (v := .ref tp) (C := RX6) (T := TX6) (N := 11) hx hb hts in_X6_putBytes_4_X6 hown hK hP 0 rfl rfl 0 (by decide) (hts _ wd_X6_putBytes_4_1) (fun _ h9 => h9) rfl dX6_putBytes_18 ?_
  refine lv_aload_n hx hb dX6_putBytes_21 rfl (lv_at hl 1 rfl) ?_
  refine va_get (D := (dC, dI)) (ci := 6) (v := .int 4) (C := RX6) (T := TX6) (N := 11) hx hb hts in_X6_putBytes_4_X6 hown hK hP 0 rfl rfl 1 (by decide) (hts _ wd_X6_putBytes_4_0) (fun _ h9 => h9) rfl dX6_putBytes_22 ?_
  refine lv_iload_n hx hb dX6_putBytes_25 rfl (lv_at hl 2 rfl) ?_
  refine lv_iload_n hx hb dX6_putBytes_26 rfl (lv_at hl 0 rfl) ?_
  refine lv_ishr hx hb dX6_putBytes_27 ?_
  refine lv_topi (fun x_3 ex_3 => ?_)
  refine lv_i2b (v := x_3.toInt8.toInt32) hx hb dX6_putBytes_28 rfl ?_
  refine lv_topi (fun x_4 ex_4 => ?_)
  refine va_bast hx hb hK hP hD hS 1 0 rfl rfl (vp_in_iff.mpr ⟨by decide, by decide⟩) dX6_putBytes_29 (fun H locs hP hD hS => ?_)
  have hP : va_P (dC, dI) vwCl [(h0, .inr (6, [.ref tp, .int 4, .int 0, .int (-1), .ref rd, .ref gd, .ref im, .ref rw, .ref gn, .ref ho, .ref sq])), (tp, .inl (cb, 1600, .inl (upd ft ((4 : Int32)).toNatClampNeg (vp_nar .byte x_4))))] H := hP
  have hD : va_D A [(h0, .inr (6, [.ref tp, .int 4, .int 0, .int (-1), .ref rd, .ref gd, .ref im, .ref rw, .ref gn, .ref ho, .ref sq])), (tp, .inl (cb, 1600, .inl (upd ft ((4 : Int32)).toNatClampNeg (vp_nar .byte x_4))))] := hD
  obtain ⟨f_5, ef_5⟩ : ∃ g, g = upd ft ((4 : Int32)).toNatClampNeg (vp_nar .byte x_4) := ⟨_, rfl⟩
  rw [← ef_5] at hP hD
  refine lv_aload_n hx hb dX6_putBytes_30 rfl (lv_at hl 1 rfl) ?_
  refine lv_dup hx hb dX6_putBytes_31 rfl ?_
  refine va_get (D := (dC, dI)) (ci := 6) (v := .int 4) (C := RX6) (T := TX6) (N := 11) hx hb hts in_X6_putBytes_4_X6 hown hK hP 0 rfl rfl 1 (by decide) (hts _ wd_X6_putBytes_4_0) (fun _ h9 => h9) rfl dX6_putBytes_32 ?_
  refine lv_iconst (v := 1) hx hb dX6_putBytes_35 (by decide) ?_
  refine lv_iadd hx hb dX6_putBytes_36 ?_
  refine lv_topi (fun z_6 ez_6 => ?_)
  obtain rfl : z_6 = 5 := ez_6.trans (by decide)
  refine va_put (D := (dC, dI)) (ci := 6) (v := .int 5) (ty := .int) (C := RX6) (T := TX6) (N := 11) hx hb hts in_X6_putBytes_4_X6 tyX6 tyX6_ok nmX6 hown hK hP hD hS 0 rfl rfl 1 (by decide) (hts _ wd_X6_putBytes_4_0) (fun _ h9 => h9) rfl (by decide +kernel) rfl rfl (Nat.le_of_ble_eq_true rfl) dX6_putBytes_37 (fun H locs hP hD hS => ?_)
  have hP : va_P (dC, dI) vwCl [(h0, .inr (6, [.ref tp, .int 5, .int 0, .int (-1), .ref rd, .ref gd, .ref im, .ref rw, .ref gn, .ref ho, .ref sq])), (tp, .inl (cb, 1600, .inl f_5))] H := hP
  have hD : va_D A [(h0, .inr (6, [.ref tp, .int 5, .int 0, .int (-1), .ref rd, .ref gd, .ref im, .ref rw, .ref gn, .ref ho, .ref sq])), (tp, .inl (cb, 1600, .inl f_5))] := hD
  refine lv_iinc (v := 16) (lv' := [(2, .int 16), (0, .ref h0), (1, .int p0)]) hx hb dX6_putBytes_40 hl (k := 0) rfl (by decide) (by decide) rfl (fun ls hl => ?_)
  refine lv_goto (tgt := 3) hx hb dX6_putBytes_43 (by decide) ?_
  refine lv_iload_n hx hb dX6_putBytes_3 rfl (lv_at hl 0 rfl) ?_
  refine lv_if_lt (tgt := 46) hx hb dX6_putBytes_4 (by decide) (fun h => absurd h (by decide)) (fun _ => ?_)
  refine lv_aload_n hx hb dX6_putBytes_7 rfl (lv_at hl 1 rfl) ?_
  refine va_get (D := (dC, dI)) (ci := 6) (v := .int 5) (C := RX6) (T := TX6) (N := 11) hx hb hts in_X6_putBytes_4_X6 hown hK hP 0 rfl rfl 1 (by decide) (hts _ wd_X6_putBytes_4_0) (fun _ h9 => h9) rfl dX6_putBytes_8 ?_
  refine lv_sipush (v := 1600) hx hb dX6_putBytes_11 (by decide) ?_
  refine lv_icmp_ge (tgt := 40) hx hb dX6_putBytes_14 (by decide) (fun h => absurd h (by decide)) (fun _ => ?_)
  refine lv_aload_n hx hb dX6_putBytes_17 rfl (lv_at hl 1 rfl) ?_
  refine va_get (D := (dC, dI)) (ci := 6) (v := .ref tp) (C := RX6) (T := TX6) (N := 11) hx hb hts in_X6_putBytes_4_X6 hown hK hP 0 rfl rfl 0 (by decide) (hts _ wd_X6_putBytes_4_1) (fun _ h9 => h9) rfl dX6_putBytes_18 ?_
  refine lv_aload_n hx hb dX6_putBytes_21 rfl (lv_at hl 1 rfl) ?_
  refine va_get (D := (dC, dI)) (ci := 6) (v := .int 5) (C := RX6) (T := TX6) (N := 11) hx hb hts in_X6_putBytes_4_X6 hown hK hP 0 rfl rfl 1 (by decide) (hts _ wd_X6_putBytes_4_0) (fun _ h9 => h9) rfl dX6_putBytes_22 ?_
  refine lv_iload_n hx hb dX6_putBytes_25 rfl (lv_at hl 2 rfl) ?_
  refine lv_iload_n hx hb dX6_putBytes_26 rfl (lv_at hl 0 rfl) ?_
  refine lv_ishr hx hb dX6_putBytes_27 ?_
  refine lv_topi (fun x_9 ex_9 => ?_)
  refine lv_i2b (v := x_9.toInt8.toInt32) hx hb dX6_putBytes_28 rfl ?_
  refine lv_topi (fun x_10 ex_10 => ?_)
  refine va_bast hx hb hK hP hD hS 1 0 rfl rfl (vp_in_iff.mpr ⟨by decide, by decide⟩) dX6_putBytes_29 (fun H locs hP hD hS => ?_)
  have hP : va_P (dC, dI) vwCl [(h0, .inr (6, [.ref tp, .int 5, .int 0, .int (-1), .ref rd, .ref gd, .ref im, .ref rw, .ref gn, .ref ho, .ref sq])), (tp, .inl (cb, 1600, .inl (upd f_5 ((5 : Int32)).toNatClampNeg (vp_nar .byte x_10))))] H := hP
  have hD : va_D A [(h0, .inr (6, [.ref tp, .int 5, .int 0, .int (-1), .ref rd, .ref gd, .ref im, .ref rw, .ref gn, .ref ho, .ref sq])), (tp, .inl (cb, 1600, .inl (upd f_5 ((5 : Int32)).toNatClampNeg (vp_nar .byte x_10))))] := hD
  obtain ⟨f_11, ef_11⟩ : ∃ g, g = upd f_5 ((5 : Int32)).toNatClampNeg (vp_nar .byte x_10) := ⟨_, rfl⟩
  rw [← ef_11] at hP hD
  refine lv_aload_n hx hb dX6_putBytes_30 rfl (lv_at hl 1 rfl) ?_
  refine lv_dup hx hb dX6_putBytes_31 rfl ?_
  refine va_get (D := (dC, dI)) (ci := 6) (v := .int 5) (C := RX6) (T := TX6) (N := 11) hx hb hts in_X6_putBytes_4_X6 hown hK hP 0 rfl rfl 1 (by decide) (hts _ wd_X6_putBytes_4_0) (fun _ h9 => h9) rfl dX6_putBytes_32 ?_
  refine lv_iconst (v := 1) hx hb dX6_putBytes_35 (by decide) ?_
  refine lv_iadd hx hb dX6_putBytes_36 ?_
  refine lv_topi (fun z_12 ez_12 => ?_)
  obtain rfl : z_12 = 6 := ez_12.trans (by decide)
  refine va_put (D := (dC, dI)) (ci := 6) (v := .int 6) (ty := .int) (C := RX6) (T := TX6) (N := 11) hx hb hts in_X6_putBytes_4_X6 tyX6 tyX6_ok nmX6 hown hK hP hD hS 0 rfl rfl 1 (by decide) (hts _ wd_X6_putBytes_4_0) (fun _ h9 => h9) rfl (by decide +kernel) rfl rfl (Nat.le_of_ble_eq_true rfl) dX6_putBytes_37 (fun H locs hP hD hS => ?_)
  have hP : va_P (dC, dI) vwCl [(h0, .inr (6, [.ref tp, .int 6, .int 0, .int (-1), .ref rd, .ref gd, .ref im, .ref rw, .ref gn, .ref ho, .ref sq])), (tp, .inl (cb, 1600, .inl f_11))] H := hP
  have hD : va_D A [(h0, .inr (6, [.ref tp, .int 6, .int 0, .int (-1), .ref rd, .ref gd, .ref im, .ref rw, .ref gn, .ref ho, .ref sq])), (tp, .inl (cb, 1600, .inl f_11))] := hD
  refine lv_iinc (v := 8) (lv' := [(2, .int 8), (0, .ref h0), (1, .int p0)]) hx hb dX6_putBytes_40 hl (k := 0) rfl (by decide) (by decide) rfl (fun ls hl => ?_)
  refine lv_goto (tgt := 3) hx hb dX6_putBytes_43 (by decide) ?_
  refine lv_iload_n hx hb dX6_putBytes_3 rfl (lv_at hl 0 rfl) ?_
  refine lv_if_lt (tgt := 46) hx hb dX6_putBytes_4 (by decide) (fun h => absurd h (by decide)) (fun _ => ?_)
  refine lv_aload_n hx hb dX6_putBytes_7 rfl (lv_at hl 1 rfl) ?_
  refine va_get (D := (dC, dI)) (ci := 6) (v := .int 6) (C := RX6) (T := TX6) (N := 11) hx hb hts in_X6_putBytes_4_X6 hown hK hP 0 rfl rfl 1 (by decide) (hts _ wd_X6_putBytes_4_0) (fun _ h9 => h9) rfl dX6_putBytes_8 ?_
  refine lv_sipush (v := 1600) hx hb dX6_putBytes_11 (by decide) ?_
  refine lv_icmp_ge (tgt := 40) hx hb dX6_putBytes_14 (by decide) (fun h => absurd h (by decide)) (fun _ => ?_)
  refine lv_aload_n hx hb dX6_putBytes_17 rfl (lv_at hl 1 rfl) ?_
  refine va_get (D := (dC, dI)) (ci := 6) (v := .ref tp) (C := RX6) (T := TX6) (N := 11) hx hb hts in_X6_putBytes_4_X6 hown hK hP 0 rfl rfl 0 (by decide) (hts _ wd_X6_putBytes_4_1) (fun _ h9 => h9) rfl dX6_putBytes_18 ?_
  refine lv_aload_n hx hb dX6_putBytes_21 rfl (lv_at hl 1 rfl) ?_
  refine va_get (D := (dC, dI)) (ci := 6) (v := .int 6) (C := RX6) (T := TX6) (N := 11) hx hb hts in_X6_putBytes_4_X6 hown hK hP 0 rfl rfl 1 (by decide) (hts _ wd_X6_putBytes_4_0) (fun _ h9 => h9) rfl dX6_putBytes_22 ?_
  refine lv_iload_n hx hb dX6_putBytes_25 rfl (lv_at hl 2 rfl) ?_
  refine lv_iload_n hx hb dX6_putBytes_26 rfl (lv_at hl 0 rfl) ?_
  refine lv_ishr hx hb dX6_putBytes_27 ?_
  refine lv_topi (fun x_15 ex_15 => ?_)
  refine lv_i2b (v := x_15.toInt8.toInt32) hx hb dX6_putBytes_28 rfl ?_
  refine lv_topi (fun x_16 ex_16 => ?_)
  refine va_bast hx hb hK hP hD hS 1 0 rfl rfl (vp_in_iff.mpr ⟨by decide, by decide⟩) dX6_putBytes_29 (fun H locs hP hD hS => ?_)
  have hP : va_P (dC, dI) vwCl [(h0, .inr (6, [.ref tp, .int 6, .int 0, .int (-1), .ref rd, .ref gd, .ref im, .ref rw, .ref gn, .ref ho, .ref sq])), (tp, .inl (cb, 1600, .inl (upd f_11 ((6 : Int32)).toNatClampNeg (vp_nar .byte x_16))))] H := hP
  have hD : va_D A [(h0, .inr (6, [.ref tp, .int 6, .int 0, .int (-1), .ref rd, .ref gd, .ref im, .ref rw, .ref gn, .ref ho, .ref sq])), (tp, .inl (cb, 1600, .inl (upd f_11 ((6 : Int32)).toNatClampNeg (vp_nar .byte x_16))))] := hD
  obtain ⟨f_17, ef_17⟩ : ∃ g, g = upd f_11 ((6 : Int32)).toNatClampNeg (vp_nar .byte x_16) := ⟨_, rfl⟩
  rw [← ef_17] at hP hD
  refine lv_aload_n hx hb dX6_putBytes_30 rfl (lv_at hl 1 rfl) ?_
  refine lv_dup hx hb dX6_putBytes_31 rfl ?_
  refine va_get (D := (dC, dI)) (ci := 6) (v := .int 6) (C := RX6) (T := TX6) (N := 11) hx hb hts in_X6_putBytes_4_X6 hown hK hP 0 rfl rfl 1 (by decide) (hts _ wd_X6_putBytes_4_0) (fun _ h9 => h9) rfl dX6_putBytes_32 ?_
  refine lv_iconst (v := 1) hx hb dX6_putBytes_35 (by decide) ?_
  refine lv_iadd hx hb dX6_putBytes_36 ?_
  refine lv_topi (fun z_18 ez_18 => ?_)
  obtain rfl : z_18 = 7 := ez_18.trans (by decide)
  refine va_put (D := (dC, dI)) (ci := 6) (v := .int 7) (ty := .int) (C := RX6) (T := TX6) (N := 11) hx hb hts in_X6_putBytes_4_X6 tyX6 tyX6_ok nmX6 hown hK hP hD hS 0 rfl rfl 1 (by decide) (hts _ wd_X6_putBytes_4_0) (fun _ h9 => h9) rfl (by decide +kernel) rfl rfl (Nat.le_of_ble_eq_true rfl) dX6_putBytes_37 (fun H locs hP hD hS => ?_)
  have hP : va_P (dC, dI) vwCl [(h0, .inr (6, [.ref tp, .int 7, .int 0, .int (-1), .ref rd, .ref gd, .ref im, .ref rw, .ref gn, .ref ho, .ref sq])), (tp, .inl (cb, 1600, .inl f_17))] H := hP
  have hD : va_D A [(h0, .inr (6, [.ref tp, .int 7, .int 0, .int (-1), .ref rd, .ref gd, .ref im, .ref rw, .ref gn, .ref ho, .ref sq])), (tp, .inl (cb, 1600, .inl f_17))] := hD
  refine lv_iinc (v := 0) (lv' := [(2, .int 0), (0, .ref h0), (1, .int p0)]) hx hb dX6_putBytes_40 hl (k := 0) rfl (by decide) (by decide) rfl (fun ls hl => ?_)
  refine lv_goto (tgt := 3) hx hb dX6_putBytes_43 (by decide) ?_
  refine lv_iload_n hx hb dX6_putBytes_3 rfl (lv_at hl 0 rfl) ?_
  refine lv_if_lt (tgt := 46) hx hb dX6_putBytes_4 (by decide) (fun h => absurd h (by decide)) (fun _ => ?_)
  refine lv_aload_n hx hb dX6_putBytes_7 rfl (lv_at hl 1 rfl) ?_
  refine va_get (D := (dC, dI)) (ci := 6) (v := .int 7) (C := RX6) (T := TX6) (N := 11) hx hb hts in_X6_putBytes_4_X6 hown hK hP 0 rfl rfl 1 (by decide) (hts _ wd_X6_putBytes_4_0) (fun _ h9 => h9) rfl dX6_putBytes_8 ?_
  refine lv_sipush (v := 1600) hx hb dX6_putBytes_11 (by decide) ?_
  refine lv_icmp_ge (tgt := 40) hx hb dX6_putBytes_14 (by decide) (fun h => absurd h (by decide)) (fun _ => ?_)
  refine lv_aload_n hx hb dX6_putBytes_17 rfl (lv_at hl 1 rfl) ?_
  refine va_get (D := (dC, dI)) (ci := 6) (v := .ref tp) (C := RX6) (T := TX6) (N := 11) hx hb hts in_X6_putBytes_4_X6 hown hK hP 0 rfl rfl 0 (by decide) (hts _ wd_X6_putBytes_4_1) (fun _ h9 => h9) rfl dX6_putBytes_18 ?_
  refine lv_aload_n hx hb dX6_putBytes_21 rfl (lv_at hl 1 rfl) ?_
  refine va_get (D := (dC, dI)) (ci := 6) (v := .int 7) (C := RX6) (T := TX6) (N := 11) hx hb hts in_X6_putBytes_4_X6 hown hK hP 0 rfl rfl 1 (by decide) (hts _ wd_X6_putBytes_4_0) (fun _ h9 => h9) rfl dX6_putBytes_22 ?_
  refine lv_iload_n hx hb dX6_putBytes_25 rfl (lv_at hl 2 rfl) ?_
  refine lv_iload_n hx hb dX6_putBytes_26 rfl (lv_at hl 0 rfl) ?_
  refine lv_ishr hx hb dX6_putBytes_27 ?_
  refine lv_topi (fun x_21 ex_21 => ?_)
  refine lv_i2b (v := x_21.toInt8.toInt32) hx hb dX6_putBytes_28 rfl ?_
  refine lv_topi (fun x_22 ex_22 => ?_)
  refine va_bast hx hb hK hP hD hS 1 0 rfl rfl (vp_in_iff.mpr ⟨by decide, by decide⟩) dX6_putBytes_29 (fun H locs hP hD hS => ?_)
  have hP : va_P (dC, dI) vwCl [(h0, .inr (6, [.ref tp, .int 7, .int 0, .int (-1), .ref rd, .ref gd, .ref im, .ref rw, .ref gn, .ref ho, .ref sq])), (tp, .inl (cb, 1600, .inl (upd f_17 ((7 : Int32)).toNatClampNeg (vp_nar .byte x_22))))] H := hP
  have hD : va_D A [(h0, .inr (6, [.ref tp, .int 7, .int 0, .int (-1), .ref rd, .ref gd, .ref im, .ref rw, .ref gn, .ref ho, .ref sq])), (tp, .inl (cb, 1600, .inl (upd f_17 ((7 : Int32)).toNatClampNeg (vp_nar .byte x_22))))] := hD
  obtain ⟨f_23, ef_23⟩ : ∃ g, g = upd f_17 ((7 : Int32)).toNatClampNeg (vp_nar .byte x_22) := ⟨_, rfl⟩
  rw [← ef_23] at hP hD
  refine lv_aload_n hx hb dX6_putBytes_30 rfl (lv_at hl 1 rfl) ?_
  refine lv_dup hx hb dX6_putBytes_31 rfl ?_
  refine va_get (D := (dC, dI)) (ci := 6) (v := .int 7) (C := RX6) (T := TX6) (N := 11) hx hb hts in_X6_putBytes_4_X6 hown hK hP 0 rfl rfl 1 (by decide) (hts _ wd_X6_putBytes_4_0) (fun _ h9 => h9) rfl dX6_putBytes_32 ?_
  refine lv_iconst (v := 1) hx hb dX6_putBytes_35 (by decide) ?_
  refine lv_iadd hx hb dX6_putBytes_36 ?_
  refine lv_topi (fun z_24 ez_24 => ?_)
  obtain rfl : z_24 = 8 := ez_24.trans (by decide)
  refine va_put (D := (dC, dI)) (ci := 6) (v := .int 8) (ty := .int) (C := RX6) (T := TX6) (N := 11) hx hb hts in_X6_putBytes_4_X6 tyX6 tyX6_ok nmX6 hown hK hP hD hS 0 rfl rfl 1 (by decide) (hts _ wd_X6_putBytes_4_0) (fun _ h9 => h9) rfl (by decide +kernel) rfl rfl (Nat.le_of_ble_eq_true rfl) dX6_putBytes_37 (fun H locs hP hD hS => ?_)
  have hP : va_P (dC, dI) vwCl [(h0, .inr (6, [.ref tp, .int 8, .int 0, .int (-1), .ref rd, .ref gd, .ref im, .ref rw, .ref gn, .ref ho, .ref sq])), (tp, .inl (cb, 1600, .inl f_23))] H := hP
  have hD : va_D A [(h0, .inr (6, [.ref tp, .int 8, .int 0, .int (-1), .ref rd, .ref gd, .ref im, .ref rw, .ref gn, .ref ho, .ref sq])), (tp, .inl (cb, 1600, .inl f_23))] := hD
  refine lv_iinc (v := -8) (lv' := [(2, .int (-8)), (0, .ref h0), (1, .int p0)]) hx hb dX6_putBytes_40 hl (k := 0) rfl (by decide) (by decide) rfl (fun ls hl => ?_)
  refine lv_goto (tgt := 3) hx hb dX6_putBytes_43 (by decide) ?_
  refine lv_iload_n hx hb dX6_putBytes_3 rfl (lv_at hl 0 rfl) ?_
  refine lv_if_lt (tgt := 46) hx hb dX6_putBytes_4 (by decide) (fun _ => ?_) (fun h => absurd (by decide) h)
  have hP9 := hP.sub (ws' := [(h0, .inr (6, [.ref tp, .int 8, .int 0, .int (-1), .ref rd, .ref gd, .ref im, .ref rw, .ref gn, .ref ho, .ref sq])), (tp, .inl (cb, 1600, .inl f_23))]) [0, 1] rfl
  have hD9 := hD.sub (ws' := [(h0, .inr (6, [.ref tp, .int 8, .int 0, .int (-1), .ref rd, .ref gd, .ref im, .ref rw, .ref gn, .ref ho, .ref sq])), (tp, .inl (cb, 1600, .inl f_23))]) [0, 1] (by decide) rfl
  have hK9 := hK.sub (tys' := []) [] rfl
  refine W.widen (k := 0) (n := 0) (by omega) (by omega) ?_
  exact W.vret hx hb hr (fun t ht hW => ⟨⟨(f_23), rfl, trivial, by rw [ht]; exact hP9, va_K.moved hW.alike hK9, hD9⟩, hS.F ht⟩) hS.2.2 dX6_putBytes_46

def wz_X6_putBytes_8 : List Cond := .code yX6_putBytes cX6_putBytes 3 none :: ([Cond.fieldLink RX6 13 "HedgeMaze" "tapeSize" "I", Cond.fieldLink RX6 9 "HedgeMaze" "tape" "[B"] ++ wsX60)
theorem wd_X6_putBytes_8_0 : Cond.fieldLink RX6 13 "HedgeMaze" "tapeSize" "I" ∈ wz_X6_putBytes_8 := List.mem_of_getElem? (i := 1) rfl
theorem wd_X6_putBytes_8_1 : Cond.fieldLink RX6 9 "HedgeMaze" "tape" "[B" ∈ wz_X6_putBytes_8 := List.mem_of_getElem? (i := 2) rfl
theorem in_X6_putBytes_8_X6 : ∀ w ∈ wsX60, w ∈ wz_X6_putBytes_8 := fun _ h => List.mem_cons_of_mem _ (List.mem_append_right _ h)
set_option maxHeartbeats 4000000 in
set_option maxRecDepth 100000 in
theorem c_X6_putBytes_8 (l : Launch) (dC : Nat → ClassId) (dI : Nat → Nat → Nat) (sz : Nat) (h0 : Nat) (tp : Nat) (rd : Nat) (gd : Nat) (im : Nat) (rw : Nat) (gn : Nat) (ho : Nat) (sq : Nat) (cb : ClassId) (ft : Nat → Int32) (p0 : Int32)  : Met l yX6_putBytes wz_X6_putBytes_8 ({ frames := 0, cells := 0, slots := 0, locals := 0 }) (va_Pc [.ref h0, .int p0] (fun U => U.heap.size = sz ∧ va_P (dC, dI) vwCl [(h0, .inr (6, [.ref tp, .int 8, .int 0, .int (-1), .ref rd, .ref gd, .ref im, .ref rw, .ref gn, .ref ho, .ref sq])), (tp, .inl (cb, 1600, .inl ft))] U.heap ∧ va_K (dC, dI) vwCl [(cb, .byte)] U ∧ va_D (fun _ => True) [(h0, .inr (6, [.ref tp, .int 8, .int 0, .int (-1), .ref rd, .ref gd, .ref im, .ref rw, .ref gn, .ref ho, .ref sq])), (tp, .inl (cb, 1600, .inl ft))])) (va_Qv (fun (u : (Nat → Int32)) => True) (fun (u : (Nat → Int32)) (t : State) => va_P (dC, dI) vwCl [(h0, .inr (6, [.ref tp, .int 12, .int 0, .int (-1), .ref rd, .ref gd, .ref im, .ref rw, .ref gn, .ref ho, .ref sq])), (tp, .inl (cb, 1600, .inl u))] t.heap ∧ va_K (dC, dI) vwCl [] t ∧ va_D (va_A [(h0, .inr (6, [.ref tp, .int 8, .int 0, .int (-1), .ref rd, .ref gd, .ref im, .ref rw, .ref gn, .ref ho, .ref sq])), (tp, .inl (cb, 1600, .inl ft))] sz) [(h0, .inr (6, [.ref tp, .int 12, .int 0, .int (-1), .ref rd, .ref gd, .ref im, .ref rw, .ref gn, .ref ho, .ref sq])), (tp, .inl (cb, 1600, .inl u))]) (va_A [(h0, .inr (6, [.ref tp, .int 8, .int 0, .int (-1), .ref rd, .ref gd, .ref im, .ref rw, .ref gn, .ref ho, .ref sq])), (tp, .inl (cb, 1600, .inl ft))] sz)) 0 0 (va_A [(h0, .inr (6, [.ref tp, .int 8, .int 0, .int (-1), .ref rd, .ref gd, .ref im, .ref rw, .ref gn, .ref ho, .ref sq])), (tp, .inl (cb, 1600, .inl ft))] sz) := by
  refine Met.ofW (cc := cX6_putBytes) (maxL := 3) (ret := none) (by decide) rfl ?_
  intro p e s m args below meth c s₁ B hml hv
  obtain ⟨rfl, hsz, hP, hK, hD0⟩ := hv
  have hx := B.exec
  have hb := B.bytes
  have hr := B.returns
  have hts := atoms_spec (ws := wz_X6_putBytes_8) B.pre
  have hown : s.vm.findClass RX6 = some m.cls := findClass_of_methodNamed B.named
  have hlocks := B.notSynchronized
  subst hsz
  have hD := hD0.self (sz := s.heap.size)
  generalize hAe : va_A [(h0, .inr (6, [.ref tp, .int 8, .int 0, .int (-1), .ref rd, .ref gd, .ref im, .ref rw, .ref gn, .ref ho, .ref sq])), (tp, .inl (cb, 1600, .inl ft))] s.heap.size = A at hD ⊢
  have hA : ∀ q : Nat, s.heap.size ≤ q → A q := fun q h => by rw [← hAe]; exact Or.inr h
  have hS : va_S A s.heap s.heap [] := va_S.rf
  have hP : va_P (dC, dI) vwCl [(h0, .inr (6, [.ref tp, .int 8, .int 0, .int (-1), .ref rd, .ref gd, .ref im, .ref rw, .ref gn, .ref ho, .ref sq])), (tp, .inl (cb, 1600, .inl ft))] s.heap := hP
  have hl := lv_entry ([.ref h0, .int p0]) (n := 3) (Nat.le_of_ble_eq_true rfl)
  rw [lg_entry_eq]
  generalize (lg_sl ([.ref h0, .int p0]) ++ List.replicate (3 - (lg_sl ([.ref h0, .int p0])).length) Slot.unset).toArray = ls at hl ⊢
  have hl : lv_has ls 3 [(0, .ref h0), (1, .int p0)] := hl
  refine lv_bipush (v := 24) hx hb dX6_putBytes_0 (by decide) ?_
  refine lv_istore_n (lv' := [(2, .int 24), (0, .ref h0), (1, .int p0)]) hx hb dX6_putBytes_2 rfl hl (by decide) rfl (fun ls hl => ?_)
  refine lv_iload_n hx hb dX6_putBytes_3 rfl (lv_at hl 0 rfl) ?_
  refine lv_if_lt (tgt := 46) hx hb dX6_putBytes_4 (by decide) (fun h => absurd h (by decide)) (fun _ => ?_)
  refine lv_aload_n hx hb dX6_putBytes_7 rfl (lv_at hl 1 rfl) ?_
  refine va_get (D := (dC, dI)) (ci := 6) (v := .int 8) (C := RX6) (T := TX6) (N := 11) hx hb hts in_X6_putBytes_8_X6 hown hK hP 0 rfl rfl 1 (by decide) (hts _ wd_X6_putBytes_8_0) (fun _ h9 => h9) rfl dX6_putBytes_8 ?_
  refine lv_sipush (v := 1600) hx hb dX6_putBytes_11 (by decide) ?_
  refine lv_icmp_ge (tgt := 40) hx hb dX6_putBytes_14 (by decide) (fun h => absurd h (by decide)) (fun _ => ?_)
  refine lv_aload_n hx hb dX6_putBytes_17 rfl (lv_at hl 1 rfl) ?_
  refine va_get (D := (dC, dI)) (ci := 6) (v := .ref tp) (C := RX6) (T := TX6) (N := 11) hx hb hts in_X6_putBytes_8_X6 hown hK hP 0 rfl rfl 0 (by decide) (hts _ wd_X6_putBytes_8_1) (fun _ h9 => h9) rfl dX6_putBytes_18 ?_
  refine lv_aload_n hx hb dX6_putBytes_21 rfl (lv_at hl 1 rfl) ?_
  refine va_get (D := (dC, dI)) (ci := 6) (v := .int 8) (C := RX6) (T := TX6) (N := 11) hx hb hts in_X6_putBytes_8_X6 hown hK hP 0 rfl rfl 1 (by decide) (hts _ wd_X6_putBytes_8_0) (fun _ h9 => h9) rfl dX6_putBytes_22 ?_
  refine lv_iload_n hx hb dX6_putBytes_25 rfl (lv_at hl 2 rfl) ?_
  refine lv_iload_n hx hb dX6_putBytes_26 rfl (lv_at hl 0 rfl) ?_
  refine lv_ishr hx hb dX6_putBytes_27 ?_
  refine lv_topi (fun x_3 ex_3 => ?_)
  refine lv_i2b (v := x_3.toInt8.toInt32) hx hb dX6_putBytes_28 rfl ?_
  refine lv_topi (fun x_4 ex_4 => ?_)
  refine va_bast hx hb hK hP hD hS 1 0 rfl rfl (vp_in_iff.mpr ⟨by decide, by decide⟩) dX6_putBytes_29 (fun H locs hP hD hS => ?_)
  have hP : va_P (dC, dI) vwCl [(h0, .inr (6, [.ref tp, .int 8, .int 0, .int (-1), .ref rd, .ref gd, .ref im, .ref rw, .ref gn, .ref ho, .ref sq])), (tp, .inl (cb, 1600, .inl (upd ft ((8 : Int32)).toNatClampNeg (vp_nar .byte x_4))))] H := hP
  have hD : va_D A [(h0, .inr (6, [.ref tp, .int 8, .int 0, .int (-1), .ref rd, .ref gd, .ref im, .ref rw, .ref gn, .ref ho, .ref sq])), (tp, .inl (cb, 1600, .inl (upd ft ((8 : Int32)).toNatClampNeg (vp_nar .byte x_4))))] := hD
  obtain ⟨f_5, ef_5⟩ : ∃ g, g = upd ft ((8 : Int32)).toNatClampNeg (vp_nar .byte x_4) := ⟨_, rfl⟩
  rw [← ef_5] at hP hD
  refine lv_aload_n hx hb dX6_putBytes_30 rfl (lv_at hl 1 rfl) ?_
  refine lv_dup hx hb dX6_putBytes_31 rfl ?_
  refine va_get (D := (dC, dI)) (ci := 6) (v := .int 8) (C := RX6) (T := TX6) (N := 11) hx hb hts in_X6_putBytes_8_X6 hown hK hP 0 rfl rfl 1 (by decide) (hts _ wd_X6_putBytes_8_0) (fun _ h9 => h9) rfl dX6_putBytes_32 ?_
  refine lv_iconst (v := 1) hx hb dX6_putBytes_35 (by decide) ?_
  refine lv_iadd hx hb dX6_putBytes_36 ?_
  refine lv_topi (fun z_6 ez_6 => ?_)
  obtain rfl : z_6 = 9 := ez_6.trans (by decide)
  refine va_put (D := (dC, dI)) (ci := 6) (v := .int 9) (ty := .int) (C := RX6) (T := TX6) (N := 11) hx hb hts in_X6_putBytes_8_X6 tyX6 tyX6_ok nmX6 hown hK hP hD hS 0 rfl rfl 1 (by decide) (hts _ wd_X6_putBytes_8_0) (fun _ h9 => h9) rfl (by decide +kernel) rfl rfl (Nat.le_of_ble_eq_true rfl) dX6_putBytes_37 (fun H locs hP hD hS => ?_)
  have hP : va_P (dC, dI) vwCl [(h0, .inr (6, [.ref tp, .int 9, .int 0, .int (-1), .ref rd, .ref gd, .ref im, .ref rw, .ref gn, .ref ho, .ref sq])), (tp, .inl (cb, 1600, .inl f_5))] H := hP
  have hD : va_D A [(h0, .inr (6, [.ref tp, .int 9, .int 0, .int (-1), .ref rd, .ref gd, .ref im, .ref rw, .ref gn, .ref ho, .ref sq])), (tp, .inl (cb, 1600, .inl f_5))] := hD
  refine lv_iinc (v := 16) (lv' := [(2, .int 16), (0, .ref h0), (1, .int p0)]) hx hb dX6_putBytes_40 hl (k := 0) rfl (by decide) (by decide) rfl (fun ls hl => ?_)
  refine lv_goto (tgt := 3) hx hb dX6_putBytes_43 (by decide) ?_
  refine lv_iload_n hx hb dX6_putBytes_3 rfl (lv_at hl 0 rfl) ?_
  refine lv_if_lt (tgt := 46) hx hb dX6_putBytes_4 (by decide) (fun h => absurd h (by decide)) (fun _ => ?_)
  refine lv_aload_n hx hb dX6_putBytes_7 rfl (lv_at hl 1 rfl) ?_
  refine va_get (D := (dC, dI)) (ci := 6) (v := .int 9) (C := RX6) (T := TX6) (N := 11) hx hb hts in_X6_putBytes_8_X6 hown hK hP 0 rfl rfl 1 (by decide) (hts _ wd_X6_putBytes_8_0) (fun _ h9 => h9) rfl dX6_putBytes_8 ?_
  refine lv_sipush (v := 1600) hx hb dX6_putBytes_11 (by decide) ?_
  refine lv_icmp_ge (tgt := 40) hx hb dX6_putBytes_14 (by decide) (fun h => absurd h (by decide)) (fun _ => ?_)
  refine lv_aload_n hx hb dX6_putBytes_17 rfl (lv_at hl 1 rfl) ?_
  refine va_get (D := (dC, dI)) (ci := 6) (v := .ref tp) (C := RX6) (T := TX6) (N := 11) hx hb hts in_X6_putBytes_8_X6 hown hK hP 0 rfl rfl 0 (by decide) (hts _ wd_X6_putBytes_8_1) (fun _ h9 => h9) rfl dX6_putBytes_18 ?_
  refine lv_aload_n hx hb dX6_putBytes_21 rfl (lv_at hl 1 rfl) ?_
  refine va_get (D := (dC, dI)) (ci := 6) (v := .int 9) (C := RX6) (T := TX6) (N := 11) hx hb hts in_X6_putBytes_8_X6 hown hK hP 0 rfl rfl 1 (by decide) (hts _ wd_X6_putBytes_8_0) (fun _ h9 => h9) rfl dX6_putBytes_22 ?_
  refine lv_iload_n hx hb dX6_putBytes_25 rfl (lv_at hl 2 rfl) ?_
  refine lv_iload_n hx hb dX6_putBytes_26 rfl (lv_at hl 0 rfl) ?_
  refine lv_ishr hx hb dX6_putBytes_27 ?_
  refine lv_topi (fun x_9 ex_9 => ?_)
  refine lv_i2b (v := x_9.toInt8.toInt32) hx hb dX6_putBytes_28 rfl ?_
  refine lv_topi (fun x_10 ex_10 => ?_)
  refine va_bast hx hb hK hP hD hS 1 0 rfl rfl (vp_in_iff.mpr ⟨by decide, by decide⟩) dX6_putBytes_29 (fun H locs hP hD hS => ?_)
  have hP : va_P (dC, dI) vwCl [(h0, .inr (6, [.ref tp, .int 9, .int 0, .int (-1), .ref rd, .ref gd, .ref im, .ref rw, .ref gn, .ref ho, .ref sq])), (tp, .inl (cb, 1600, .inl (upd f_5 ((9 : Int32)).toNatClampNeg (vp_nar .byte x_10))))] H := hP
  have hD : va_D A [(h0, .inr (6, [.ref tp, .int 9, .int 0, .int (-1), .ref rd, .ref gd, .ref im, .ref rw, .ref gn, .ref ho, .ref sq])), (tp, .inl (cb, 1600, .inl (upd f_5 ((9 : Int32)).toNatClampNeg (vp_nar .byte x_10))))] := hD
  obtain ⟨f_11, ef_11⟩ : ∃ g, g = upd f_5 ((9 : Int32)).toNatClampNeg (vp_nar .byte x_10) := ⟨_, rfl⟩
  rw [← ef_11] at hP hD
  refine lv_aload_n hx hb dX6_putBytes_30 rfl (lv_at hl 1 rfl) ?_
  refine lv_dup hx hb dX6_putBytes_31 rfl ?_
  refine va_get (D := (dC, dI)) (ci := 6) (v := .int 9) (C := RX6) (T := TX6) (N := 11) hx hb hts in_X6_putBytes_8_X6 hown hK hP 0 rfl rfl 1 (by decide) (hts _ wd_X6_putBytes_8_0) (fun _ h9 => h9) rfl dX6_putBytes_32 ?_
  refine lv_iconst (v := 1) hx hb dX6_putBytes_35 (by decide) ?_
  refine lv_iadd hx hb dX6_putBytes_36 ?_
  refine lv_topi (fun z_12 ez_12 => ?_)
  obtain rfl : z_12 = 10 := ez_12.trans (by decide)
  refine va_put (D := (dC, dI)) (ci := 6) (v := .int 10) (ty := .int) (C := RX6) (T := TX6) (N := 11) hx hb hts in_X6_putBytes_8_X6 tyX6 tyX6_ok nmX6 hown hK hP hD hS 0 rfl rfl 1 (by decide) (hts _ wd_X6_putBytes_8_0) (fun _ h9 => h9) rfl (by decide +kernel) rfl rfl (Nat.le_of_ble_eq_true rfl) dX6_putBytes_37 (fun H locs hP hD hS => ?_)
  have hP : va_P (dC, dI) vwCl [(h0, .inr (6, [.ref tp, .int 10, .int 0, .int (-1), .ref rd, .ref gd, .ref im, .ref rw, .ref gn, .ref ho, .ref sq])), (tp, .inl (cb, 1600, .inl f_11))] H := hP
  have hD : va_D A [(h0, .inr (6, [.ref tp, .int 10, .int 0, .int (-1), .ref rd, .ref gd, .ref im, .ref rw, .ref gn, .ref ho, .ref sq])), (tp, .inl (cb, 1600, .inl f_11))] := hD
  refine lv_iinc (v := 8) (lv' := [(2, .int 8), (0, .ref h0), (1, .int p0)]) hx hb dX6_putBytes_40 hl (k := 0) rfl (by decide) (by decide) rfl (fun ls hl => ?_)
  refine lv_goto (tgt := 3) hx hb dX6_putBytes_43 (by decide) ?_
  refine lv_iload_n hx hb dX6_putBytes_3 rfl (lv_at hl 0 rfl) ?_
  refine lv_if_lt (tgt := 46) hx hb dX6_putBytes_4 (by decide) (fun h => absurd h (by decide)) (fun _ => ?_)
  refine lv_aload_n hx hb dX6_putBytes_7 rfl (lv_at hl 1 rfl) ?_
  refine va_get (D := (dC, dI)) (ci := 6) (v := .int 10) (C := RX6) (T := TX6) (N := 11) hx hb hts in_X6_putBytes_8_X6 hown hK hP 0 rfl rfl 1 (by decide) (hts _ wd_X6_putBytes_8_0) (fun _ h9 => h9) rfl dX6_putBytes_8 ?_
  refine lv_sipush (v := 1600) hx hb dX6_putBytes_11 (by decide) ?_
  refine lv_icmp_ge (tgt := 40) hx hb dX6_putBytes_14 (by decide) (fun h => absurd h (by decide)) (fun _ => ?_)
  refine lv_aload_n hx hb dX6_putBytes_17 rfl (lv_at hl 1 rfl) ?_
  refine va_get (D := (dC, dI)) (ci := 6) (v := .ref tp) (C := RX6) (T := TX6) (N := 11) hx hb hts in_X6_putBytes_8_X6 hown hK hP 0 rfl rfl 0 (by decide) (hts _ wd_X6_putBytes_8_1) (fun _ h9 => h9) rfl dX6_putBytes_18 ?_
  refine lv_aload_n hx hb dX6_putBytes_21 rfl (lv_at hl 1 rfl) ?_
  refine va_get (D := (dC, dI)) (ci := 6) (v := .int 10) (C := RX6) (T := TX6) (N := 11) hx hb hts in_X6_putBytes_8_X6 hown hK hP 0 rfl rfl 1 (by decide) (hts _ wd_X6_putBytes_8_0) (fun _ h9 => h9) rfl dX6_putBytes_22 ?_
  refine lv_iload_n hx hb dX6_putBytes_25 rfl (lv_at hl 2 rfl) ?_
  refine lv_iload_n hx hb dX6_putBytes_26 rfl (lv_at hl 0 rfl) ?_
  refine lv_ishr hx hb dX6_putBytes_27 ?_
  refine lv_topi (fun x_15 ex_15 => ?_)
  refine lv_i2b (v := x_15.toInt8.toInt32) hx hb dX6_putBytes_28 rfl ?_
  refine lv_topi (fun x_16 ex_16 => ?_)
  refine va_bast hx hb hK hP hD hS 1 0 rfl rfl (vp_in_iff.mpr ⟨by decide, by decide⟩) dX6_putBytes_29 (fun H locs hP hD hS => ?_)
  have hP : va_P (dC, dI) vwCl [(h0, .inr (6, [.ref tp, .int 10, .int 0, .int (-1), .ref rd, .ref gd, .ref im, .ref rw, .ref gn, .ref ho, .ref sq])), (tp, .inl (cb, 1600, .inl (upd f_11 ((10 : Int32)).toNatClampNeg (vp_nar .byte x_16))))] H := hP
  have hD : va_D A [(h0, .inr (6, [.ref tp, .int 10, .int 0, .int (-1), .ref rd, .ref gd, .ref im, .ref rw, .ref gn, .ref ho, .ref sq])), (tp, .inl (cb, 1600, .inl (upd f_11 ((10 : Int32)).toNatClampNeg (vp_nar .byte x_16))))] := hD
  obtain ⟨f_17, ef_17⟩ : ∃ g, g = upd f_11 ((10 : Int32)).toNatClampNeg (vp_nar .byte x_16) := ⟨_, rfl⟩
  rw [← ef_17] at hP hD
  refine lv_aload_n hx hb dX6_putBytes_30 rfl (lv_at hl 1 rfl) ?_
  refine lv_dup hx hb dX6_putBytes_31 rfl ?_
  refine va_get (D := (dC, dI)) (ci := 6) (v := .int 10) (C := RX6) (T := TX6) (N := 11) hx hb hts in_X6_putBytes_8_X6 hown hK hP 0 rfl rfl 1 (by decide) (hts _ wd_X6_putBytes_8_0) (fun _ h9 => h9) rfl dX6_putBytes_32 ?_
  refine lv_iconst (v := 1) hx hb dX6_putBytes_35 (by decide) ?_
  refine lv_iadd hx hb dX6_putBytes_36 ?_
  refine lv_topi (fun z_18 ez_18 => ?_)
  obtain rfl : z_18 = 11 := ez_18.trans (by decide)
  refine va_put (D := (dC, dI)) (ci := 6) (v := .int 11) (ty := .int) (C := RX6) (T := TX6) (N := 11) hx hb hts in_X6_putBytes_8_X6 tyX6 tyX6_ok nmX6 hown hK hP hD hS 0 rfl rfl 1 (by decide) (hts _ wd_X6_putBytes_8_0) (fun _ h9 => h9) rfl (by decide +kernel) rfl rfl (Nat.le_of_ble_eq_true rfl) dX6_putBytes_37 (fun H locs hP hD hS => ?_)
  have hP : va_P (dC, dI) vwCl [(h0, .inr (6, [.ref tp, .int 11, .int 0, .int (-1), .ref rd, .ref gd, .ref im, .ref rw, .ref gn, .ref ho, .ref sq])), (tp, .inl (cb, 1600, .inl f_17))] H := hP
  have hD : va_D A [(h0, .inr (6, [.ref tp, .int 11, .int 0, .int (-1), .ref rd, .ref gd, .ref im, .ref rw, .ref gn, .ref ho, .ref sq])), (tp, .inl (cb, 1600, .inl f_17))] := hD
  refine lv_iinc (v := 0) (lv' := [(2, .int 0), (0, .ref h0), (1, .int p0)]) hx hb dX6_putBytes_40 hl (k := 0) rfl (by decide) (by decide) rfl (fun ls hl => ?_)
  refine lv_goto (tgt := 3) hx hb dX6_putBytes_43 (by decide) ?_
  refine lv_iload_n hx hb dX6_putBytes_3 rfl (lv_at hl 0 rfl) ?_
  refine lv_if_lt (tgt := 46) hx hb dX6_putBytes_4 (by decide) (fun h => absurd h (by decide)) (fun _ => ?_)
  refine lv_aload_n hx hb dX6_putBytes_7 rfl (lv_at hl 1 rfl) ?_
  refine va_get (D := (dC, dI)) (ci := 6) (v := .int 11) (C := RX6) (T := TX6) (N := 11) hx hb hts in_X6_putBytes_8_X6 hown hK hP 0 rfl rfl 1 (by decide) (hts _ wd_X6_putBytes_8_0) (fun _ h9 => h9) rfl dX6_putBytes_8 ?_
  refine lv_sipush (v := 1600) hx hb dX6_putBytes_11 (by decide) ?_
  refine lv_icmp_ge (tgt := 40) hx hb dX6_putBytes_14 (by decide) (fun h => absurd h (by decide)) (fun _ => ?_)
  refine lv_aload_n hx hb dX6_putBytes_17 rfl (lv_at hl 1 rfl) ?_
  refine va_get (D := (dC, dI)) (ci := 6) (v := .ref tp) (C := RX6) (T := TX6) (N := 11) hx hb hts in_X6_putBytes_8_X6 hown hK hP 0 rfl rfl 0 (by decide) (hts _ wd_X6_putBytes_8_1) (fun _ h9 => h9) rfl dX6_putBytes_18 ?_
  refine lv_aload_n hx hb dX6_putBytes_21 rfl (lv_at hl 1 rfl) ?_
  refine va_get (D := (dC, dI)) (ci := 6) (v := .int 11) (C := RX6) (T := TX6) (N := 11) hx hb hts in_X6_putBytes_8_X6 hown hK hP 0 rfl rfl 1 (by decide) (hts _ wd_X6_putBytes_8_0) (fun _ h9 => h9) rfl dX6_putBytes_22 ?_
  refine lv_iload_n hx hb dX6_putBytes_25 rfl (lv_at hl 2 rfl) ?_
  refine lv_iload_n hx hb dX6_putBytes_26 rfl (lv_at hl 0 rfl) ?_
  refine lv_ishr hx hb dX6_putBytes_27 ?_
  refine lv_topi (fun x_21 ex_21 => ?_)
  refine lv_i2b (v := x_21.toInt8.toInt32) hx hb dX6_putBytes_28 rfl ?_
  refine lv_topi (fun x_22 ex_22 => ?_)
  refine va_bast hx hb hK hP hD hS 1 0 rfl rfl (vp_in_iff.mpr ⟨by decide, by decide⟩) dX6_putBytes_29 (fun H locs hP hD hS => ?_)
  have hP : va_P (dC, dI) vwCl [(h0, .inr (6, [.ref tp, .int 11, .int 0, .int (-1), .ref rd, .ref gd, .ref im, .ref rw, .ref gn, .ref ho, .ref sq])), (tp, .inl (cb, 1600, .inl (upd f_17 ((11 : Int32)).toNatClampNeg (vp_nar .byte x_22))))] H := hP
  have hD : va_D A [(h0, .inr (6, [.ref tp, .int 11, .int 0, .int (-1), .ref rd, .ref gd, .ref im, .ref rw, .ref gn, .ref ho, .ref sq])), (tp, .inl (cb, 1600, .inl (upd f_17 ((11 : Int32)).toNatClampNeg (vp_nar .byte x_22))))] := hD
  obtain ⟨f_23, ef_23⟩ : ∃ g, g = upd f_17 ((11 : Int32)).toNatClampNeg (vp_nar .byte x_22) := ⟨_, rfl⟩
  rw [← ef_23] at hP hD
  refine lv_aload_n hx hb dX6_putBytes_30 rfl (lv_at hl 1 rfl) ?_
  refine lv_dup hx hb dX6_putBytes_31 rfl ?_
  refine va_get (D := (dC, dI)) (ci := 6) (v := .int 11) (C := RX6) (T := TX6) (N := 11) hx hb hts in_X6_putBytes_8_X6 hown hK hP 0 rfl rfl 1 (by decide) (hts _ wd_X6_putBytes_8_0) (fun _ h9 => h9) rfl dX6_putBytes_32 ?_
  refine lv_iconst (v := 1) hx hb dX6_putBytes_35 (by decide) ?_
  refine lv_iadd hx hb dX6_putBytes_36 ?_
  refine lv_topi (fun z_24 ez_24 => ?_)
  obtain rfl : z_24 = 12 := ez_24.trans (by decide)
  refine va_put (D := (dC, dI)) (ci := 6) (v := .int 12) (ty := .int) (C := RX6) (T := TX6) (N := 11) hx hb hts in_X6_putBytes_8_X6 tyX6 tyX6_ok nmX6 hown hK hP hD hS 0 rfl rfl 1 (by decide) (hts _ wd_X6_putBytes_8_0) (fun _ h9 => h9) rfl (by decide +kernel) rfl rfl (Nat.le_of_ble_eq_true rfl) dX6_putBytes_37 (fun H locs hP hD hS => ?_)
  have hP : va_P (dC, dI) vwCl [(h0, .inr (6, [.ref tp, .int 12, .int 0, .int (-1), .ref rd, .ref gd, .ref im, .ref rw, .ref gn, .ref ho, .ref sq])), (tp, .inl (cb, 1600, .inl f_23))] H := hP
  have hD : va_D A [(h0, .inr (6, [.ref tp, .int 12, .int 0, .int (-1), .ref rd, .ref gd, .ref im, .ref rw, .ref gn, .ref ho, .ref sq])), (tp, .inl (cb, 1600, .inl f_23))] := hD
  refine lv_iinc (v := -8) (lv' := [(2, .int (-8)), (0, .ref h0), (1, .int p0)]) hx hb dX6_putBytes_40 hl (k := 0) rfl (by decide) (by decide) rfl (fun ls hl => ?_)
  refine lv_goto (tgt := 3) hx hb dX6_putBytes_43 (by decide) ?_
  refine lv_iload_n hx hb dX6_putBytes_3 rfl (lv_at hl 0 rfl) ?_
  refine lv_if_lt (tgt := 46) hx hb dX6_putBytes_4 (by decide) (fun _ => ?_) (fun h => absurd (by decide) h)
  have hP9 := hP.sub (ws' := [(h0, .inr (6, [.ref tp, .int 12, .int 0, .int (-1), .ref rd, .ref gd, .ref im, .ref rw, .ref gn, .ref ho, .ref sq])), (tp, .inl (cb, 1600, .inl f_23))]) [0, 1] rfl
  have hD9 := hD.sub (ws' := [(h0, .inr (6, [.ref tp, .int 12, .int 0, .int (-1), .ref rd, .ref gd, .ref im, .ref rw, .ref gn, .ref ho, .ref sq])), (tp, .inl (cb, 1600, .inl f_23))]) [0, 1] (by decide) rfl
  have hK9 := hK.sub (tys' := []) [] rfl
  refine W.widen (k := 0) (n := 0) (by omega) (by omega) ?_
  exact W.vret hx hb hr (fun t ht hW => ⟨⟨(f_23), rfl, trivial, by rw [ht]; exact hP9, va_K.moved hW.alike hK9, hD9⟩, hS.F ht⟩) hS.2.2 dX6_putBytes_46

def wz_X6_putBytes_12 : List Cond := .code yX6_putBytes cX6_putBytes 3 none :: ([Cond.fieldLink RX6 13 "HedgeMaze" "tapeSize" "I", Cond.fieldLink RX6 9 "HedgeMaze" "tape" "[B"] ++ wsX60)
theorem wd_X6_putBytes_12_0 : Cond.fieldLink RX6 13 "HedgeMaze" "tapeSize" "I" ∈ wz_X6_putBytes_12 := List.mem_of_getElem? (i := 1) rfl
theorem wd_X6_putBytes_12_1 : Cond.fieldLink RX6 9 "HedgeMaze" "tape" "[B" ∈ wz_X6_putBytes_12 := List.mem_of_getElem? (i := 2) rfl
theorem in_X6_putBytes_12_X6 : ∀ w ∈ wsX60, w ∈ wz_X6_putBytes_12 := fun _ h => List.mem_cons_of_mem _ (List.mem_append_right _ h)
set_option maxHeartbeats 4000000 in
set_option maxRecDepth 100000 in
theorem c_X6_putBytes_12 (l : Launch) (dC : Nat → ClassId) (dI : Nat → Nat → Nat) (sz : Nat) (h0 : Nat) (tp : Nat) (rd : Nat) (gd : Nat) (im : Nat) (rw : Nat) (gn : Nat) (ho : Nat) (sq : Nat) (cb : ClassId) (ft : Nat → Int32) (p0 : Int32)  : Met l yX6_putBytes wz_X6_putBytes_12 ({ frames := 0, cells := 0, slots := 0, locals := 0 }) (va_Pc [.ref h0, .int p0] (fun U => U.heap.size = sz ∧ va_P (dC, dI) vwCl [(h0, .inr (6, [.ref tp, .int 12, .int 0, .int (-1), .ref rd, .ref gd, .ref im, .ref rw, .ref gn, .ref ho, .ref sq])), (tp, .inl (cb, 1600, .inl ft))] U.heap ∧ va_K (dC, dI) vwCl [(cb, .byte)] U ∧ va_D (fun _ => True) [(h0, .inr (6, [.ref tp, .int 12, .int 0, .int (-1), .ref rd, .ref gd, .ref im, .ref rw, .ref gn, .ref ho, .ref sq])), (tp, .inl (cb, 1600, .inl ft))])) (va_Qv (fun (u : (Nat → Int32)) => True) (fun (u : (Nat → Int32)) (t : State) => va_P (dC, dI) vwCl [(h0, .inr (6, [.ref tp, .int 16, .int 0, .int (-1), .ref rd, .ref gd, .ref im, .ref rw, .ref gn, .ref ho, .ref sq])), (tp, .inl (cb, 1600, .inl u))] t.heap ∧ va_K (dC, dI) vwCl [] t ∧ va_D (va_A [(h0, .inr (6, [.ref tp, .int 12, .int 0, .int (-1), .ref rd, .ref gd, .ref im, .ref rw, .ref gn, .ref ho, .ref sq])), (tp, .inl (cb, 1600, .inl ft))] sz) [(h0, .inr (6, [.ref tp, .int 16, .int 0, .int (-1), .ref rd, .ref gd, .ref im, .ref rw, .ref gn, .ref ho, .ref sq])), (tp, .inl (cb, 1600, .inl u))]) (va_A [(h0, .inr (6, [.ref tp, .int 12, .int 0, .int (-1), .ref rd, .ref gd, .ref im, .ref rw, .ref gn, .ref ho, .ref sq])), (tp, .inl (cb, 1600, .inl ft))] sz)) 0 0 (va_A [(h0, .inr (6, [.ref tp, .int 12, .int 0, .int (-1), .ref rd, .ref gd, .ref im, .ref rw, .ref gn, .ref ho, .ref sq])), (tp, .inl (cb, 1600, .inl ft))] sz) := by
  refine Met.ofW (cc := cX6_putBytes) (maxL := 3) (ret := none) (by decide) rfl ?_
  intro p e s m args below meth c s₁ B hml hv
  obtain ⟨rfl, hsz, hP, hK, hD0⟩ := hv
  have hx := B.exec
  have hb := B.bytes
  have hr := B.returns
  have hts := atoms_spec (ws := wz_X6_putBytes_12) B.pre
  have hown : s.vm.findClass RX6 = some m.cls := findClass_of_methodNamed B.named
  have hlocks := B.notSynchronized
  subst hsz
  have hD := hD0.self (sz := s.heap.size)
  generalize hAe : va_A [(h0, .inr (6, [.ref tp, .int 12, .int 0, .int (-1), .ref rd, .ref gd, .ref im, .ref rw, .ref gn, .ref ho, .ref sq])), (tp, .inl (cb, 1600, .inl ft))] s.heap.size = A at hD ⊢
  have hA : ∀ q : Nat, s.heap.size ≤ q → A q := fun q h => by rw [← hAe]; exact Or.inr h
  have hS : va_S A s.heap s.heap [] := va_S.rf
  have hP : va_P (dC, dI) vwCl [(h0, .inr (6, [.ref tp, .int 12, .int 0, .int (-1), .ref rd, .ref gd, .ref im, .ref rw, .ref gn, .ref ho, .ref sq])), (tp, .inl (cb, 1600, .inl ft))] s.heap := hP
  have hl := lv_entry ([.ref h0, .int p0]) (n := 3) (Nat.le_of_ble_eq_true rfl)
  rw [lg_entry_eq]
  generalize (lg_sl ([.ref h0, .int p0]) ++ List.replicate (3 - (lg_sl ([.ref h0, .int p0])).length) Slot.unset).toArray = ls at hl ⊢
  have hl : lv_has ls 3 [(0, .ref h0), (1, .int p0)] := hl
  refine lv_bipush (v := 24) hx hb dX6_putBytes_0 (by decide) ?_
  refine lv_istore_n (lv' := [(2, .int 24), (0, .ref h0), (1, .int p0)]) hx hb dX6_putBytes_2 rfl hl (by decide) rfl (fun ls hl => ?_)
  refine lv_iload_n hx hb dX6_putBytes_3 rfl (lv_at hl 0 rfl) ?_
  refine lv_if_lt (tgt := 46) hx hb dX6_putBytes_4 (by decide) (fun h => absurd h (by decide)) (fun _ => ?_)
  refine lv_aload_n hx hb dX6_putBytes_7 rfl (lv_at hl 1 rfl) ?_
  refine va_get (D := (dC, dI)) (ci := 6) (v := .int 12) (C := RX6) (T := TX6) (N := 11) hx hb hts in_X6_putBytes_12_X6 hown hK hP 0 rfl rfl 1 (by decide) (hts _ wd_X6_putBytes_12_0) (fun _ h9 => h9) rfl dX6_putBytes_8 ?_
  refine lv_sipush (v := 1600) hx hb dX6_putBytes_11 (by decide) ?_
  refine lv_icmp_ge (tgt := 40) hx hb dX6_putBytes_14 (by decide) (fun h => absurd h (by decide)) (fun _ => ?_)
  refine lv_aload_n hx hb dX6_putBytes_17 rfl (lv_at hl 1 rfl) ?_
  refine va_get (D := (dC, dI)) (ci := 6) (v := .ref tp) (C := RX6) (T := TX6) (N := 11) hx hb hts in_X6_putBytes_12_X6 hown hK hP 0 rfl rfl 0 (by decide) (hts _ wd_X6_putBytes_12_1) (fun _ h9 => h9) rfl dX6_putBytes_18 ?_
  refine lv_aload_n hx hb dX6_putBytes_21 rfl (lv_at hl 1 rfl) ?_
  refine va_get (D := (dC, dI)) (ci := 6) (v := .int 12) (C := RX6) (T := TX6) (N := 11) hx hb hts in_X6_putBytes_12_X6 hown hK hP 0 rfl rfl 1 (by decide) (hts _ wd_X6_putBytes_12_0) (fun _ h9 => h9) rfl dX6_putBytes_22 ?_
  refine lv_iload_n hx hb dX6_putBytes_25 rfl (lv_at hl 2 rfl) ?_
  refine lv_iload_n hx hb dX6_putBytes_26 rfl (lv_at hl 0 rfl) ?_
  refine lv_ishr hx hb dX6_putBytes_27 ?_
  refine lv_topi (fun x_3 ex_3 => ?_)
  refine lv_i2b (v := x_3.toInt8.toInt32) hx hb dX6_putBytes_28 rfl ?_
  refine lv_topi (fun x_4 ex_4 => ?_)
  refine va_bast hx hb hK hP hD hS 1 0 rfl rfl (vp_in_iff.mpr ⟨by decide, by decide⟩) dX6_putBytes_29 (fun H locs hP hD hS => ?_)
  have hP : va_P (dC, dI) vwCl [(h0, .inr (6, [.ref tp, .int 12, .int 0, .int (-1), .ref rd, .ref gd, .ref im, .ref rw, .ref gn, .ref ho, .ref sq])), (tp, .inl (cb, 1600, .inl (upd ft ((12 : Int32)).toNatClampNeg (vp_nar .byte x_4))))] H := hP
  have hD : va_D A [(h0, .inr (6, [.ref tp, .int 12, .int 0, .int (-1), .ref rd, .ref gd, .ref im, .ref rw, .ref gn, .ref ho, .ref sq])), (tp, .inl (cb, 1600, .inl (upd ft ((12 : Int32)).toNatClampNeg (vp_nar .byte x_4))))] := hD
  obtain ⟨f_5, ef_5⟩ : ∃ g, g = upd ft ((12 : Int32)).toNatClampNeg (vp_nar .byte x_4) := ⟨_, rfl⟩
  rw [← ef_5] at hP hD
  refine lv_aload_n hx hb dX6_putBytes_30 rfl (lv_at hl 1 rfl) ?_
  refine lv_dup hx hb dX6_putBytes_31 rfl ?_
  refine va_get (D := (dC, dI)) (ci := 6) (v := .int 12) (C := RX6) (T := TX6) (N := 11) hx hb hts in_X6_putBytes_12_X6 hown hK hP 0 rfl rfl 1 (by decide) (hts _ wd_X6_putBytes_12_0) (fun _ h9 => h9) rfl dX6_putBytes_32 ?_
  refine lv_iconst (v := 1) hx hb dX6_putBytes_35 (by decide) ?_
  refine lv_iadd hx hb dX6_putBytes_36 ?_
  refine lv_topi (fun z_6 ez_6 => ?_)
  obtain rfl : z_6 = 13 := ez_6.trans (by decide)
  refine va_put (D := (dC, dI)) (ci := 6) (v := .int 13) (ty := .int) (C := RX6) (T := TX6) (N := 11) hx hb hts in_X6_putBytes_12_X6 tyX6 tyX6_ok nmX6 hown hK hP hD hS 0 rfl rfl 1 (by decide) (hts _ wd_X6_putBytes_12_0) (fun _ h9 => h9) rfl (by decide +kernel) rfl rfl (Nat.le_of_ble_eq_true rfl) dX6_putBytes_37 (fun H locs hP hD hS => ?_)
  have hP : va_P (dC, dI) vwCl [(h0, .inr (6, [.ref tp, .int 13, .int 0, .int (-1), .ref rd, .ref gd, .ref im, .ref rw, .ref gn, .ref ho, .ref sq])), (tp, .inl (cb, 1600, .inl f_5))] H := hP
  have hD : va_D A [(h0, .inr (6, [.ref tp, .int 13, .int 0, .int (-1), .ref rd, .ref gd, .ref im, .ref rw, .ref gn, .ref ho, .ref sq])), (tp, .inl (cb, 1600, .inl f_5))] := hD
  refine lv_iinc (v := 16) (lv' := [(2, .int 16), (0, .ref h0), (1, .int p0)]) hx hb dX6_putBytes_40 hl (k := 0) rfl (by decide) (by decide) rfl (fun ls hl => ?_)
  refine lv_goto (tgt := 3) hx hb dX6_putBytes_43 (by decide) ?_
  refine lv_iload_n hx hb dX6_putBytes_3 rfl (lv_at hl 0 rfl) ?_
  refine lv_if_lt (tgt := 46) hx hb dX6_putBytes_4 (by decide) (fun h => absurd h (by decide)) (fun _ => ?_)
  refine lv_aload_n hx hb dX6_putBytes_7 rfl (lv_at hl 1 rfl) ?_
  refine va_get (D := (dC, dI)) (ci := 6) (v := .int 13) (C := RX6) (T := TX6) (N := 11) hx hb hts in_X6_putBytes_12_X6 hown hK hP 0 rfl rfl 1 (by decide) (hts _ wd_X6_putBytes_12_0) (fun _ h9 => h9) rfl dX6_putBytes_8 ?_
  refine lv_sipush (v := 1600) hx hb dX6_putBytes_11 (by decide) ?_
  refine lv_icmp_ge (tgt := 40) hx hb dX6_putBytes_14 (by decide) (fun h => absurd h (by decide)) (fun _ => ?_)
  refine lv_aload_n hx hb dX6_putBytes_17 rfl (lv_at hl 1 rfl) ?_
  refine va_get (D := (dC, dI)) (ci := 6) (v := .ref tp) (C := RX6) (T := TX6) (N := 11) hx hb hts in_X6_putBytes_12_X6 hown hK hP 0 rfl rfl 0 (by decide) (hts _ wd_X6_putBytes_12_1) (fun _ h9 => h9) rfl dX6_putBytes_18 ?_
  refine lv_aload_n hx hb dX6_putBytes_21 rfl (lv_at hl 1 rfl) ?_
  refine va_get (D := (dC, dI)) (ci := 6) (v := .int 13) (C := RX6) (T := TX6) (N := 11) hx hb hts in_X6_putBytes_12_X6 hown hK hP 0 rfl rfl 1 (by decide) (hts _ wd_X6_putBytes_12_0) (fun _ h9 => h9) rfl dX6_putBytes_22 ?_
  refine lv_iload_n hx hb dX6_putBytes_25 rfl (lv_at hl 2 rfl) ?_
  refine lv_iload_n hx hb dX6_putBytes_26 rfl (lv_at hl 0 rfl) ?_
  refine lv_ishr hx hb dX6_putBytes_27 ?_
  refine lv_topi (fun x_9 ex_9 => ?_)
  refine lv_i2b (v := x_9.toInt8.toInt32) hx hb dX6_putBytes_28 rfl ?_
  refine lv_topi (fun x_10 ex_10 => ?_)
  refine va_bast hx hb hK hP hD hS 1 0 rfl rfl (vp_in_iff.mpr ⟨by decide, by decide⟩) dX6_putBytes_29 (fun H locs hP hD hS => ?_)
  have hP : va_P (dC, dI) vwCl [(h0, .inr (6, [.ref tp, .int 13, .int 0, .int (-1), .ref rd, .ref gd, .ref im, .ref rw, .ref gn, .ref ho, .ref sq])), (tp, .inl (cb, 1600, .inl (upd f_5 ((13 : Int32)).toNatClampNeg (vp_nar .byte x_10))))] H := hP
  have hD : va_D A [(h0, .inr (6, [.ref tp, .int 13, .int 0, .int (-1), .ref rd, .ref gd, .ref im, .ref rw, .ref gn, .ref ho, .ref sq])), (tp, .inl (cb, 1600, .inl (upd f_5 ((13 : Int32)).toNatClampNeg (vp_nar .byte x_10))))] := hD
  obtain ⟨f_11, ef_11⟩ : ∃ g, g = upd f_5 ((13 : Int32)).toNatClampNeg (vp_nar .byte x_10) := ⟨_, rfl⟩
  rw [← ef_11] at hP hD
  refine lv_aload_n hx hb dX6_putBytes_30 rfl (lv_at hl 1 rfl) ?_
  refine lv_dup hx hb dX6_putBytes_31 rfl ?_
  refine va_get (D := (dC, dI)) (ci := 6) (v := .int 13) (C := RX6) (T := TX6) (N := 11) hx hb hts in_X6_putBytes_12_X6 hown hK hP 0 rfl rfl 1 (by decide) (hts _ wd_X6_putBytes_12_0) (fun _ h9 => h9) rfl dX6_putBytes_32 ?_
  refine lv_iconst (v := 1) hx hb dX6_putBytes_35 (by decide) ?_
  refine lv_iadd hx hb dX6_putBytes_36 ?_
  refine lv_topi (fun z_12 ez_12 => ?_)
  obtain rfl : z_12 = 14 := ez_12.trans (by decide)
  refine va_put (D := (dC, dI)) (ci := 6) (v := .int 14) (ty := .int) (C := RX6) (T := TX6) (N := 11) hx hb hts in_X6_putBytes_12_X6 tyX6 tyX6_ok nmX6 hown hK hP hD hS 0 rfl rfl 1 (by decide) (hts _ wd_X6_putBytes_12_0) (fun _ h9 => h9) rfl (by decide +kernel) rfl rfl (Nat.le_of_ble_eq_true rfl) dX6_putBytes_37 (fun H locs hP hD hS => ?_)
  have hP : va_P (dC, dI) vwCl [(h0, .inr (6, [.ref tp, .int 14, .int 0, .int (-1), .ref rd, .ref gd, .ref im, .ref rw, .ref gn, .ref ho, .ref sq])), (tp, .inl (cb, 1600, .inl f_11))] H := hP
  have hD : va_D A [(h0, .inr (6, [.ref tp, .int 14, .int 0, .int (-1), .ref rd, .ref gd, .ref im, .ref rw, .ref gn, .ref ho, .ref sq])), (tp, .inl (cb, 1600, .inl f_11))] := hD
  refine lv_iinc (v := 8) (lv' := [(2, .int 8), (0, .ref h0), (1, .int p0)]) hx hb dX6_putBytes_40 hl (k := 0) rfl (by decide) (by decide) rfl (fun ls hl => ?_)
  refine lv_goto (tgt := 3) hx hb dX6_putBytes_43 (by decide) ?_
  refine lv_iload_n hx hb dX6_putBytes_3 rfl (lv_at hl 0 rfl) ?_
  refine lv_if_lt (tgt := 46) hx hb dX6_putBytes_4 (by decide) (fun h => absurd h (by decide)) (fun _ => ?_)
  refine lv_aload_n hx hb dX6_putBytes_7 rfl (lv_at hl 1 rfl) ?_
  refine va_get (D := (dC, dI)) (ci := 6) (v := .int 14) (C := RX6) (T := TX6) (N := 11) hx hb hts in_X6_putBytes_12_X6 hown hK hP 0 rfl rfl 1 (by decide) (hts _ wd_X6_putBytes_12_0) (fun _ h9 => h9) rfl dX6_putBytes_8 ?_
  refine lv_sipush (v := 1600) hx hb dX6_putBytes_11 (by decide) ?_
  refine lv_icmp_ge (tgt := 40) hx hb dX6_putBytes_14 (by decide) (fun h => absurd h (by decide)) (fun _ => ?_)
  refine lv_aload_n hx hb dX6_putBytes_17 rfl (lv_at hl 1 rfl) ?_
  refine va_get (D := (dC, dI)) (ci := 6) (v := .ref tp) (C := RX6) (T := TX6) (N := 11) hx hb hts in_X6_putBytes_12_X6 hown hK hP 0 rfl rfl 0 (by decide) (hts _ wd_X6_putBytes_12_1) (fun _ h9 => h9) rfl dX6_putBytes_18 ?_
  refine lv_aload_n hx hb dX6_putBytes_21 rfl (lv_at hl 1 rfl) ?_
  refine va_get (D := (dC, dI)) (ci := 6) (v := .int 14) (C := RX6) (T := TX6) (N := 11) hx hb hts in_X6_putBytes_12_X6 hown hK hP 0 rfl rfl 1 (by decide) (hts _ wd_X6_putBytes_12_0) (fun _ h9 => h9) rfl dX6_putBytes_22 ?_
  refine lv_iload_n hx hb dX6_putBytes_25 rfl (lv_at hl 2 rfl) ?_
  refine lv_iload_n hx hb dX6_putBytes_26 rfl (lv_at hl 0 rfl) ?_
  refine lv_ishr hx hb dX6_putBytes_27 ?_
  refine lv_topi (fun x_15 ex_15 => ?_)
  refine lv_i2b (v := x_15.toInt8.toInt32) hx hb dX6_putBytes_28 rfl ?_
  refine lv_topi (fun x_16 ex_16 => ?_)
  refine va_bast hx hb hK hP hD hS 1 0 rfl rfl (vp_in_iff.mpr ⟨by decide, by decide⟩) dX6_putBytes_29 (fun H locs hP hD hS => ?_)
  have hP : va_P (dC, dI) vwCl [(h0, .inr (6, [.ref tp, .int 14, .int 0, .int (-1), .ref rd, .ref gd, .ref im, .ref rw, .ref gn, .ref ho, .ref sq])), (tp, .inl (cb, 1600, .inl (upd f_11 ((14 : Int32)).toNatClampNeg (vp_nar .byte x_16))))] H := hP
  have hD : va_D A [(h0, .inr (6, [.ref tp, .int 14, .int 0, .int (-1), .ref rd, .ref gd, .ref im, .ref rw, .ref gn, .ref ho, .ref sq])), (tp, .inl (cb, 1600, .inl (upd f_11 ((14 : Int32)).toNatClampNeg (vp_nar .byte x_16))))] := hD
  obtain ⟨f_17, ef_17⟩ : ∃ g, g = upd f_11 ((14 : Int32)).toNatClampNeg (vp_nar .byte x_16) := ⟨_, rfl⟩
  rw [← ef_17] at hP hD
  refine lv_aload_n hx hb dX6_putBytes_30 rfl (lv_at hl 1 rfl) ?_
  refine lv_dup hx hb dX6_putBytes_31 rfl ?_
  refine va_get (D := (dC, dI)) (ci := 6) (v := .int 14) (C := RX6) (T := TX6) (N := 11) hx hb hts in_X6_putBytes_12_X6 hown hK hP 0 rfl rfl 1 (by decide) (hts _ wd_X6_putBytes_12_0) (fun _ h9 => h9) rfl dX6_putBytes_32 ?_
  refine lv_iconst (v := 1) hx hb dX6_putBytes_35 (by decide) ?_
  refine lv_iadd hx hb dX6_putBytes_36 ?_
  refine lv_topi (fun z_18 ez_18 => ?_)
  obtain rfl : z_18 = 15 := ez_18.trans (by decide)
  refine va_put (D := (dC, dI)) (ci := 6) (v := .int 15) (ty := .int) (C := RX6) (T := TX6) (N := 11) hx hb hts in_X6_putBytes_12_X6 tyX6 tyX6_ok nmX6 hown hK hP hD hS 0 rfl rfl 1 (by decide) (hts _ wd_X6_putBytes_12_0) (fun _ h9 => h9) rfl (by decide +kernel) rfl rfl (Nat.le_of_ble_eq_true rfl) dX6_putBytes_37 (fun H locs hP hD hS => ?_)
  have hP : va_P (dC, dI) vwCl [(h0, .inr (6, [.ref tp, .int 15, .int 0, .int (-1), .ref rd, .ref gd, .ref im, .ref rw, .ref gn, .ref ho, .ref sq])), (tp, .inl (cb, 1600, .inl f_17))] H := hP
  have hD : va_D A [(h0, .inr (6, [.ref tp, .int 15, .int 0, .int (-1), .ref rd, .ref gd, .ref im, .ref rw, .ref gn, .ref ho, .ref sq])), (tp, .inl (cb, 1600, .inl f_17))] := hD
  refine lv_iinc (v := 0) (lv' := [(2, .int 0), (0, .ref h0), (1, .int p0)]) hx hb dX6_putBytes_40 hl (k := 0) rfl (by decide) (by decide) rfl (fun ls hl => ?_)
  refine lv_goto (tgt := 3) hx hb dX6_putBytes_43 (by decide) ?_
  refine lv_iload_n hx hb dX6_putBytes_3 rfl (lv_at hl 0 rfl) ?_
  refine lv_if_lt (tgt := 46) hx hb dX6_putBytes_4 (by decide) (fun h => absurd h (by decide)) (fun _ => ?_)
  refine lv_aload_n hx hb dX6_putBytes_7 rfl (lv_at hl 1 rfl) ?_
  refine va_get (D := (dC, dI)) (ci := 6) (v := .int 15) (C := RX6) (T := TX6) (N := 11) hx hb hts in_X6_putBytes_12_X6 hown hK hP 0 rfl rfl 1 (by decide) (hts _ wd_X6_putBytes_12_0) (fun _ h9 => h9) rfl dX6_putBytes_8 ?_
  refine lv_sipush (v := 1600) hx hb dX6_putBytes_11 (by decide) ?_
  refine lv_icmp_ge (tgt := 40) hx hb dX6_putBytes_14 (by decide) (fun h => absurd h (by decide)) (fun _ => ?_)
  refine lv_aload_n hx hb dX6_putBytes_17 rfl (lv_at hl 1 rfl) ?_
  refine va_get (D := (dC, dI)) (ci := 6) (v := .ref tp) (C := RX6) (T := TX6) (N := 11) hx hb hts in_X6_putBytes_12_X6 hown hK hP 0 rfl rfl 0 (by decide) (hts _ wd_X6_putBytes_12_1) (fun _ h9 => h9) rfl dX6_putBytes_18 ?_
  refine lv_aload_n hx hb dX6_putBytes_21 rfl (lv_at hl 1 rfl) ?_
  refine va_get (D := (dC, dI)) (ci := 6) (v := .int 15) (C := RX6) (T := TX6) (N := 11) hx hb hts in_X6_putBytes_12_X6 hown hK hP 0 rfl rfl 1 (by decide) (hts _ wd_X6_putBytes_12_0) (fun _ h9 => h9) rfl dX6_putBytes_22 ?_
  refine lv_iload_n hx hb dX6_putBytes_25 rfl (lv_at hl 2 rfl) ?_
  refine lv_iload_n hx hb dX6_putBytes_26 rfl (lv_at hl 0 rfl) ?_
  refine lv_ishr hx hb dX6_putBytes_27 ?_
  refine lv_topi (fun x_21 ex_21 => ?_)
  refine lv_i2b (v := x_21.toInt8.toInt32) hx hb dX6_putBytes_28 rfl ?_
  refine lv_topi (fun x_22 ex_22 => ?_)
  refine va_bast hx hb hK hP hD hS 1 0 rfl rfl (vp_in_iff.mpr ⟨by decide, by decide⟩) dX6_putBytes_29 (fun H locs hP hD hS => ?_)
  have hP : va_P (dC, dI) vwCl [(h0, .inr (6, [.ref tp, .int 15, .int 0, .int (-1), .ref rd, .ref gd, .ref im, .ref rw, .ref gn, .ref ho, .ref sq])), (tp, .inl (cb, 1600, .inl (upd f_17 ((15 : Int32)).toNatClampNeg (vp_nar .byte x_22))))] H := hP
  have hD : va_D A [(h0, .inr (6, [.ref tp, .int 15, .int 0, .int (-1), .ref rd, .ref gd, .ref im, .ref rw, .ref gn, .ref ho, .ref sq])), (tp, .inl (cb, 1600, .inl (upd f_17 ((15 : Int32)).toNatClampNeg (vp_nar .byte x_22))))] := hD
  obtain ⟨f_23, ef_23⟩ : ∃ g, g = upd f_17 ((15 : Int32)).toNatClampNeg (vp_nar .byte x_22) := ⟨_, rfl⟩
  rw [← ef_23] at hP hD
  refine lv_aload_n hx hb dX6_putBytes_30 rfl (lv_at hl 1 rfl) ?_
  refine lv_dup hx hb dX6_putBytes_31 rfl ?_
  refine va_get (D := (dC, dI)) (ci := 6) (v := .int 15) (C := RX6) (T := TX6) (N := 11) hx hb hts in_X6_putBytes_12_X6 hown hK hP 0 rfl rfl 1 (by decide) (hts _ wd_X6_putBytes_12_0) (fun _ h9 => h9) rfl dX6_putBytes_32 ?_
  refine lv_iconst (v := 1) hx hb dX6_putBytes_35 (by decide) ?_
  refine lv_iadd hx hb dX6_putBytes_36 ?_
  refine lv_topi (fun z_24 ez_24 => ?_)
  obtain rfl : z_24 = 16 := ez_24.trans (by decide)
  refine va_put (D := (dC, dI)) (ci := 6) (v := .int 16) (ty := .int) (C := RX6) (T := TX6) (N := 11) hx hb hts in_X6_putBytes_12_X6 tyX6 tyX6_ok nmX6 hown hK hP hD hS 0 rfl rfl 1 (by decide) (hts _ wd_X6_putBytes_12_0) (fun _ h9 => h9) rfl (by decide +kernel) rfl rfl (Nat.le_of_ble_eq_true rfl) dX6_putBytes_37 (fun H locs hP hD hS => ?_)
  have hP : va_P (dC, dI) vwCl [(h0, .inr (6, [.ref tp, .int 16, .int 0, .int (-1), .ref rd, .ref gd, .ref im, .ref rw, .ref gn, .ref ho, .ref sq])), (tp, .inl (cb, 1600, .inl f_23))] H := hP
  have hD : va_D A [(h0, .inr (6, [.ref tp, .int 16, .int 0, .int (-1), .ref rd, .ref gd, .ref im, .ref rw, .ref gn, .ref ho, .ref sq])), (tp, .inl (cb, 1600, .inl f_23))] := hD
  refine lv_iinc (v := -8) (lv' := [(2, .int (-8)), (0, .ref h0), (1, .int p0)]) hx hb dX6_putBytes_40 hl (k := 0) rfl (by decide) (by decide) rfl (fun ls hl => ?_)
  refine lv_goto (tgt := 3) hx hb dX6_putBytes_43 (by decide) ?_
  refine lv_iload_n hx hb dX6_putBytes_3 rfl (lv_at hl 0 rfl) ?_
  refine lv_if_lt (tgt := 46) hx hb dX6_putBytes_4 (by decide) (fun _ => ?_) (fun h => absurd (by decide) h)
  have hP9 := hP.sub (ws' := [(h0, .inr (6, [.ref tp, .int 16, .int 0, .int (-1), .ref rd, .ref gd, .ref im, .ref rw, .ref gn, .ref ho, .ref sq])), (tp, .inl (cb, 1600, .inl f_23))]) [0, 1] rfl
  have hD9 := hD.sub (ws' := [(h0, .inr (6, [.ref tp, .int 16, .int 0, .int (-1), .ref rd, .ref gd, .ref im, .ref rw, .ref gn, .ref ho, .ref sq])), (tp, .inl (cb, 1600, .inl f_23))]) [0, 1] (by decide) rfl
  have hK9 := hK.sub (tys' := []) [] rfl
  refine W.widen (k := 0) (n := 0) (by omega) (by omega) ?_
  exact W.vret hx hb hr (fun t ht hW => ⟨⟨(f_23), rfl, trivial, by rw [ht]; exact hP9, va_K.moved hW.alike hK9, hD9⟩, hS.F ht⟩) hS.2.2 dX6_putBytes_46

def wz_X6_putBytes_16 : List Cond := .code yX6_putBytes cX6_putBytes 3 none :: ([Cond.fieldLink RX6 13 "HedgeMaze" "tapeSize" "I", Cond.fieldLink RX6 9 "HedgeMaze" "tape" "[B"] ++ wsX60)
theorem wd_X6_putBytes_16_0 : Cond.fieldLink RX6 13 "HedgeMaze" "tapeSize" "I" ∈ wz_X6_putBytes_16 := List.mem_of_getElem? (i := 1) rfl
theorem wd_X6_putBytes_16_1 : Cond.fieldLink RX6 9 "HedgeMaze" "tape" "[B" ∈ wz_X6_putBytes_16 := List.mem_of_getElem? (i := 2) rfl
theorem in_X6_putBytes_16_X6 : ∀ w ∈ wsX60, w ∈ wz_X6_putBytes_16 := fun _ h => List.mem_cons_of_mem _ (List.mem_append_right _ h)
set_option maxHeartbeats 4000000 in
set_option maxRecDepth 100000 in
theorem c_X6_putBytes_16 (l : Launch) (dC : Nat → ClassId) (dI : Nat → Nat → Nat) (sz : Nat) (h0 : Nat) (tp : Nat) (rd : Nat) (gd : Nat) (im : Nat) (rw : Nat) (gn : Nat) (ho : Nat) (sq : Nat) (cb : ClassId) (ft : Nat → Int32) (p0 : Int32)  : Met l yX6_putBytes wz_X6_putBytes_16 ({ frames := 0, cells := 0, slots := 0, locals := 0 }) (va_Pc [.ref h0, .int p0] (fun U => U.heap.size = sz ∧ va_P (dC, dI) vwCl [(h0, .inr (6, [.ref tp, .int 16, .int 0, .int (-1), .ref rd, .ref gd, .ref im, .ref rw, .ref gn, .ref ho, .ref sq])), (tp, .inl (cb, 1600, .inl ft))] U.heap ∧ va_K (dC, dI) vwCl [(cb, .byte)] U ∧ va_D (fun _ => True) [(h0, .inr (6, [.ref tp, .int 16, .int 0, .int (-1), .ref rd, .ref gd, .ref im, .ref rw, .ref gn, .ref ho, .ref sq])), (tp, .inl (cb, 1600, .inl ft))])) (va_Qv (fun (u : (Nat → Int32)) => True) (fun (u : (Nat → Int32)) (t : State) => va_P (dC, dI) vwCl [(h0, .inr (6, [.ref tp, .int 20, .int 0, .int (-1), .ref rd, .ref gd, .ref im, .ref rw, .ref gn, .ref ho, .ref sq])), (tp, .inl (cb, 1600, .inl u))] t.heap ∧ va_K (dC, dI) vwCl [] t ∧ va_D (va_A [(h0, .inr (6, [.ref tp, .int 16, .int 0, .int (-1), .ref rd, .ref gd, .ref im, .ref rw, .ref gn, .ref ho, .ref sq])), (tp, .inl (cb, 1600, .inl ft))] sz) [(h0, .inr (6, [.ref tp, .int 20, .int 0, .int (-1), .ref rd, .ref gd, .ref im, .ref rw, .ref gn, .ref ho, .ref sq])), (tp, .inl (cb, 1600, .inl u))]) (va_A [(h0, .inr (6, [.ref tp, .int 16, .int 0, .int (-1), .ref rd, .ref gd, .ref im, .ref rw, .ref gn, .ref ho, .ref sq])), (tp, .inl (cb, 1600, .inl ft))] sz)) 0 0 (va_A [(h0, .inr (6, [.ref tp, .int 16, .int 0, .int (-1), .ref rd, .ref gd, .ref im, .ref rw, .ref gn, .ref ho, .ref sq])), (tp, .inl (cb, 1600, .inl ft))] sz) := by
  refine Met.ofW (cc := cX6_putBytes) (maxL := 3) (ret := none) (by decide) rfl ?_
  intro p e s m args below meth c s₁ B hml hv
  obtain ⟨rfl, hsz, hP, hK, hD0⟩ := hv
  have hx := B.exec
  have hb := B.bytes
  have hr := B.returns
  have hts := atoms_spec (ws := wz_X6_putBytes_16) B.pre
  have hown : s.vm.findClass RX6 = some m.cls := findClass_of_methodNamed B.named
  have hlocks := B.notSynchronized
  subst hsz
  have hD := hD0.self (sz := s.heap.size)
  generalize hAe : va_A [(h0, .inr (6, [.ref tp, .int 16, .int 0, .int (-1), .ref rd, .ref gd, .ref im, .ref rw, .ref gn, .ref ho, .ref sq])), (tp, .inl (cb, 1600, .inl ft))] s.heap.size = A at hD ⊢
  have hA : ∀ q : Nat, s.heap.size ≤ q → A q := fun q h => by rw [← hAe]; exact Or.inr h
  have hS : va_S A s.heap s.heap [] := va_S.rf
  have hP : va_P (dC, dI) vwCl [(h0, .inr (6, [.ref tp, .int 16, .int 0, .int (-1), .ref rd, .ref gd, .ref im, .ref rw, .ref gn, .ref ho, .ref sq])), (tp, .inl (cb, 1600, .inl ft))] s.heap := hP
  have hl := lv_entry ([.ref h0, .int p0]) (n := 3) (Nat.le_of_ble_eq_true rfl)
  rw [lg_entry_eq]
  generalize (lg_sl ([.ref h0, .int p0]) ++ List.replicate (3 - (lg_sl ([.ref h0, .int p0])).length) Slot.unset).toArray = ls at hl ⊢
  have hl : lv_has ls 3 [(0, .ref h0), (1, .int p0)] := hl
  refine lv_bipush (v := 24) hx hb dX6_putBytes_0 (by decide) ?_
  refine lv_istore_n (lv' := [(2, .int 24), (0, .ref h0), (1, .int p0)]) hx hb dX6_putBytes_2 rfl hl (by decide) rfl (fun ls hl => ?_)
  refine lv_iload_n hx hb dX6_putBytes_3 rfl (lv_at hl 0 rfl) ?_
  refine lv_if_lt (tgt := 46) hx hb dX6_putBytes_4 (by decide) (fun h => absurd h (by decide)) (fun _ => ?_)
  refine lv_aload_n hx hb dX6_putBytes_7 rfl (lv_at hl 1 rfl) ?_
  refine va_get (D := (dC, dI)) (ci := 6) (v := .int 16) (C := RX6) (T := TX6) (N := 11) hx hb hts in_X6_putBytes_16_X6 hown hK hP 0 rfl rfl 1 (by decide) (hts _ wd_X6_putBytes_16_0) (fun _ h9 => h9) rfl dX6_putBytes_8 ?_
  refine lv_sipush (v := 1600) hx hb dX6_putBytes_11 (by decide) ?_
  refine lv_icmp_ge (tgt := 40) hx hb dX6_putBytes_14 (by decide) (fun h => absurd h (by decide)) (fun _ => ?_)
  refine lv_aload_n hx hb dX6_putBytes_17 rfl (lv_at hl 1 rfl) ?_
  refine va_get (D := (dC, dI)) (ci := 6) (v := .ref tp) (C := RX6) (T := TX6) (N := 11) hx hb hts in_X6_putBytes_16_X6 hown hK hP 0 rfl rfl 0 (by decide) (hts _ wd_X6_putBytes_16_1) (fun _ h9 => h9) rfl dX6_putBytes_18 ?_
  refine lv_aload_n hx hb dX6_putBytes_21 rfl (lv_at hl 1 rfl) ?_
  refine va_get (D := (dC, dI)) (ci := 6) (v := .int 16) (C := RX6) (T := TX6) (N := 11) hx hb hts in_X6_putBytes_16_X6 hown hK hP 0 rfl rfl 1 (by decide) (hts _ wd_X6_putBytes_16_0) (fun _ h9 => h9) rfl dX6_putBytes_22 ?_
  refine lv_iload_n hx hb dX6_putBytes_25 rfl (lv_at hl 2 rfl) ?_
  refine lv_iload_n hx hb dX6_putBytes_26 rfl (lv_at hl 0 rfl) ?_
  refine lv_ishr hx hb dX6_putBytes_27 ?_
  refine lv_topi (fun x_3 ex_3 => ?_)
  refine lv_i2b (v := x_3.toInt8.toInt32) hx hb dX6_putBytes_28 rfl ?_
  refine lv_topi (fun x_4 ex_4 => ?_)
  refine va_bast hx hb hK hP hD hS 1 0 rfl rfl (vp_in_iff.mpr ⟨by decide, by decide⟩) dX6_putBytes_29 (fun H locs hP hD hS => ?_)
  have hP : va_P (dC, dI) vwCl [(h0, .inr (6, [.ref tp, .int 16, .int 0, .int (-1), .ref rd, .ref gd, .ref im, .ref rw, .ref gn, .ref ho, .ref sq])), (tp, .inl (cb, 1600, .inl (upd ft ((16 : Int32)).toNatClampNeg (vp_nar .byte x_4))))] H := hP
  have hD : va_D A [(h0, .inr (6, [.ref tp, .int 16, .int 0, .int (-1), .ref rd, .ref gd, .ref im, .ref rw, .ref gn, .ref ho, .ref sq])), (tp, .inl (cb, 1600, .inl (upd ft ((16 : Int32)).toNatClampNeg (vp_nar .byte x_4))))] := hD
  obtain ⟨f_5, ef_5⟩ : ∃ g, g = upd ft ((16 : Int32)).toNatClampNeg (vp_nar .byte x_4) := ⟨_, rfl⟩
  rw [← ef_5] at hP hD
  refine lv_aload_n hx hb dX6_putBytes_30 rfl (lv_at hl 1 rfl) ?_
  refine lv_dup hx hb dX6_putBytes_31 rfl ?_
  refine va_get (D := (dC, dI)) (ci := 6) (v := .int 16) (C := RX6) (T := TX6) (N := 11) hx hb hts in_X6_putBytes_16_X6 hown hK hP 0 rfl rfl 1 (by decide) (hts _ wd_X6_putBytes_16_0) (fun _ h9 => h9) rfl dX6_putBytes_32 ?_
  refine lv_iconst (v := 1) hx hb dX6_putBytes_35 (by decide) ?_
  refine lv_iadd hx hb dX6_putBytes_36 ?_
  refine lv_topi (fun z_6 ez_6 => ?_)
  obtain rfl : z_6 = 17 := ez_6.trans (by decide)
  refine va_put (D := (dC, dI)) (ci := 6) (v := .int 17) (ty := .int) (C := RX6) (T := TX6) (N := 11) hx hb hts in_X6_putBytes_16_X6 tyX6 tyX6_ok nmX6 hown hK hP hD hS 0 rfl rfl 1 (by decide) (hts _ wd_X6_putBytes_16_0) (fun _ h9 => h9) rfl (by decide +kernel) rfl rfl (Nat.le_of_ble_eq_true rfl) dX6_putBytes_37 (fun H locs hP hD hS => ?_)
  have hP : va_P (dC, dI) vwCl [(h0, .inr (6, [.ref tp, .int 17, .int 0, .int (-1), .ref rd, .ref gd, .ref im, .ref rw, .ref gn, .ref ho, .ref sq])), (tp, .inl (cb, 1600, .inl f_5))] H := hP
  have hD : va_D A [(h0, .inr (6, [.ref tp, .int 17, .int 0, .int (-1), .ref rd, .ref gd, .ref im, .ref rw, .ref gn, .ref ho, .ref sq])), (tp, .inl (cb, 1600, .inl f_5))] := hD
  refine lv_iinc (v := 16) (lv' := [(2, .int 16), (0, .ref h0), (1, .int p0)]) hx hb dX6_putBytes_40 hl (k := 0) rfl (by decide) (by decide) rfl (fun ls hl => ?_)
  refine lv_goto (tgt := 3) hx hb dX6_putBytes_43 (by decide) ?_
  refine lv_iload_n hx hb dX6_putBytes_3 rfl (lv_at hl 0 rfl) ?_
  refine lv_if_lt (tgt := 46) hx hb dX6_putBytes_4 (by decide) (fun h => absurd h (by decide)) (fun _ => ?_)
  refine lv_aload_n hx hb dX6_putBytes_7 rfl (lv_at hl 1 rfl) ?_
  refine va_get (D := (dC, dI)) (ci := 6) (v := .int 17) (C := RX6) (T := TX6) (N := 11) hx hb hts in_X6_putBytes_16_X6 hown hK hP 0 rfl rfl 1 (by decide) (hts _ wd_X6_putBytes_16_0) (fun _ h9 => h9) rfl dX6_putBytes_8 ?_
  refine lv_sipush (v := 1600) hx hb dX6_putBytes_11 (by decide) ?_
  refine lv_icmp_ge (tgt := 40) hx hb dX6_putBytes_14 (by decide) (fun h => absurd h (by decide)) (fun _ => ?_)
  refine lv_aload_n hx hb dX6_putBytes_17 rfl (lv_at hl 1 rfl) ?_
  refine va_get (D := (dC, dI)) (ci := 6) (v := .ref tp) (C := RX6) (T := TX6) (N := 11) hx hb hts in_X6_putBytes_16_X6 hown hK hP 0 rfl rfl 0 (by decide) (hts _ wd_X6_putBytes_16_1) (fun _ h9 => h9) rfl dX6_putBytes_18 ?_
  refine lv_aload_n hx hb dX6_putBytes_21 rfl (lv_at hl 1 rfl) ?_
  refine va_get (D := (dC, dI)) (ci := 6) (v := .int 17) (C := RX6) (T := TX6) (N := 11) hx hb hts in_X6_putBytes_16_X6 hown hK hP 0 rfl rfl 1 (by decide) (hts _ wd_X6_putBytes_16_0) (fun _ h9 => h9) rfl dX6_putBytes_22 ?_
  refine lv_iload_n hx hb dX6_putBytes_25 rfl (lv_at hl 2 rfl) ?_
  refine lv_iload_n hx hb dX6_putBytes_26 rfl (lv_at hl 0 rfl) ?_
  refine lv_ishr hx hb dX6_putBytes_27 ?_
  refine lv_topi (fun x_9 ex_9 => ?_)
  refine lv_i2b (v := x_9.toInt8.toInt32) hx hb dX6_putBytes_28 rfl ?_
  refine lv_topi (fun x_10 ex_10 => ?_)
  refine va_bast hx hb hK hP hD hS 1 0 rfl rfl (vp_in_iff.mpr ⟨by decide, by decide⟩) dX6_putBytes_29 (fun H locs hP hD hS => ?_)
  have hP : va_P (dC, dI) vwCl [(h0, .inr (6, [.ref tp, .int 17, .int 0, .int (-1), .ref rd, .ref gd, .ref im, .ref rw, .ref gn, .ref ho, .ref sq])), (tp, .inl (cb, 1600, .inl (upd f_5 ((17 : Int32)).toNatClampNeg (vp_nar .byte x_10))))] H := hP
  have hD : va_D A [(h0, .inr (6, [.ref tp, .int 17, .int 0, .int (-1), .ref rd, .ref gd, .ref im, .ref rw, .ref gn, .ref ho, .ref sq])), (tp, .inl (cb, 1600, .inl (upd f_5 ((17 : Int32)).toNatClampNeg (vp_nar .byte x_10))))] := hD
  obtain ⟨f_11, ef_11⟩ : ∃ g, g = upd f_5 ((17 : Int32)).toNatClampNeg (vp_nar .byte x_10) := ⟨_, rfl⟩
  rw [← ef_11] at hP hD
  refine lv_aload_n hx hb dX6_putBytes_30 rfl (lv_at hl 1 rfl) ?_
  refine lv_dup hx hb dX6_putBytes_31 rfl ?_
  refine va_get (D := (dC, dI)) (ci := 6) (v := .int 17) (C := RX6) (T := TX6) (N := 11) hx hb hts in_X6_putBytes_16_X6 hown hK hP 0 rfl rfl 1 (by decide) (hts _ wd_X6_putBytes_16_0) (fun _ h9 => h9) rfl dX6_putBytes_32 ?_
  refine lv_iconst (v := 1) hx hb dX6_putBytes_35 (by decide) ?_
  refine lv_iadd hx hb dX6_putBytes_36 ?_
  refine lv_topi (fun z_12 ez_12 => ?_)
  obtain rfl : z_12 = 18 := ez_12.trans (by decide)
  refine va_put (D := (dC, dI)) (ci := 6) (v := .int 18) (ty := .int) (C := RX6) (T := TX6) (N := 11) hx hb hts in_X6_putBytes_16_X6 tyX6 tyX6_ok nmX6 hown hK hP hD hS 0 rfl rfl 1 (by decide) (hts _ wd_X6_putBytes_16_0) (fun _ h9 => h9) rfl (by decide +kernel) rfl rfl (Nat.le_of_ble_eq_true rfl) dX6_putBytes_37 (fun H locs hP hD hS => ?_)
  have hP : va_P (dC, dI) vwCl [(h0, .inr (6, [.ref tp, .int 18, .int 0, .int (-1), .ref rd, .ref gd, .ref im, .ref rw, .ref gn, .ref ho, .ref sq])), (tp, .inl (cb, 1600, .inl f_11))] H := hP
  have hD : va_D A [(h0, .inr (6, [.ref tp, .int 18, .int 0, .int (-1), .ref rd, .ref gd, .ref im, .ref rw, .ref gn, .ref ho, .ref sq])), (tp, .inl (cb, 1600, .inl f_11))] := hD
  refine lv_iinc (v := 8) (lv' := [(2, .int 8), (0, .ref h0), (1, .int p0)]) hx hb dX6_putBytes_40 hl (k := 0) rfl (by decide) (by decide) rfl (fun ls hl => ?_)
  refine lv_goto (tgt := 3) hx hb dX6_putBytes_43 (by decide) ?_
  refine lv_iload_n hx hb dX6_putBytes_3 rfl (lv_at hl 0 rfl) ?_
  refine lv_if_lt (tgt := 46) hx hb dX6_putBytes_4 (by decide) (fun h => absurd h (by decide)) (fun _ => ?_)
  refine lv_aload_n hx hb dX6_putBytes_7 rfl (lv_at hl 1 rfl) ?_
  refine va_get (D := (dC, dI)) (ci := 6) (v := .int 18) (C := RX6) (T := TX6) (N := 11) hx hb hts in_X6_putBytes_16_X6 hown hK hP 0 rfl rfl 1 (by decide) (hts _ wd_X6_putBytes_16_0) (fun _ h9 => h9) rfl dX6_putBytes_8 ?_
  refine lv_sipush (v := 1600) hx hb dX6_putBytes_11 (by decide) ?_
  refine lv_icmp_ge (tgt := 40) hx hb dX6_putBytes_14 (by decide) (fun h => absurd h (by decide)) (fun _ => ?_)
  refine lv_aload_n hx hb dX6_putBytes_17 rfl (lv_at hl 1 rfl) ?_
  refine va_get (D := (dC, dI)) (ci := 6) (v := .ref tp) (C := RX6) (T := TX6) (N := 11) hx hb hts in_X6_putBytes_16_X6 hown hK hP 0 rfl rfl 0 (by decide) (hts _ wd_X6_putBytes_16_1) (fun _ h9 => h9) rfl dX6_putBytes_18 ?_
  refine lv_aload_n hx hb dX6_putBytes_21 rfl (lv_at hl 1 rfl) ?_
  refine va_get (D := (dC, dI)) (ci := 6) (v := .int 18) (C := RX6) (T := TX6) (N := 11) hx hb hts in_X6_putBytes_16_X6 hown hK hP 0 rfl rfl 1 (by decide) (hts _ wd_X6_putBytes_16_0) (fun _ h9 => h9) rfl dX6_putBytes_22 ?_
  refine lv_iload_n hx hb dX6_putBytes_25 rfl (lv_at hl 2 rfl) ?_
  refine lv_iload_n hx hb dX6_putBytes_26 rfl (lv_at hl 0 rfl) ?_
  refine lv_ishr hx hb dX6_putBytes_27 ?_
  refine lv_topi (fun x_15 ex_15 => ?_)
  refine lv_i2b (v := x_15.toInt8.toInt32) hx hb dX6_putBytes_28 rfl ?_
  refine lv_topi (fun x_16 ex_16 => ?_)
  refine va_bast hx hb hK hP hD hS 1 0 rfl rfl (vp_in_iff.mpr ⟨by decide, by decide⟩) dX6_putBytes_29 (fun H locs hP hD hS => ?_)
  have hP : va_P (dC, dI) vwCl [(h0, .inr (6, [.ref tp, .int 18, .int 0, .int (-1), .ref rd, .ref gd, .ref im, .ref rw, .ref gn, .ref ho, .ref sq])), (tp, .inl (cb, 1600, .inl (upd f_11 ((18 : Int32)).toNatClampNeg (vp_nar .byte x_16))))] H := hP
  have hD : va_D A [(h0, .inr (6, [.ref tp, .int 18, .int 0, .int (-1), .ref rd, .ref gd, .ref im, .ref rw, .ref gn, .ref ho, .ref sq])), (tp, .inl (cb, 1600, .inl (upd f_11 ((18 : Int32)).toNatClampNeg (vp_nar .byte x_16))))] := hD
  obtain ⟨f_17, ef_17⟩ : ∃ g, g = upd f_11 ((18 : Int32)).toNatClampNeg (vp_nar .byte x_16) := ⟨_, rfl⟩
  rw [← ef_17] at hP hD
  refine lv_aload_n hx hb dX6_putBytes_30 rfl (lv_at hl 1 rfl) ?_
  refine lv_dup hx hb dX6_putBytes_31 rfl ?_
  refine va_get (D := (dC, dI)) (ci := 6) (v := .int 18) (C := RX6) (T := TX6) (N := 11) hx hb hts in_X6_putBytes_16_X6 hown hK hP 0 rfl rfl 1 (by decide) (hts _ wd_X6_putBytes_16_0) (fun _ h9 => h9) rfl dX6_putBytes_32 ?_
  refine lv_iconst (v := 1) hx hb dX6_putBytes_35 (by decide) ?_
  refine lv_iadd hx hb dX6_putBytes_36 ?_
  refine lv_topi (fun z_18 ez_18 => ?_)
  obtain rfl : z_18 = 19 := ez_18.trans (by decide)
  refine va_put (D := (dC, dI)) (ci := 6) (v := .int 19) (ty := .int) (C := RX6) (T := TX6) (N := 11) hx hb hts in_X6_putBytes_16_X6 tyX6 tyX6_ok nmX6 hown hK hP hD hS 0 rfl rfl 1 (by decide) (hts _ wd_X6_putBytes_16_0) (fun _ h9 => h9) rfl (by decide +kernel) rfl rfl (Nat.le_of_ble_eq_true rfl) dX6_putBytes_37 (fun H locs hP hD hS => ?_)
  have hP : va_P (dC, dI) vwCl [(h0, .inr (6, [.ref tp, .int 19, .int 0, .int (-1), .ref rd, .ref gd, .ref im, .ref rw, .ref gn, .ref ho, .ref sq])), (tp, .inl (cb, 1600, .inl f_17))] H := hP
  have hD : va_D A [(h0, .inr (6, [.ref tp, .int 19, .int 0, .int (-1), .ref rd, .ref gd, .ref im, .ref rw, .ref gn, .ref ho, .ref sq])), (tp, .inl (cb, 1600, .inl f_17))] := hD
  refine lv_iinc (v := 0) (lv' := [(2, .int 0), (0, .ref h0), (1, .int p0)]) hx hb dX6_putBytes_40 hl (k := 0) rfl (by decide) (by decide) rfl (fun ls hl => ?_)
  refine lv_goto (tgt := 3) hx hb dX6_putBytes_43 (by decide) ?_
  refine lv_iload_n hx hb dX6_putBytes_3 rfl (lv_at hl 0 rfl) ?_
  refine lv_if_lt (tgt := 46) hx hb dX6_putBytes_4 (by decide) (fun h => absurd h (by decide)) (fun _ => ?_)
  refine lv_aload_n hx hb dX6_putBytes_7 rfl (lv_at hl 1 rfl) ?_
  refine va_get (D := (dC, dI)) (ci := 6) (v := .int 19) (C := RX6) (T := TX6) (N := 11) hx hb hts in_X6_putBytes_16_X6 hown hK hP 0 rfl rfl 1 (by decide) (hts _ wd_X6_putBytes_16_0) (fun _ h9 => h9) rfl dX6_putBytes_8 ?_
  refine lv_sipush (v := 1600) hx hb dX6_putBytes_11 (by decide) ?_
  refine lv_icmp_ge (tgt := 40) hx hb dX6_putBytes_14 (by decide) (fun h => absurd h (by decide)) (fun _ => ?_)
  refine lv_aload_n hx hb dX6_putBytes_17 rfl (lv_at hl 1 rfl) ?_
  refine va_get (D := (dC, dI)) (ci := 6) (v := .ref tp) (C := RX6) (T := TX6) (N := 11) hx hb hts in_X6_putBytes_16_X6 hown hK hP 0 rfl rfl 0 (by decide) (hts _ wd_X6_putBytes_16_1) (fun _ h9 => h9) rfl dX6_putBytes_18 ?_
  refine lv_aload_n hx hb dX6_putBytes_21 rfl (lv_at hl 1 rfl) ?_
  refine va_get (D := (dC, dI)) (ci := 6) (v := .int 19) (C := RX6) (T := TX6) (N := 11) hx hb hts in_X6_putBytes_16_X6 hown hK hP 0 rfl rfl 1 (by decide) (hts _ wd_X6_putBytes_16_0) (fun _ h9 => h9) rfl dX6_putBytes_22 ?_
  refine lv_iload_n hx hb dX6_putBytes_25 rfl (lv_at hl 2 rfl) ?_
  refine lv_iload_n hx hb dX6_putBytes_26 rfl (lv_at hl 0 rfl) ?_
  refine lv_ishr hx hb dX6_putBytes_27 ?_
  refine lv_topi (fun x_21 ex_21 => ?_)
  refine lv_i2b (v := x_21.toInt8.toInt32) hx hb dX6_putBytes_28 rfl ?_
  refine lv_topi (fun x_22 ex_22 => ?_)
  refine va_bast hx hb hK hP hD hS 1 0 rfl rfl (vp_in_iff.mpr ⟨by decide, by decide⟩) dX6_putBytes_29 (fun H locs hP hD hS => ?_)
  have hP : va_P (dC, dI) vwCl [(h0, .inr (6, [.ref tp, .int 19, .int 0, .int (-1), .ref rd, .ref gd, .ref im, .ref rw, .ref gn, .ref ho, .ref sq])), (tp, .inl (cb, 1600, .inl (upd f_17 ((19 : Int32)).toNatClampNeg (vp_nar .byte x_22))))] H := hP
  have hD : va_D A [(h0, .inr (6, [.ref tp, .int 19, .int 0, .int (-1), .ref rd, .ref gd, .ref im, .ref rw, .ref gn, .ref ho, .ref sq])), (tp, .inl (cb, 1600, .inl (upd f_17 ((19 : Int32)).toNatClampNeg (vp_nar .byte x_22))))] := hD
  obtain ⟨f_23, ef_23⟩ : ∃ g, g = upd f_17 ((19 : Int32)).toNatClampNeg (vp_nar .byte x_22) := ⟨_, rfl⟩
  rw [← ef_23] at hP hD
  refine lv_aload_n hx hb dX6_putBytes_30 rfl (lv_at hl 1 rfl) ?_
  refine lv_dup hx hb dX6_putBytes_31 rfl ?_
  refine va_get (D := (dC, dI)) (ci := 6) (v := .int 19) (C := RX6) (T := TX6) (N := 11) hx hb hts in_X6_putBytes_16_X6 hown hK hP 0 rfl rfl 1 (by decide) (hts _ wd_X6_putBytes_16_0) (fun _ h9 => h9) rfl dX6_putBytes_32 ?_
  refine lv_iconst (v := 1) hx hb dX6_putBytes_35 (by decide) ?_
  refine lv_iadd hx hb dX6_putBytes_36 ?_
  refine lv_topi (fun z_24 ez_24 => ?_)
  obtain rfl : z_24 = 20 := ez_24.trans (by decide)
  refine va_put (D := (dC, dI)) (ci := 6) (v := .int 20) (ty := .int) (C := RX6) (T := TX6) (N := 11) hx hb hts in_X6_putBytes_16_X6 tyX6 tyX6_ok nmX6 hown hK hP hD hS 0 rfl rfl 1 (by decide) (hts _ wd_X6_putBytes_16_0) (fun _ h9 => h9) rfl (by decide +kernel) rfl rfl (Nat.le_of_ble_eq_true rfl) dX6_putBytes_37 (fun H locs hP hD hS => ?_)
  have hP : va_P (dC, dI) vwCl [(h0, .inr (6, [.ref tp, .int 20, .int 0, .int (-1), .ref rd, .ref gd, .ref im, .ref rw, .ref gn, .ref ho, .ref sq])), (tp, .inl (cb, 1600, .inl f_23))] H := hP
  have hD : va_D A [(h0, .inr (6, [.ref tp, .int 20, .int 0, .int (-1), .ref rd, .ref gd, .ref im, .ref rw, .ref gn, .ref ho, .ref sq])), (tp, .inl (cb, 1600, .inl f_23))] := hD
  refine lv_iinc (v := -8) (lv' := [(2, .int (-8)), (0, .ref h0), (1, .int p0)]) hx hb dX6_putBytes_40 hl (k := 0) rfl (by decide) (by decide) rfl (fun ls hl => ?_)
  refine lv_goto (tgt := 3) hx hb dX6_putBytes_43 (by decide) ?_
  refine lv_iload_n hx hb dX6_putBytes_3 rfl (lv_at hl 0 rfl) ?_
  refine lv_if_lt (tgt := 46) hx hb dX6_putBytes_4 (by decide) (fun _ => ?_) (fun h => absurd (by decide) h)
  have hP9 := hP.sub (ws' := [(h0, .inr (6, [.ref tp, .int 20, .int 0, .int (-1), .ref rd, .ref gd, .ref im, .ref rw, .ref gn, .ref ho, .ref sq])), (tp, .inl (cb, 1600, .inl f_23))]) [0, 1] rfl
  have hD9 := hD.sub (ws' := [(h0, .inr (6, [.ref tp, .int 20, .int 0, .int (-1), .ref rd, .ref gd, .ref im, .ref rw, .ref gn, .ref ho, .ref sq])), (tp, .inl (cb, 1600, .inl f_23))]) [0, 1] (by decide) rfl
  have hK9 := hK.sub (tys' := []) [] rfl
  refine W.widen (k := 0) (n := 0) (by omega) (by omega) ?_
  exact W.vret hx hb hr (fun t ht hW => ⟨⟨(f_23), rfl, trivial, by rw [ht]; exact hP9, va_K.moved hW.alike hK9, hD9⟩, hS.F ht⟩) hS.2.2 dX6_putBytes_46

theorem dX6_feed_0 : decode cX6_feed 0 = .ok (.aload_n 0, 1) := by decide +kernel
theorem dX6_feed_1 : decode cX6_feed 1 = .ok (.getfield 13, 3) := by decide +kernel
theorem dX6_feed_4 : decode cX6_feed 4 = .ok (.sipush 1580, 3) := by decide +kernel
theorem dX6_feed_7 : decode cX6_feed 7 = .ok (.if_icmp .le 5, 3) := by decide +kernel
theorem dX6_feed_12 : decode cX6_feed 12 = .ok (.aload_n 0, 1) := by decide +kernel
theorem dX6_feed_13 : decode cX6_feed 13 = .ok (.iload_n 1, 1) := by decide +kernel
theorem dX6_feed_14 : decode cX6_feed 14 = .ok (.invokevirtual 66, 3) := by decide +kernel
theorem dX6_feed_17 : decode cX6_feed 17 = .ok (.aload_n 0, 1) := by decide +kernel
theorem dX6_feed_18 : decode cX6_feed 18 = .ok (.iload_n 2, 1) := by decide +kernel
theorem dX6_feed_19 : decode cX6_feed 19 = .ok (.invokevirtual 66, 3) := by decide +kernel
theorem dX6_feed_22 : decode cX6_feed 22 = .ok (.aload_n 0, 1) := by decide +kernel
theorem dX6_feed_23 : decode cX6_feed 23 = .ok (.iload_n 3, 1) := by decide +kernel
theorem dX6_feed_24 : decode cX6_feed 24 = .ok (.invokevirtual 66, 3) := by decide +kernel
theorem dX6_feed_27 : decode cX6_feed 27 = .ok (.aload_n 0, 1) := by decide +kernel
theorem dX6_feed_28 : decode cX6_feed 28 = .ok (.iload 4, 2) := by decide +kernel
theorem dX6_feed_30 : decode cX6_feed 30 = .ok (.invokevirtual 66, 3) := by decide +kernel
theorem dX6_feed_33 : decode cX6_feed 33 = .ok (.aload_n 0, 1) := by decide +kernel
theorem dX6_feed_34 : decode cX6_feed 34 = .ok (.iload 5, 2) := by decide +kernel
theorem dX6_feed_36 : decode cX6_feed 36 = .ok (.invokevirtual 66, 3) := by decide +kernel
theorem dX6_feed_39 : decode cX6_feed 39 = .ok (.aload_n 0, 1) := by decide +kernel
theorem dX6_feed_40 : decode cX6_feed 40 = .ok (.getfield 13, 3) := by decide +kernel
theorem dX6_feed_43 : decode cX6_feed 43 = .ok (.ireturn, 1) := by decide +kernel
def wz_X6_feed : List Cond := .code yX6_feed cX6_feed 6 (some .int) :: ([Cond.fieldLink RX6 13 "HedgeMaze" "tapeSize" "I", Cond.methodLink RX6 66 yX6_putBytes, Cond.instanceMethod yX6_putBytes, Cond.selects RX6 yX6_putBytes yX6_putBytes, Cond.initialized RX6, Cond.code yX6_putBytes cX6_putBytes 3 none, Cond.fieldLink RX6 9 "HedgeMaze" "tape" "[B"] ++ wsX60)
theorem wd_X6_feed_0 : Cond.fieldLink RX6 13 "HedgeMaze" "tapeSize" "I" ∈ wz_X6_feed := List.mem_of_getElem? (i := 1) rfl
theorem in_X6_feed_X6 : ∀ w ∈ wsX60, w ∈ wz_X6_feed := fun _ h => List.mem_cons_of_mem _ (List.mem_append_right _ h)
set_option maxRecDepth 20000 in
theorem g_X6_feed_X6_putBytes_0 : GoodIn wz_X6_feed (wsV RX6 66 RX6 yX6_putBytes wz_X6_putBytes_0) := goodIn_r _ [2, 3, 4, 5, 6, 1, 7, 8, 9, 10, 11, 12, 13, 14, 15, 16, 17, 18] rfl (by decide +kernel)
set_option maxRecDepth 20000 in
theorem g_X6_feed_X6_putBytes_4 : GoodIn wz_X6_feed (wsV RX6 66 RX6 yX6_putBytes wz_X6_putBytes_4) := goodIn_r _ [2, 3, 4, 5, 6, 1, 7, 8, 9, 10, 11, 12, 13, 14, 15, 16, 17, 18] rfl (by decide +kernel)
set_option maxRecDepth 20000 in
theorem g_X6_feed_X6_putBytes_8 : GoodIn wz_X6_feed (wsV RX6 66 RX6 yX6_putBytes wz_X6_putBytes_8) := goodIn_r _ [2, 3, 4, 5, 6, 1, 7, 8, 9, 10, 11, 12, 13, 14, 15, 16, 17, 18] rfl (by decide +kernel)
set_option maxRecDepth 20000 in
theorem g_X6_feed_X6_putBytes_12 : GoodIn wz_X6_feed (wsV RX6 66 RX6 yX6_putBytes wz_X6_putBytes_12) := goodIn_r _ [2, 3, 4, 5, 6, 1, 7, 8, 9, 10, 11, 12, 13, 14, 15, 16, 17, 18] rfl (by decide +kernel)
set_option maxRecDepth 20000 in
theorem g_X6_feed_X6_putBytes_16 : GoodIn wz_X6_feed (wsV RX6 66 RX6 yX6_putBytes wz_X6_putBytes_16) := goodIn_r _ [2, 3, 4, 5, 6, 1, 7, 8, 9, 10, 11, 12, 13, 14, 15, 16, 17, 18] rfl (by decide +kernel)
set_option maxHeartbeats 4000000 in
set_option maxRecDepth 100000 in
theorem c_X6_feed (l : Launch) (dC : Nat → ClassId) (dI : Nat → Nat → Nat) (sz : Nat) (h0 : Nat) (tp : Nat) (rd : Nat) (gd : Nat) (im : Nat) (rw : Nat) (gn : Nat) (ho : Nat) (sq : Nat) (cb : ClassId) (ft : Nat → Int32) (p0 : Int32) (p1 : Int32) (p2 : Int32) (p3 : Int32) (p4 : Int32)  : Met l yX6_feed wz_X6_feed ({ frames := 1, cells := 0, slots := 0, locals := 22 }) (va_Pc [.ref h0, .int p0, .int p1, .int p2, .int p3, .int p4] (fun U => U.heap.size = sz ∧ va_P (dC, dI) vwCl [(h0, .inr (6, [.ref tp, .int 0, .int 0, .int (-1), .ref rd, .ref gd, .ref im, .ref rw, .ref gn, .ref ho, .ref sq])), (tp, .inl (cb, 1600, .inl ft))] U.heap ∧ va_K (dC, dI) vwCl [(cb, .byte)] U ∧ va_D (fun _ => True) [(h0, .inr (6, [.ref tp, .int 0, .int 0, .int (-1), .ref rd, .ref gd, .ref im, .ref rw, .ref gn, .ref ho, .ref sq])), (tp, .inl (cb, 1600, .inl ft))])) (va_Qi (fun (r : Int32) (u : Unit) => r = 20) (fun (_ : Unit) (_ : State) => True) (va_A [(h0, .inr (6, [.ref tp, .int 0, .int 0, .int (-1), .ref rd, .ref gd, .ref im, .ref rw, .ref gn, .ref ho, .ref sq])), (tp, .inl (cb, 1600, .inl ft))] sz)) 0 0 (va_A [(h0, .inr (6, [.ref tp, .int 0, .int 0, .int (-1), .ref rd, .ref gd, .ref im, .ref rw, .ref gn, .ref ho, .ref sq])), (tp, .inl (cb, 1600, .inl ft))] sz) := by
  refine Met.ofW (cc := cX6_feed) (maxL := 6) (ret := (some .int)) (by decide) rfl ?_
  intro p e s m args below meth c s₁ B hml hv
  obtain ⟨rfl, hsz, hP, hK, hD0⟩ := hv
  have hx := B.exec
  have hb := B.bytes
  have hr := B.returns
  have hts := atoms_spec (ws := wz_X6_feed) B.pre
  have hown : s.vm.findClass RX6 = some m.cls := findClass_of_methodNamed B.named
  have hlocks := B.notSynchronized
  subst hsz
  have hD := hD0.self (sz := s.heap.size)
  generalize hAe : va_A [(h0, .inr (6, [.ref tp, .int 0, .int 0, .int (-1), .ref rd, .ref gd, .ref im, .ref rw, .ref gn, .ref ho, .ref sq])), (tp, .inl (cb, 1600, .inl ft))] s.heap.size = A at hD ⊢
  have hA : ∀ q : Nat, s.heap.size ≤ q → A q := fun q h => by rw [← hAe]; exact Or.inr h
  have hS : va_S A s.heap s.heap [] := va_S.rf
  have hP : va_P (dC, dI) vwCl [(h0, .inr (6, [.ref tp, .int 0, .int 0, .int (-1), .ref rd, .ref gd, .ref im, .ref rw, .ref gn, .ref ho, .ref sq])), (tp, .inl (cb, 1600, .inl ft))] s.heap := hP
  have hl := lv_entry ([.ref h0, .int p0, .int p1, .int p2, .int p3, .int p4]) (n := 6) (Nat.le_of_ble_eq_true rfl)
  rw [lg_entry_eq]
  generalize (lg_sl ([.ref h0, .int p0, .int p1, .int p2, .int p3, .int p4]) ++ List.replicate (6 - (lg_sl ([.ref h0, .int p0, .int p1, .int p2, .int p3, .int p4])).length) Slot.unset).toArray = ls at hl ⊢
  have hl : lv_has ls 6 [(0, .ref h0), (1, .int p0), (2, .int p1), (3, .int p2), (4, .int p3), (5, .int p4)] := hl
  refine lv_aload_n hx hb dX6_feed_0 rfl (lv_at hl 0 rfl) ?_
  refine va_get (D := (dC, dI)) (ci := 6) (v := .int 0) (C := RX6) (T := TX6) (N := 11) hx hb hts in_X6_feed_X6 hown hK hP 0 rfl rfl 1 (by decide) (hts _ wd_X6_feed_0) (fun _ h9 => h9) rfl dX6_feed_1 ?_
  refine lv_sipush (v := 1580) hx hb dX6_feed_4 (by decide) ?_
  refine lv_icmp_le (tgt := 12) hx hb dX6_feed_7 (by decide) (fun _ => ?_) (fun h => absurd (by decide) h)
  refine lv_aload_n hx hb dX6_feed_12 rfl (lv_at hl 0 rfl) ?_
  refine lv_iload_n hx hb dX6_feed_13 rfl (lv_at hl 1 rfl) ?_
  have hPc := hP.sub (ws' := [(h0, .inr (6, [.ref tp, .int 0, .int 0, .int (-1), .ref rd, .ref gd, .ref im, .ref rw, .ref gn, .ref ho, .ref sq])), (tp, .inl (cb, 1600, .inl ft))]) [0, 1] rfl
  have hDc := hD.sub (ws' := [(h0, .inr (6, [.ref tp, .int 0, .int 0, .int (-1), .ref rd, .ref gd, .ref im, .ref rw, .ref gn, .ref ho, .ref sq])), (tp, .inl (cb, 1600, .inl ft))]) [0, 1] (by decide) rfl
  have hKc := hK.sub (tys' := [(cb, .byte)]) [0] rfl
  have hFc := va_free (wc := [(h0, .inr (6, [.ref tp, .int 0, .int 0, .int (-1), .ref rd, .ref gd, .ref im, .ref rw, .ref gn, .ref ho, .ref sq])), (tp, .inl (cb, 1600, .inl ft))]) hD hS hA [0, 1] rfl
  refine va_callv (va_runV (As := [.int p0]) (rest := []) ⟨hx, hb, hml, hown, hts⟩ (c_X6_putBytes_0 l dC dI s.heap.size h0 tp rd gd im rw gn ho sq cb ft p0 ) (cwV 1 hts g_X6_feed_X6_putBytes_0 rfl rfl rfl (by decide +kernel) ⟨Nat.le_of_ble_eq_true rfl, Nat.le_of_ble_eq_true rfl⟩) ⟨fun a U g mk q => by obtain ⟨q0, q1, qP, qK, qD⟩ := q; exact ⟨q0, q1, qP, va_K.moved (u := U) (U := U.calling g mk a) (Vm.Alike.refl U.vm) qK, qD⟩, va_recv hKc hPc (ci := 6) (q0 := 0) rfl rfl, fun U hU hW => ⟨rfl, by rw [hU], by rw [hU]; exact hPc, va_K.moved hW.alike hKc, hDc.weaken (fun _ _ _ _ => trivial)⟩⟩ rfl rfl hl.1 rfl (lv_room (Nat.le_of_ble_eq_true rfl)) dX6_feed_14 ⟨Nat.le_of_ble_eq_true rfl, Nat.le_of_ble_eq_true rfl⟩) hS (fun q _ h => hFc q h) hFc (fun u t H1 locs ht hvm hw_2 hB hz1 hk1 hS => ?_)
  obtain ⟨f2_3, rfl⟩ : ∃ z, z = u := ⟨_, rfl⟩
  obtain ⟨hP1, hK1, hD1⟩ := hB
  have hP1 : va_P (dC, dI) vwCl [(h0, .inr (6, [.ref tp, .int 4, .int 0, .int (-1), .ref rd, .ref gd, .ref im, .ref rw, .ref gn, .ref ho, .ref sq])), (tp, .inl (cb, 1600, .inl f2_3))] t.heap := hP1
  rw [ht] at hP1
  try dsimp only at hw_2
  obtain ⟨hP, hD⟩ := va_join (wr := []) (w1 := [(h0, .inr (6, [.ref tp, .int 4, .int 0, .int (-1), .ref rd, .ref gd, .ref im, .ref rw, .ref gn, .ref ho, .ref sq])), (tp, .inl (cb, 1600, .inl f2_3))]) hP hD [0, 1] [] rfl rfl (by decide) (by decide) hk1 hFc hP1 hD1
  generalize H1 = H at hP hS ⊢
  have hP : va_P (dC, dI) vwCl [(h0, .inr (6, [.ref tp, .int 4, .int 0, .int (-1), .ref rd, .ref gd, .ref im, .ref rw, .ref gn, .ref ho, .ref sq])), (tp, .inl (cb, 1600, .inl f2_3))] H := hP
  have hD : va_D A [(h0, .inr (6, [.ref tp, .int 4, .int 0, .int (-1), .ref rd, .ref gd, .ref im, .ref rw, .ref gn, .ref ho, .ref sq])), (tp, .inl (cb, 1600, .inl f2_3))] := hD
  refine lv_aload_n hx hb dX6_feed_17 rfl (lv_at hl 0 rfl) ?_
  refine lv_iload_n hx hb dX6_feed_18 rfl (lv_at hl 2 rfl) ?_
  have hPc := hP.sub (ws' := [(h0, .inr (6, [.ref tp, .int 4, .int 0, .int (-1), .ref rd, .ref gd, .ref im, .ref rw, .ref gn, .ref ho, .ref sq])), (tp, .inl (cb, 1600, .inl f2_3))]) [0, 1] rfl
  have hDc := hD.sub (ws' := [(h0, .inr (6, [.ref tp, .int 4, .int 0, .int (-1), .ref rd, .ref gd, .ref im, .ref rw, .ref gn, .ref ho, .ref sq])), (tp, .inl (cb, 1600, .inl f2_3))]) [0, 1] (by decide) rfl
  have hKc := hK.sub (tys' := [(cb, .byte)]) [0] rfl
  have hFc := va_free (wc := [(h0, .inr (6, [.ref tp, .int 4, .int 0, .int (-1), .ref rd, .ref gd, .ref im, .ref rw, .ref gn, .ref ho, .ref sq])), (tp, .inl (cb, 1600, .inl f2_3))]) hD hS hA [0, 1] rfl
  refine va_callv (va_runV (As := [.int p1]) (rest := []) ⟨hx, hb, hml, hown, hts⟩ (c_X6_putBytes_4 l dC dI H.size h0 tp rd gd im rw gn ho sq cb f2_3 p1 ) (cwV 1 hts g_X6_feed_X6_putBytes_4 rfl rfl rfl (by decide +kernel) ⟨Nat.le_of_ble_eq_true rfl, Nat.le_of_ble_eq_true rfl⟩) ⟨fun a U g mk q => by obtain ⟨q0, q1, qP, qK, qD⟩ := q; exact ⟨q0, q1, qP, va_K.moved (u := U) (U := U.calling g mk a) (Vm.Alike.refl U.vm) qK, qD⟩, va_recv hKc hPc (ci := 6) (q0 := 0) rfl rfl, fun U hU hW => ⟨rfl, by rw [hU], by rw [hU]; exact hPc, va_K.moved hW.alike hKc, hDc.weaken (fun _ _ _ _ => trivial)⟩⟩ rfl rfl hl.1 rfl (lv_room (Nat.le_of_ble_eq_true rfl)) dX6_feed_19 ⟨Nat.le_of_ble_eq_true rfl, Nat.le_of_ble_eq_true rfl⟩) hS (fun q _ h => hFc q h) hFc (fun u t H1 locs ht hvm hw_4 hB hz1 hk1 hS => ?_)
  obtain ⟨f2_5, rfl⟩ : ∃ z, z = u := ⟨_, rfl⟩
  obtain ⟨hP1, hK1, hD1⟩ := hB
  have hP1 : va_P (dC, dI) vwCl [(h0, .inr (6, [.ref tp, .int 8, .int 0, .int (-1), .ref rd, .ref gd, .ref im, .ref rw, .ref gn, .ref ho, .ref sq])), (tp, .inl (cb, 1600, .inl f2_5))] t.heap := hP1
  rw [ht] at hP1
  try dsimp only at hw_4
  obtain ⟨hP, hD⟩ := va_join (wr := []) (w1 := [(h0, .inr (6, [.ref tp, .int 8, .int 0, .int (-1), .ref rd, .ref gd, .ref im, .ref rw, .ref gn, .ref ho, .ref sq])), (tp, .inl (cb, 1600, .inl f2_5))]) hP hD [0, 1] [] rfl rfl (by decide) (by decide) hk1 hFc hP1 hD1
  generalize H1 = H at hP hS ⊢
  have hP : va_P (dC, dI) vwCl [(h0, .inr (6, [.ref tp, .int 8, .int 0, .int (-1), .ref rd, .ref gd, .ref im, .ref rw, .ref gn, .ref ho, .ref sq])), (tp, .inl (cb, 1600, .inl f2_5))] H := hP
  have hD : va_D A [(h0, .inr (6, [.ref tp, .int 8, .int 0, .int (-1), .ref rd, .ref gd, .ref im, .ref rw, .ref gn, .ref ho, .ref sq])), (tp, .inl (cb, 1600, .inl f2_5))] := hD
  refine lv_aload_n hx hb dX6_feed_22 rfl (lv_at hl 0 rfl) ?_
  refine lv_iload_n hx hb dX6_feed_23 rfl (lv_at hl 3 rfl) ?_
  have hPc := hP.sub (ws' := [(h0, .inr (6, [.ref tp, .int 8, .int 0, .int (-1), .ref rd, .ref gd, .ref im, .ref rw, .ref gn, .ref ho, .ref sq])), (tp, .inl (cb, 1600, .inl f2_5))]) [0, 1] rfl
  have hDc := hD.sub (ws' := [(h0, .inr (6, [.ref tp, .int 8, .int 0, .int (-1), .ref rd, .ref gd, .ref im, .ref rw, .ref gn, .ref ho, .ref sq])), (tp, .inl (cb, 1600, .inl f2_5))]) [0, 1] (by decide) rfl
  have hKc := hK.sub (tys' := [(cb, .byte)]) [0] rfl
  have hFc := va_free (wc := [(h0, .inr (6, [.ref tp, .int 8, .int 0, .int (-1), .ref rd, .ref gd, .ref im, .ref rw, .ref gn, .ref ho, .ref sq])), (tp, .inl (cb, 1600, .inl f2_5))]) hD hS hA [0, 1] rfl
  refine va_callv (va_runV (As := [.int p2]) (rest := []) ⟨hx, hb, hml, hown, hts⟩ (c_X6_putBytes_8 l dC dI H.size h0 tp rd gd im rw gn ho sq cb f2_5 p2 ) (cwV 1 hts g_X6_feed_X6_putBytes_8 rfl rfl rfl (by decide +kernel) ⟨Nat.le_of_ble_eq_true rfl, Nat.le_of_ble_eq_true rfl⟩) ⟨fun a U g mk q => by obtain ⟨q0, q1, qP, qK, qD⟩ := q; exact ⟨q0, q1, qP, va_K.moved (u := U) (U := U.calling g mk a) (Vm.Alike.refl U.vm) qK, qD⟩, va_recv hKc hPc (ci := 6) (q0 := 0) rfl rfl, fun U hU hW => ⟨rfl, by rw [hU], by rw [hU]; exact hPc, va_K.moved hW.alike hKc, hDc.weaken (fun _ _ _ _ => trivial)⟩⟩ rfl rfl hl.1 rfl (lv_room (Nat.le_of_ble_eq_true rfl)) dX6_feed_24 ⟨Nat.le_of_ble_eq_true rfl, Nat.le_of_ble_eq_true rfl⟩) hS (fun q _ h => hFc q h) hFc (fun u t H1 locs ht hvm hw_6 hB hz1 hk1 hS => ?_)
  obtain ⟨f2_7, rfl⟩ : ∃ z, z = u := ⟨_, rfl⟩
  obtain ⟨hP1, hK1, hD1⟩ := hB
  have hP1 : va_P (dC, dI) vwCl [(h0, .inr (6, [.ref tp, .int 12, .int 0, .int (-1), .ref rd, .ref gd, .ref im, .ref rw, .ref gn, .ref ho, .ref sq])), (tp, .inl (cb, 1600, .inl f2_7))] t.heap := hP1
  rw [ht] at hP1
  try dsimp only at hw_6
  obtain ⟨hP, hD⟩ := va_join (wr := []) (w1 := [(h0, .inr (6, [.ref tp, .int 12, .int 0, .int (-1), .ref rd, .ref gd, .ref im, .ref rw, .ref gn, .ref ho, .ref sq])), (tp, .inl (cb, 1600, .inl f2_7))]) hP hD [0, 1] [] rfl rfl (by decide) (by decide) hk1 hFc hP1 hD1
  generalize H1 = H at hP hS ⊢
  have hP : va_P (dC, dI) vwCl [(h0, .inr (6, [.ref tp, .int 12, .int 0, .int (-1), .ref rd, .ref gd, .ref im, .ref rw, .ref gn, .ref ho, .ref sq])), (tp, .inl (cb, 1600, .inl f2_7))] H := hP
  have hD : va_D A [(h0, .inr (6, [.ref tp, .int 12, .int 0, .int (-1), .ref rd, .ref gd, .ref im, .ref rw, .ref gn, .ref ho, .ref sq])), (tp, .inl (cb, 1600, .inl f2_7))] := hD
  refine lv_aload_n hx hb dX6_feed_27 rfl (lv_at hl 0 rfl) ?_
  refine lv_iload hx hb dX6_feed_28 (lv_at hl 4 rfl) ?_
  have hPc := hP.sub (ws' := [(h0, .inr (6, [.ref tp, .int 12, .int 0, .int (-1), .ref rd, .ref gd, .ref im, .ref rw, .ref gn, .ref ho, .ref sq])), (tp, .inl (cb, 1600, .inl f2_7))]) [0, 1] rfl
  have hDc := hD.sub (ws' := [(h0, .inr (6, [.ref tp, .int 12, .int 0, .int (-1), .ref rd, .ref gd, .ref im, .ref rw, .ref gn, .ref ho, .ref sq])), (tp, .inl (cb, 1600, .inl f2_7))]) [0, 1] (by decide) rfl
  have hKc := hK.sub (tys' := [(cb, .byte)]) [0] rfl
  have hFc := va_free (wc := [(h0, .inr (6, [.ref tp, .int 12, .int 0, .int (-1), .ref rd, .ref gd, .ref im, .ref rw, .ref gn, .ref ho, .ref sq])), (tp, .inl (cb, 1600, .inl f2_7))]) hD hS hA [0, 1] rfl
  refine va_callv (va_runV (As := [.int p3]) (rest := []) ⟨hx, hb, hml, hown, hts⟩ (c_X6_putBytes_12 l dC dI H.size h0 tp rd gd im rw gn ho sq cb f2_7 p3 ) (cwV 1 hts g_X6_feed_X6_putBytes_12 rfl rfl rfl (by decide +kernel) ⟨Nat.le_of_ble_eq_true rfl, Nat.le_of_ble_eq_true rfl⟩) ⟨fun a U g mk q => by obtain ⟨q0, q1, qP, qK, qD⟩ := q; exact ⟨q0, q1, qP, va_K.moved (u := U) (U := U.calling g mk a) (Vm.Alike.refl U.vm) qK, qD⟩, va_recv hKc hPc (ci := 6) (q0 := 0) rfl rfl, fun U hU hW => ⟨rfl, by rw [hU], by rw [hU]; exact hPc, va_K.moved hW.alike hKc, hDc.weaken (fun _ _ _ _ => trivial)⟩⟩ rfl rfl hl.1 rfl (lv_room (Nat.le_of_ble_eq_true rfl)) dX6_feed_30 ⟨Nat.le_of_ble_eq_true rfl, Nat.le_of_ble_eq_true rfl⟩) hS (fun q _ h => hFc q h) hFc (fun u t H1 locs ht hvm hw_8 hB hz1 hk1 hS => ?_)
  obtain ⟨f2_9, rfl⟩ : ∃ z, z = u := ⟨_, rfl⟩
  obtain ⟨hP1, hK1, hD1⟩ := hB
  have hP1 : va_P (dC, dI) vwCl [(h0, .inr (6, [.ref tp, .int 16, .int 0, .int (-1), .ref rd, .ref gd, .ref im, .ref rw, .ref gn, .ref ho, .ref sq])), (tp, .inl (cb, 1600, .inl f2_9))] t.heap := hP1
  rw [ht] at hP1
  try dsimp only at hw_8
  obtain ⟨hP, hD⟩ := va_join (wr := []) (w1 := [(h0, .inr (6, [.ref tp, .int 16, .int 0, .int (-1), .ref rd, .ref gd, .ref im, .ref rw, .ref gn, .ref ho, .ref sq])), (tp, .inl (cb, 1600, .inl f2_9))]) hP hD [0, 1] [] rfl rfl (by decide) (by decide) hk1 hFc hP1 hD1
  generalize H1 = H at hP hS ⊢
  have hP : va_P (dC, dI) vwCl [(h0, .inr (6, [.ref tp, .int 16, .int 0, .int (-1), .ref rd, .ref gd, .ref im, .ref rw, .ref gn, .ref ho, .ref sq])), (tp, .inl (cb, 1600, .inl f2_9))] H := hP
  have hD : va_D A [(h0, .inr (6, [.ref tp, .int 16, .int 0, .int (-1), .ref rd, .ref gd, .ref im, .ref rw, .ref gn, .ref ho, .ref sq])), (tp, .inl (cb, 1600, .inl f2_9))] := hD
  refine lv_aload_n hx hb dX6_feed_33 rfl (lv_at hl 0 rfl) ?_
  refine lv_iload hx hb dX6_feed_34 (lv_at hl 5 rfl) ?_
  have hPc := hP.sub (ws' := [(h0, .inr (6, [.ref tp, .int 16, .int 0, .int (-1), .ref rd, .ref gd, .ref im, .ref rw, .ref gn, .ref ho, .ref sq])), (tp, .inl (cb, 1600, .inl f2_9))]) [0, 1] rfl
  have hDc := hD.sub (ws' := [(h0, .inr (6, [.ref tp, .int 16, .int 0, .int (-1), .ref rd, .ref gd, .ref im, .ref rw, .ref gn, .ref ho, .ref sq])), (tp, .inl (cb, 1600, .inl f2_9))]) [0, 1] (by decide) rfl
  have hKc := hK.sub (tys' := [(cb, .byte)]) [0] rfl
  have hFc := va_free (wc := [(h0, .inr (6, [.ref tp, .int 16, .int 0, .int (-1), .ref rd, .ref gd, .ref im, .ref rw, .ref gn, .ref ho, .ref sq])), (tp, .inl (cb, 1600, .inl f2_9))]) hD hS hA [0, 1] rfl
  refine va_callv (va_runV (As := [.int p4]) (rest := []) ⟨hx, hb, hml, hown, hts⟩ (c_X6_putBytes_16 l dC dI H.size h0 tp rd gd im rw gn ho sq cb f2_9 p4 ) (cwV 1 hts g_X6_feed_X6_putBytes_16 rfl rfl rfl (by decide +kernel) ⟨Nat.le_of_ble_eq_true rfl, Nat.le_of_ble_eq_true rfl⟩) ⟨fun a U g mk q => by obtain ⟨q0, q1, qP, qK, qD⟩ := q; exact ⟨q0, q1, qP, va_K.moved (u := U) (U := U.calling g mk a) (Vm.Alike.refl U.vm) qK, qD⟩, va_recv hKc hPc (ci := 6) (q0 := 0) rfl rfl, fun U hU hW => ⟨rfl, by rw [hU], by rw [hU]; exact hPc, va_K.moved hW.alike hKc, hDc.weaken (fun _ _ _ _ => trivial)⟩⟩ rfl rfl hl.1 rfl (lv_room (Nat.le_of_ble_eq_true rfl)) dX6_feed_36 ⟨Nat.le_of_ble_eq_true rfl, Nat.le_of_ble_eq_true rfl⟩) hS (fun q _ h => hFc q h) hFc (fun u t H1 locs ht hvm hw_10 hB hz1 hk1 hS => ?_)
  obtain ⟨f2_11, rfl⟩ : ∃ z, z = u := ⟨_, rfl⟩
  obtain ⟨hP1, hK1, hD1⟩ := hB
  have hP1 : va_P (dC, dI) vwCl [(h0, .inr (6, [.ref tp, .int 20, .int 0, .int (-1), .ref rd, .ref gd, .ref im, .ref rw, .ref gn, .ref ho, .ref sq])), (tp, .inl (cb, 1600, .inl f2_11))] t.heap := hP1
  rw [ht] at hP1
  try dsimp only at hw_10
  obtain ⟨hP, hD⟩ := va_join (wr := []) (w1 := [(h0, .inr (6, [.ref tp, .int 20, .int 0, .int (-1), .ref rd, .ref gd, .ref im, .ref rw, .ref gn, .ref ho, .ref sq])), (tp, .inl (cb, 1600, .inl f2_11))]) hP hD [0, 1] [] rfl rfl (by decide) (by decide) hk1 hFc hP1 hD1
  generalize H1 = H at hP hS ⊢
  have hP : va_P (dC, dI) vwCl [(h0, .inr (6, [.ref tp, .int 20, .int 0, .int (-1), .ref rd, .ref gd, .ref im, .ref rw, .ref gn, .ref ho, .ref sq])), (tp, .inl (cb, 1600, .inl f2_11))] H := hP
  have hD : va_D A [(h0, .inr (6, [.ref tp, .int 20, .int 0, .int (-1), .ref rd, .ref gd, .ref im, .ref rw, .ref gn, .ref ho, .ref sq])), (tp, .inl (cb, 1600, .inl f2_11))] := hD
  refine lv_aload_n hx hb dX6_feed_39 rfl (lv_at hl 0 rfl) ?_
  refine va_get (D := (dC, dI)) (ci := 6) (v := .int 20) (C := RX6) (T := TX6) (N := 11) hx hb hts in_X6_feed_X6 hown hK hP 0 rfl rfl 1 (by decide) (hts _ wd_X6_feed_0) (fun _ h9 => h9) rfl dX6_feed_40 ?_
  refine W.widen (k := 0) (n := 0) (by omega) (by omega) ?_
  exact W.iret (v := 20) hx hb hr (fun t ht hW => ⟨⟨20, (), rfl, (by first | rfl | ((repeat' split) <;> (first | rfl | (exfalso; omega)))), trivial⟩, hS.F ht⟩) hS.2.2 dX6_feed_43

theorem dX6_countRows_0 : decode cX6_countRows 0 = .ok (.iconst 0, 1) := by decide +kernel
theorem dX6_countRows_1 : decode cX6_countRows 1 = .ok (.istore_n 1, 1) := by decide +kernel
theorem dX6_countRows_2 : decode cX6_countRows 2 = .ok (.iconst 0, 1) := by decide +kernel
theorem dX6_countRows_3 : decode cX6_countRows 3 = .ok (.istore_n 2, 1) := by decide +kernel
theorem dX6_countRows_4 : decode cX6_countRows 4 = .ok (.iload_n 2, 1) := by decide +kernel
theorem dX6_countRows_5 : decode cX6_countRows 5 = .ok (.iconst 4, 1) := by decide +kernel
theorem dX6_countRows_6 : decode cX6_countRows 6 = .ok (.if_icmp .ge 24, 3) := by decide +kernel
theorem dX6_countRows_9 : decode cX6_countRows 9 = .ok (.aload_n 0, 1) := by decide +kernel
theorem dX6_countRows_10 : decode cX6_countRows 10 = .ok (.getfield 43, 3) := by decide +kernel
theorem dX6_countRows_13 : decode cX6_countRows 13 = .ok (.iload_n 2, 1) := by decide +kernel
theorem dX6_countRows_14 : decode cX6_countRows 14 = .ok (.aaload, 1) := by decide +kernel
theorem dX6_countRows_15 : decode cX6_countRows 15 = .ok (.getfield 214, 3) := by decide +kernel
theorem dX6_countRows_18 : decode cX6_countRows 18 = .ok (.ifCond .eq 6, 3) := by decide +kernel
theorem dX6_countRows_24 : decode cX6_countRows 24 = .ok (.iinc 2 1, 3) := by decide +kernel
theorem dX6_countRows_27 : decode cX6_countRows 27 = .ok (.goto (-23), 3) := by decide +kernel
theorem dX6_countRows_30 : decode cX6_countRows 30 = .ok (.iload_n 1, 1) := by decide +kernel
theorem dX6_countRows_31 : decode cX6_countRows 31 = .ok (.ireturn, 1) := by decide +kernel
def wz_X6_countRows : List Cond := .code yX6_countRows cX6_countRows 3 (some .int) :: ([Cond.fieldLink RX6 43 "HedgeMaze" "rows" "[LHedgeMaze$Row;", Cond.fieldLink RX6 214 "HedgeMaze$Row" "there" "Z"] ++ wsX60 ++ wsX50)
theorem wd_X6_countRows_0 : Cond.fieldLink RX6 43 "HedgeMaze" "rows" "[LHedgeMaze$Row;" ∈ wz_X6_countRows := List.mem_of_getElem? (i := 1) rfl
theorem wd_X6_countRows_1 : Cond.fieldLink RX6 214 "HedgeMaze$Row" "there" "Z" ∈ wz_X6_countRows := List.mem_of_getElem? (i := 2) rfl
theorem in_X6_countRows_X6 : ∀ w ∈ wsX60, w ∈ wz_X6_countRows := fun _ h => List.mem_cons_of_mem _ (List.mem_append_left _ (List.mem_append_right _ h))
theorem in_X6_countRows_X5 : ∀ w ∈ wsX50, w ∈ wz_X6_countRows := fun _ h => List.mem_cons_of_mem _ (List.mem_append_right _ h)
set_option maxHeartbeats 4000000 in
set_option maxRecDepth 100000 in
theorem c_X6_countRows (l : Launch) (dC : Nat → ClassId) (dI : Nat → Nat → Nat) (sz : Nat) (h0 : Nat) (tp : Nat) (rd : Nat) (gd : Nat) (im : Nat) (rw : Nat) (gn : Nat) (ho : Nat) (sq : Nat) (cr : ClassId) (fr : Nat → Option Nat) (r0 : Nat) (r1 : Nat) (r2 : Nat) (r3 : Nat) (n0 : Nat) (n1 : Nat) (n2 : Nat) (n3 : Nat) (cl0 : ClassId) (cl1 : ClassId) (cl2 : ClassId) (cl3 : ClassId) (hf0 : fr 0 = some r0) (hf1 : fr 1 = some r1) (hf2 : fr 2 = some r2) (hf3 : fr 3 = some r3) : Met l yX6_countRows wz_X6_countRows ({ frames := 0, cells := 0, slots := 0, locals := 0 }) (va_Pc [.ref h0] (fun U => U.heap.size = sz ∧ va_P (dC, dI) vwCl [(h0, .inr (6, [.ref tp, .int 0, .int 0, .int (-1), .ref rd, .ref gd, .ref im, .ref rw, .ref gn, .ref ho, .ref sq])), (rw, .inl (cr, 4, .inr (.inr (.inr (.inr fr))))), (r0, .inr (5, [.int 0, .int 0, .int 0, .ref n0])), (n0, .inl (cl0, 60, .inr (.inl (fun _ => 0)))), (r1, .inr (5, [.int 0, .int 0, .int 0, .ref n1])), (n1, .inl (cl1, 60, .inr (.inl (fun _ => 0)))), (r2, .inr (5, [.int 0, .int 0, .int 0, .ref n2])), (n2, .inl (cl2, 60, .inr (.inl (fun _ => 0)))), (r3, .inr (5, [.int 0, .int 0, .int 0, .ref n3])), (n3, .inl (cl3, 60, .inr (.inl (fun _ => 0))))] U.heap ∧ va_K (dC, dI) vwCl [(cr, .object RX5), (cl0, .long), (cl1, .long), (cl2, .long), (cl3, .long)] U ∧ va_D (fun _ => True) [(h0, .inr (6, [.ref tp, .int 0, .int 0, .int (-1), .ref rd, .ref gd, .ref im, .ref rw, .ref gn, .ref ho, .ref sq])), (rw, .inl (cr, 4, .inr (.inr (.inr (.inr fr))))), (r0, .inr (5, [.int 0, .int 0, .int 0, .ref n0])), (n0, .inl (cl0, 60, .inr (.inl (fun _ => 0)))), (r1, .inr (5, [.int 0, .int 0, .int 0, .ref n1])), (n1, .inl (cl1, 60, .inr (.inl (fun _ => 0)))), (r2, .inr (5, [.int 0, .int 0, .int 0, .ref n2])), (n2, .inl (cl2, 60, .inr (.inl (fun _ => 0)))), (r3, .inr (5, [.int 0, .int 0, .int 0, .ref n3])), (n3, .inl (cl3, 60, .inr (.inl (fun _ => 0))))])) (va_Qi (fun (r : Int32) (u : Unit) => r = 0) (fun (_ : Unit) (_ : State) => True) (va_A [(h0, .inr (6, [.ref tp, .int 0, .int 0, .int (-1), .ref rd, .ref gd, .ref im, .ref rw, .ref gn, .ref ho, .ref sq])), (rw, .inl (cr, 4, .inr (.inr (.inr (.inr fr))))), (r0, .inr (5, [.int 0, .int 0, .int 0, .ref n0])), (n0, .inl (cl0, 60, .inr (.inl (fun _ => 0)))), (r1, .inr (5, [.int 0, .int 0, .int 0, .ref n1])), (n1, .inl (cl1, 60, .inr (.inl (fun _ => 0)))), (r2, .inr (5, [.int 0, .int 0, .int 0, .ref n2])), (n2, .inl (cl2, 60, .inr (.inl (fun _ => 0)))), (r3, .inr (5, [.int 0, .int 0, .int 0, .ref n3])), (n3, .inl (cl3, 60, .inr (.inl (fun _ => 0))))] sz)) 0 0 (va_A [(h0, .inr (6, [.ref tp, .int 0, .int 0, .int (-1), .ref rd, .ref gd, .ref im, .ref rw, .ref gn, .ref ho, .ref sq])), (rw, .inl (cr, 4, .inr (.inr (.inr (.inr fr))))), (r0, .inr (5, [.int 0, .int 0, .int 0, .ref n0])), (n0, .inl (cl0, 60, .inr (.inl (fun _ => 0)))), (r1, .inr (5, [.int 0, .int 0, .int 0, .ref n1])), (n1, .inl (cl1, 60, .inr (.inl (fun _ => 0)))), (r2, .inr (5, [.int 0, .int 0, .int 0, .ref n2])), (n2, .inl (cl2, 60, .inr (.inl (fun _ => 0)))), (r3, .inr (5, [.int 0, .int 0, .int 0, .ref n3])), (n3, .inl (cl3, 60, .inr (.inl (fun _ => 0))))] sz) := by
  refine Met.ofW (cc := cX6_countRows) (maxL := 3) (ret := (some .int)) (by decide) rfl ?_
  intro p e s m args below meth c s₁ B hml hv
  obtain ⟨rfl, hsz, hP, hK, hD0⟩ := hv
  have hx := B.exec
  have hb := B.bytes
  have hr := B.returns
  have hts := atoms_spec (ws := wz_X6_countRows) B.pre
  have hown : s.vm.findClass RX6 = some m.cls := findClass_of_methodNamed B.named
  have hlocks := B.notSynchronized
  subst hsz
  have hD := hD0.self (sz := s.heap.size)
  generalize hAe : va_A [(h0, .inr (6, [.ref tp, .int 0, .int 0, .int (-1), .ref rd, .ref gd, .ref im, .ref rw, .ref gn, .ref ho, .ref sq])), (rw, .inl (cr, 4, .inr (.inr (.inr (.inr fr))))), (r0, .inr (5, [.int 0, .int 0, .int 0, .ref n0])), (n0, .inl (cl0, 60, .inr (.inl (fun _ => 0)))), (r1, .inr (5, [.int 0, .int 0, .int 0, .ref n1])), (n1, .inl (cl1, 60, .inr (.inl (fun _ => 0)))), (r2, .inr (5, [.int 0, .int 0, .int 0, .ref n2])), (n2, .inl (cl2, 60, .inr (.inl (fun _ => 0)))), (r3, .inr (5, [.int 0, .int 0, .int 0, .ref n3])), (n3, .inl (cl3, 60, .inr (.inl (fun _ => 0))))] s.heap.size = A at hD ⊢
  have hA : ∀ q : Nat, s.heap.size ≤ q → A q := fun q h => by rw [← hAe]; exact Or.inr h
  have hS : va_S A s.heap s.heap [] := va_S.rf
  have hP : va_P (dC, dI) vwCl [(h0, .inr (6, [.ref tp, .int 0, .int 0, .int (-1), .ref rd, .ref gd, .ref im, .ref rw, .ref gn, .ref ho, .ref sq])), (rw, .inl (cr, 4, .inr (.inr (.inr (.inr fr))))), (r0, .inr (5, [.int 0, .int 0, .int 0, .ref n0])), (n0, .inl (cl0, 60, .inr (.inl (fun _ => 0)))), (r1, .inr (5, [.int 0, .int 0, .int 0, .ref n1])), (n1, .inl (cl1, 60, .inr (.inl (fun _ => 0)))), (r2, .inr (5, [.int 0, .int 0, .int 0, .ref n2])), (n2, .inl (cl2, 60, .inr (.inl (fun _ => 0)))), (r3, .inr (5, [.int 0, .int 0, .int 0, .ref n3])), (n3, .inl (cl3, 60, .inr (.inl (fun _ => 0))))] s.heap := hP
  have hl := lv_entry ([.ref h0]) (n := 3) (Nat.le_of_ble_eq_true rfl)
  rw [lg_entry_eq]
  generalize (lg_sl ([.ref h0]) ++ List.replicate (3 - (lg_sl ([.ref h0])).length) Slot.unset).toArray = ls at hl ⊢
  have hl : lv_has ls 3 [(0, .ref h0)] := hl
  refine lv_iconst (v := 0) hx hb dX6_countRows_0 (by decide) ?_
  refine lv_istore_n (lv' := [(1, .int 0), (0, .ref h0)]) hx hb dX6_countRows_1 rfl hl (by decide) rfl (fun ls hl => ?_)
  refine lv_iconst (v := 0) hx hb dX6_countRows_2 (by decide) ?_
  refine lv_istore_n (lv' := [(2, .int 0), (1, .int 0), (0, .ref h0)]) hx hb dX6_countRows_3 rfl hl (by decide) rfl (fun ls hl => ?_)
  refine lv_iload_n hx hb dX6_countRows_4 rfl (lv_at hl 0 rfl) ?_
  refine lv_iconst (v := 4) hx hb dX6_countRows_5 (by decide) ?_
  refine lv_icmp_ge (tgt := 30) hx hb dX6_countRows_6 (by decide) (fun h => absurd h (by decide)) (fun _ => ?_)
  refine lv_aload_n hx hb dX6_countRows_9 rfl (lv_at hl 2 rfl) ?_
  refine va_get (D := (dC, dI)) (ci := 6) (v := .ref rw) (C := RX6) (T := TX6) (N := 11) hx hb hts in_X6_countRows_X6 hown hK hP 0 rfl rfl 7 (by decide) (hts _ wd_X6_countRows_0) (fun _ h9 => h9) rfl dX6_countRows_10 ?_
  refine lv_iload_n hx hb dX6_countRows_13 rfl (lv_at hl 0 rfl) ?_
  refine va_aldq hx hb hK hP 1 0 rfl rfl (vp_in_iff.mpr ⟨by decide, by decide⟩) dX6_countRows_14 ?_
  refine W.eq (g2 := F0 m 15 ls (.ref r0 :: [])) (by rw [show fr (0 : Int32).toNatClampNeg = some r0 from hf0]; rfl) ?_
  refine va_get (D := (dC, dI)) (ci := 5) (v := .int 0) (C := RX5) (T := TX5) (N := 4) hx hb hts in_X6_countRows_X5 hown hK hP 2 rfl rfl 0 (by decide) (hts _ wd_X6_countRows_1) (fun _ h9 => h9) rfl dX6_countRows_15 ?_
  refine lv_if_eq (tgt := 24) hx hb dX6_countRows_18 (by decide) (fun _ => ?_) (fun h => absurd (by decide) h)
  refine lv_iinc (v := 1) (lv' := [(2, .int 1), (1, .int 0), (0, .ref h0)]) hx hb dX6_countRows_24 hl (k := 0) rfl (by decide) (by decide) rfl (fun ls hl => ?_)
  refine lv_goto (tgt := 4) hx hb dX6_countRows_27 (by decide) ?_
  refine lv_iload_n hx hb dX6_countRows_4 rfl (lv_at hl 0 rfl) ?_
  refine lv_iconst (v := 4) hx hb dX6_countRows_5 (by decide) ?_
  refine lv_icmp_ge (tgt := 30) hx hb dX6_countRows_6 (by decide) (fun h => absurd h (by decide)) (fun _ => ?_)
  refine lv_aload_n hx hb dX6_countRows_9 rfl (lv_at hl 2 rfl) ?_
  refine va_get (D := (dC, dI)) (ci := 6) (v := .ref rw) (C := RX6) (T := TX6) (N := 11) hx hb hts in_X6_countRows_X6 hown hK hP 0 rfl rfl 7 (by decide) (hts _ wd_X6_countRows_0) (fun _ h9 => h9) rfl dX6_countRows_10 ?_
  refine lv_iload_n hx hb dX6_countRows_13 rfl (lv_at hl 0 rfl) ?_
  refine va_aldq hx hb hK hP 1 0 rfl rfl (vp_in_iff.mpr ⟨by decide, by decide⟩) dX6_countRows_14 ?_
  refine W.eq (g2 := F0 m 15 ls (.ref r1 :: [])) (by rw [show fr (1 : Int32).toNatClampNeg = some r1 from hf1]; rfl) ?_
  refine va_get (D := (dC, dI)) (ci := 5) (v := .int 0) (C := RX5) (T := TX5) (N := 4) hx hb hts in_X6_countRows_X5 hown hK hP 4 rfl rfl 0 (by decide) (hts _ wd_X6_countRows_1) (fun _ h9 => h9) rfl dX6_countRows_15 ?_
  refine lv_if_eq (tgt := 24) hx hb dX6_countRows_18 (by decide) (fun _ => ?_) (fun h => absurd (by decide) h)
  refine lv_iinc (v := 2) (lv' := [(2, .int 2), (1, .int 0), (0, .ref h0)]) hx hb dX6_countRows_24 hl (k := 0) rfl (by decide) (by decide) rfl (fun ls hl => ?_)
  refine lv_goto (tgt := 4) hx hb dX6_countRows_27 (by decide) ?_
  refine lv_iload_n hx hb dX6_countRows_4 rfl (lv_at hl 0 rfl) ?_
  refine lv_iconst (v := 4) hx hb dX6_countRows_5 (by decide) ?_
  refine lv_icmp_ge (tgt := 30) hx hb dX6_countRows_6 (by decide) (fun h => absurd h (by decide)) (fun _ => ?_)
  refine lv_aload_n hx hb dX6_countRows_9 rfl (lv_at hl 2 rfl) ?_
  refine va_get (D := (dC, dI)) (ci := 6) (v := .ref rw) (C := RX6) (T := TX6) (N := 11) hx hb hts in_X6_countRows_X6 hown hK hP 0 rfl rfl 7 (by decide) (hts _ wd_X6_countRows_0) (fun _ h9 => h9) rfl dX6_countRows_10 ?_
  refine lv_iload_n hx hb dX6_countRows_13 rfl (lv_at hl 0 rfl) ?_
  refine va_aldq hx hb hK hP 1 0 rfl rfl (vp_in_iff.mpr ⟨by decide, by decide⟩) dX6_countRows_14 ?_
  refine W.eq (g2 := F0 m 15 ls (.ref r2 :: [])) (by rw [show fr (2 : Int32).toNatClampNeg = some r2 from hf2]; rfl) ?_
  refine va_get (D := (dC, dI)) (ci := 5) (v := .int 0) (C := RX5) (T := TX5) (N := 4) hx hb hts in_X6_countRows_X5 hown hK hP 6 rfl rfl 0 (by decide) (hts _ wd_X6_countRows_1) (fun _ h9 => h9) rfl dX6_countRows_15 ?_
  refine lv_if_eq (tgt := 24) hx hb dX6_countRows_18 (by decide) (fun _ => ?_) (fun h => absurd (by decide) h)
  refine lv_iinc (v := 3) (lv' := [(2, .int 3), (1, .int 0), (0, .ref h0)]) hx hb dX6_countRows_24 hl (k := 0) rfl (by decide) (by decide) rfl (fun ls hl => ?_)
  refine lv_goto (tgt := 4) hx hb dX6_countRows_27 (by decide) ?_
  refine lv_iload_n hx hb dX6_countRows_4 rfl (lv_at hl 0 rfl) ?_
  refine lv_iconst (v := 4) hx hb dX6_countRows_5 (by decide) ?_
  refine lv_icmp_ge (tgt := 30) hx hb dX6_countRows_6 (by decide) (fun h => absurd h (by decide)) (fun _ => ?_)
  refine lv_aload_n hx hb dX6_countRows_9 rfl (lv_at hl 2 rfl) ?_
  refine va_get (D := (dC, dI)) (ci := 6) (v := .ref rw) (C := RX6) (T := TX6) (N := 11) hx hb hts in_X6_countRows_X6 hown hK hP 0 rfl rfl 7 (by decide) (hts _ wd_X6_countRows_0) (fun _ h9 => h9) rfl dX6_countRows_10 ?_
  refine lv_iload_n hx hb dX6_countRows_13 rfl (lv_at hl 0 rfl) ?_
  refine va_aldq hx hb hK hP 1 0 rfl rfl (vp_in_iff.mpr ⟨by decide, by decide⟩) dX6_countRows_14 ?_
  refine W.eq (g2 := F0 m 15 ls (.ref r3 :: [])) (by rw [show fr (3 : Int32).toNatClampNeg = some r3 from hf3]; rfl) ?_
  refine va_get (D := (dC, dI)) (ci := 5) (v := .int 0) (C := RX5) (T := TX5) (N := 4) hx hb hts in_X6_countRows_X5 hown hK hP 8 rfl rfl 0 (by decide) (hts _ wd_X6_countRows_1) (fun _ h9 => h9) rfl dX6_countRows_15 ?_
  refine lv_if_eq (tgt := 24) hx hb dX6_countRows_18 (by decide) (fun _ => ?_) (fun h => absurd (by decide) h)
  refine lv_iinc (v := 4) (lv' := [(2, .int 4), (1, .int 0), (0, .ref h0)]) hx hb dX6_countRows_24 hl (k := 0) rfl (by decide) (by decide) rfl (fun ls hl => ?_)
  refine lv_goto (tgt := 4) hx hb dX6_countRows_27 (by decide) ?_
  refine lv_iload_n hx hb dX6_countRows_4 rfl (lv_at hl 0 rfl) ?_
  refine lv_iconst (v := 4) hx hb dX6_countRows_5 (by decide) ?_
  refine lv_icmp_ge (tgt := 30) hx hb dX6_countRows_6 (by decide) (fun _ => ?_) (fun h => absurd (by decide) h)
  refine lv_iload_n hx hb dX6_countRows_30 rfl (lv_at hl 1 rfl) ?_
  refine W.widen (k := 0) (n := 0) (by omega) (by omega) ?_
  exact W.iret (v := 0) hx hb hr (fun t ht hW => ⟨⟨0, (), rfl, (by first | rfl | ((repeat' split) <;> (first | rfl | (exfalso; omega)))), trivial⟩, hS.F ht⟩) hS.2.2 dX6_countRows_31

theorem dJ13_bitCount_95d88_0 : decode cJ13_bitCount_95d88 0 = .ok (.lload_n 0, 1) := by decide +kernel
theorem dJ13_bitCount_95d88_1 : decode cJ13_bitCount_95d88 1 = .ok (.lload_n 0, 1) := by decide +kernel
theorem dJ13_bitCount_95d88_2 : decode cJ13_bitCount_95d88 2 = .ok (.iconst 1, 1) := by decide +kernel
theorem dJ13_bitCount_95d88_3 : decode cJ13_bitCount_95d88 3 = .ok (.lushr, 1) := by decide +kernel
theorem dJ13_bitCount_95d88_4 : decode cJ13_bitCount_95d88 4 = .ok (.ldc2_w 314, 3) := by decide +kernel
theorem dJ13_bitCount_95d88_7 : decode cJ13_bitCount_95d88 7 = .ok (.land, 1) := by decide +kernel
theorem dJ13_bitCount_95d88_8 : decode cJ13_bitCount_95d88 8 = .ok (.lsub, 1) := by decide +kernel
theorem dJ13_bitCount_95d88_9 : decode cJ13_bitCount_95d88 9 = .ok (.lstore_n 0, 1) := by decide +kernel
theorem dJ13_bitCount_95d88_10 : decode cJ13_bitCount_95d88 10 = .ok (.lload_n 0, 1) := by decide +kernel
theorem dJ13_bitCount_95d88_11 : decode cJ13_bitCount_95d88 11 = .ok (.ldc2_w 316, 3) := by decide +kernel
theorem dJ13_bitCount_95d88_14 : decode cJ13_bitCount_95d88 14 = .ok (.land, 1) := by decide +kernel
theorem dJ13_bitCount_95d88_15 : decode cJ13_bitCount_95d88 15 = .ok (.lload_n 0, 1) := by decide +kernel
theorem dJ13_bitCount_95d88_16 : decode cJ13_bitCount_95d88 16 = .ok (.iconst 2, 1) := by decide +kernel
theorem dJ13_bitCount_95d88_17 : decode cJ13_bitCount_95d88 17 = .ok (.lushr, 1) := by decide +kernel
theorem dJ13_bitCount_95d88_18 : decode cJ13_bitCount_95d88 18 = .ok (.ldc2_w 316, 3) := by decide +kernel
theorem dJ13_bitCount_95d88_21 : decode cJ13_bitCount_95d88 21 = .ok (.land, 1) := by decide +kernel
theorem dJ13_bitCount_95d88_22 : decode cJ13_bitCount_95d88 22 = .ok (.ladd, 1) := by decide +kernel
theorem dJ13_bitCount_95d88_23 : decode cJ13_bitCount_95d88 23 = .ok (.lstore_n 0, 1) := by decide +kernel
theorem dJ13_bitCount_95d88_24 : decode cJ13_bitCount_95d88 24 = .ok (.lload_n 0, 1) := by decide +kernel
theorem dJ13_bitCount_95d88_25 : decode cJ13_bitCount_95d88 25 = .ok (.lload_n 0, 1) := by decide +kernel
theorem dJ13_bitCount_95d88_26 : decode cJ13_bitCount_95d88 26 = .ok (.iconst 4, 1) := by decide +kernel
theorem dJ13_bitCount_95d88_27 : decode cJ13_bitCount_95d88 27 = .ok (.lushr, 1) := by decide +kernel
theorem dJ13_bitCount_95d88_28 : decode cJ13_bitCount_95d88 28 = .ok (.ladd, 1) := by decide +kernel
theorem dJ13_bitCount_95d88_29 : decode cJ13_bitCount_95d88 29 = .ok (.ldc2_w 318, 3) := by decide +kernel
theorem dJ13_bitCount_95d88_32 : decode cJ13_bitCount_95d88 32 = .ok (.land, 1) := by decide +kernel
theorem dJ13_bitCount_95d88_33 : decode cJ13_bitCount_95d88 33 = .ok (.lstore_n 0, 1) := by decide +kernel
theorem dJ13_bitCount_95d88_34 : decode cJ13_bitCount_95d88 34 = .ok (.lload_n 0, 1) := by decide +kernel
theorem dJ13_bitCount_95d88_35 : decode cJ13_bitCount_95d88 35 = .ok (.lload_n 0, 1) := by decide +kernel
theorem dJ13_bitCount_95d88_36 : decode cJ13_bitCount_95d88 36 = .ok (.bipush 8, 2) := by decide +kernel
theorem dJ13_bitCount_95d88_38 : decode cJ13_bitCount_95d88 38 = .ok (.lushr, 1) := by decide +kernel
theorem dJ13_bitCount_95d88_39 : decode cJ13_bitCount_95d88 39 = .ok (.ladd, 1) := by decide +kernel
theorem dJ13_bitCount_95d88_40 : decode cJ13_bitCount_95d88 40 = .ok (.lstore_n 0, 1) := by decide +kernel
theorem dJ13_bitCount_95d88_41 : decode cJ13_bitCount_95d88 41 = .ok (.lload_n 0, 1) := by decide +kernel
theorem dJ13_bitCount_95d88_42 : decode cJ13_bitCount_95d88 42 = .ok (.lload_n 0, 1) := by decide +kernel
theorem dJ13_bitCount_95d88_43 : decode cJ13_bitCount_95d88 43 = .ok (.bipush 16, 2) := by decide +kernel
theorem dJ13_bitCount_95d88_45 : decode cJ13_bitCount_95d88 45 = .ok (.lushr, 1) := by decide +kernel
theorem dJ13_bitCount_95d88_46 : decode cJ13_bitCount_95d88 46 = .ok (.ladd, 1) := by decide +kernel
theorem dJ13_bitCount_95d88_47 : decode cJ13_bitCount_95d88 47 = .ok (.lstore_n 0, 1) := by decide +kernel
theorem dJ13_bitCount_95d88_48 : decode cJ13_bitCount_95d88 48 = .ok (.lload_n 0, 1) := by decide +kernel
theorem dJ13_bitCount_95d88_49 : decode cJ13_bitCount_95d88 49 = .ok (.lload_n 0, 1) := by decide +kernel
theorem dJ13_bitCount_95d88_50 : decode cJ13_bitCount_95d88 50 = .ok (.bipush 32, 2) := by decide +kernel
theorem dJ13_bitCount_95d88_52 : decode cJ13_bitCount_95d88 52 = .ok (.lushr, 1) := by decide +kernel
theorem dJ13_bitCount_95d88_53 : decode cJ13_bitCount_95d88 53 = .ok (.ladd, 1) := by decide +kernel
theorem dJ13_bitCount_95d88_54 : decode cJ13_bitCount_95d88 54 = .ok (.lstore_n 0, 1) := by decide +kernel
theorem dJ13_bitCount_95d88_55 : decode cJ13_bitCount_95d88 55 = .ok (.lload_n 0, 1) := by decide +kernel
theorem dJ13_bitCount_95d88_56 : decode cJ13_bitCount_95d88 56 = .ok (.l2i, 1) := by decide +kernel
theorem dJ13_bitCount_95d88_57 : decode cJ13_bitCount_95d88 57 = .ok (.bipush 127, 2) := by decide +kernel
theorem dJ13_bitCount_95d88_59 : decode cJ13_bitCount_95d88 59 = .ok (.iand, 1) := by decide +kernel
theorem dJ13_bitCount_95d88_60 : decode cJ13_bitCount_95d88 60 = .ok (.ireturn, 1) := by decide +kernel
def wz_J13_bitCount_95d88 : List Cond := .code yJ13_bitCount_95d88 cJ13_bitCount_95d88 2 (some .int) :: ([Cond.constantLong RJ13 314 (6148914691236517205), Cond.constantLong RJ13 316 (3689348814741910323), Cond.constantLong RJ13 318 (1085102592571150095)])
theorem wd_J13_bitCount_95d88_0 : Cond.constantLong RJ13 314 (6148914691236517205) ∈ wz_J13_bitCount_95d88 := List.mem_of_getElem? (i := 1) rfl
theorem wd_J13_bitCount_95d88_1 : Cond.constantLong RJ13 316 (3689348814741910323) ∈ wz_J13_bitCount_95d88 := List.mem_of_getElem? (i := 2) rfl
theorem wd_J13_bitCount_95d88_2 : Cond.constantLong RJ13 318 (1085102592571150095) ∈ wz_J13_bitCount_95d88 := List.mem_of_getElem? (i := 3) rfl
set_option maxHeartbeats 4000000 in
set_option maxRecDepth 100000 in
theorem c_J13_bitCount_95d88 (l : Launch) (dC : Nat → ClassId) (dI : Nat → Nat → Nat) (sz : Nat)   : Met l yJ13_bitCount_95d88 wz_J13_bitCount_95d88 ({ frames := 0, cells := 0, slots := 0, locals := 0 }) (va_Pc [.long 0] (fun U => U.heap.size = sz ∧ va_P (dC, dI) vwCl [] U.heap ∧ va_K (dC, dI) vwCl [] U ∧ va_D (fun _ => True) [])) (va_Qi (fun (r : Int32) (u : Unit) => r = 0) (fun (_ : Unit) (_ : State) => True) (va_A [] sz)) 0 0 (va_A [] sz) := by
  refine Met.ofW (cc := cJ13_bitCount_95d88) (maxL := 2) (ret := (some .int)) (by decide) rfl ?_
  intro p e s m args below meth c s₁ B hml hv
  obtain ⟨rfl, hsz, hP, hK, hD0⟩ := hv
  have hx := B.exec
  have hb := B.bytes
  have hr := B.returns
  have hts := atoms_spec (ws := wz_J13_bitCount_95d88) B.pre
  have hown : s.vm.findClass RJ13 = some m.cls := findClass_of_methodNamed B.named
  have hlocks := B.notSynchronized
  subst hsz
  have hD := hD0.self (sz := s.heap.size)
  generalize hAe : va_A [] s.heap.size = A at hD ⊢
  have hA : ∀ q : Nat, s.heap.size ≤ q → A q := fun q h => by rw [← hAe]; exact Or.inr h
  have hS : va_S A s.heap s.heap [] := va_S.rf
  have hP : va_P (dC, dI) vwCl [] s.heap := hP
  have hl := lv_entry ([.long 0]) (n := 2) (Nat.le_of_ble_eq_true rfl)
  rw [lg_entry_eq]
  generalize (lg_sl ([.long 0]) ++ List.replicate (2 - (lg_sl ([.long 0])).length) Slot.unset).toArray = ls at hl ⊢
  have hl : lv_has ls 2 [(0, .long 0)] := hl
  refine lv_lload_n hx hb dJ13_bitCount_95d88_0 rfl (lv_at hl 0 rfl) ?_
  refine lv_lload_n hx hb dJ13_bitCount_95d88_1 rfl (lv_at hl 0 rfl) ?_
  refine lv_iconst (v := 1) hx hb dJ13_bitCount_95d88_2 (by decide) ?_
  refine lv_lushr (v := 0) hx hb dJ13_bitCount_95d88_3 (by decide) ?_
  refine lv_ldc2 hx hb hown (hts _ wd_J13_bitCount_95d88_0) dJ13_bitCount_95d88_4 ?_
  refine lv_land hx hb dJ13_bitCount_95d88_7 ?_
  refine lv_topl (fun z_1 ez_1 => ?_)
  obtain rfl : z_1 = 0 := ez_1.trans (by decide)
  refine lv_lsub hx hb dJ13_bitCount_95d88_8 ?_
  refine lv_topl (fun z_2 ez_2 => ?_)
  obtain rfl : z_2 = 0 := ez_2.trans (by decide)
  refine lv_lstore_n (lv' := [(0, .long 0)]) hx hb dJ13_bitCount_95d88_9 rfl hl (by decide) rfl (fun ls hl => ?_)
  refine lv_lload_n hx hb dJ13_bitCount_95d88_10 rfl (lv_at hl 0 rfl) ?_
  refine lv_ldc2 hx hb hown (hts _ wd_J13_bitCount_95d88_1) dJ13_bitCount_95d88_11 ?_
  refine lv_land hx hb dJ13_bitCount_95d88_14 ?_
  refine lv_topl (fun z_3 ez_3 => ?_)
  obtain rfl : z_3 = 0 := ez_3.trans (by decide)
  refine lv_lload_n hx hb dJ13_bitCount_95d88_15 rfl (lv_at hl 0 rfl) ?_
  refine lv_iconst (v := 2) hx hb dJ13_bitCount_95d88_16 (by decide) ?_
  refine lv_lushr (v := 0) hx hb dJ13_bitCount_95d88_17 (by decide) ?_
  refine lv_ldc2 hx hb hown (hts _ wd_J13_bitCount_95d88_1) dJ13_bitCount_95d88_18 ?_
  refine lv_land hx hb dJ13_bitCount_95d88_21 ?_
  refine lv_topl (fun z_4 ez_4 => ?_)
  obtain rfl : z_4 = 0 := ez_4.trans (by decide)
  refine lv_ladd hx hb dJ13_bitCount_95d88_22 ?_
  refine lv_topl (fun z_5 ez_5 => ?_)
  obtain rfl : z_5 = 0 := ez_5.trans (by decide)
  refine lv_lstore_n (lv' := [(0, .long 0)]) hx hb dJ13_bitCount_95d88_23 rfl hl (by decide) rfl (fun ls hl => ?_)
  refine lv_lload_n hx hb dJ13_bitCount_95d88_24 rfl (lv_at hl 0 rfl) ?_
  refine lv_lload_n hx hb dJ13_bitCount_95d88_25 rfl (lv_at hl 0 rfl) ?_
  refine lv_iconst (v := 4) hx hb dJ13_bitCount_95d88_26 (by decide) ?_
  refine lv_lushr (v := 0) hx hb dJ13_bitCount_95d88_27 (by decide) ?_
  refine lv_ladd hx hb dJ13_bitCount_95d88_28 ?_
  refine lv_topl (fun z_6 ez_6 => ?_)
  obtain rfl : z_6 = 0 := ez_6.trans (by decide)
  refine lv_ldc2 hx hb hown (hts _ wd_J13_bitCount_95d88_2) dJ13_bitCount_95d88_29 ?_
  refine lv_land hx hb dJ13_bitCount_95d88_32 ?_
  refine lv_topl (fun z_7 ez_7 => ?_)
  obtain rfl : z_7 = 0 := ez_7.trans (by decide)
  refine lv_lstore_n (lv' := [(0, .long 0)]) hx hb dJ13_bitCount_95d88_33 rfl hl (by decide) rfl (fun ls hl => ?_)
  refine lv_lload_n hx hb dJ13_bitCount_95d88_34 rfl (lv_at hl 0 rfl) ?_
  refine lv_lload_n hx hb dJ13_bitCount_95d88_35 rfl (lv_at hl 0 rfl) ?_
  refine lv_bipush (v := 8) hx hb dJ13_bitCount_95d88_36 (by decide) ?_
  refine lv_lushr (v := 0) hx hb dJ13_bitCount_95d88_38 (by decide) ?_
  refine lv_ladd hx hb dJ13_bitCount_95d88_39 ?_
  refine lv_topl (fun z_8 ez_8 => ?_)
  obtain rfl : z_8 = 0 := ez_8.trans (by decide)
  refine lv_lstore_n (lv' := [(0, .long 0)]) hx hb dJ13_bitCount_95d88_40 rfl hl (by decide) rfl (fun ls hl => ?_)
  refine lv_lload_n hx hb dJ13_bitCount_95d88_41 rfl (lv_at hl 0 rfl) ?_
  refine lv_lload_n hx hb dJ13_bitCount_95d88_42 rfl (lv_at hl 0 rfl) ?_
  refine lv_bipush (v := 16) hx hb dJ13_bitCount_95d88_43 (by decide) ?_
  refine lv_lushr (v := 0) hx hb dJ13_bitCount_95d88_45 (by decide) ?_
  refine lv_ladd hx hb dJ13_bitCount_95d88_46 ?_
  refine lv_topl (fun z_9 ez_9 => ?_)
  obtain rfl : z_9 = 0 := ez_9.trans (by decide)
  refine lv_lstore_n (lv' := [(0, .long 0)]) hx hb dJ13_bitCount_95d88_47 rfl hl (by decide) rfl (fun ls hl => ?_)
  refine lv_lload_n hx hb dJ13_bitCount_95d88_48 rfl (lv_at hl 0 rfl) ?_
  refine lv_lload_n hx hb dJ13_bitCount_95d88_49 rfl (lv_at hl 0 rfl) ?_
  refine lv_bipush (v := 32) hx hb dJ13_bitCount_95d88_50 (by decide) ?_
  refine lv_lushr (v := 0) hx hb dJ13_bitCount_95d88_52 (by decide) ?_
  refine lv_ladd hx hb dJ13_bitCount_95d88_53 ?_
  refine lv_topl (fun z_10 ez_10 => ?_)
  obtain rfl : z_10 = 0 := ez_10.trans (by decide)
  refine lv_lstore_n (lv' := [(0, .long 0)]) hx hb dJ13_bitCount_95d88_54 rfl hl (by decide) rfl (fun ls hl => ?_)
  refine lv_lload_n hx hb dJ13_bitCount_95d88_55 rfl (lv_at hl 0 rfl) ?_
  refine lv_l2i (v := 0) hx hb dJ13_bitCount_95d88_56 (by decide) ?_
  refine lv_bipush (v := 127) hx hb dJ13_bitCount_95d88_57 (by decide) ?_
  refine lv_iand hx hb dJ13_bitCount_95d88_59 ?_
  refine lv_topi (fun z_11 ez_11 => ?_)
  obtain rfl : z_11 = 0 := ez_11.trans (by decide)
  refine W.widen (k := 0) (n := 0) (by omega) (by omega) ?_
  exact W.iret (v := 0) hx hb hr (fun t ht hW => ⟨⟨0, (), rfl, (by first | rfl | ((repeat' split) <;> (first | rfl | (exfalso; omega)))), trivial⟩, hS.F ht⟩) hS.2.2 dJ13_bitCount_95d88_60

theorem dX6_count_0 : decode cX6_count 0 = .ok (.iload_n 1, 1) := by decide +kernel
theorem dX6_count_1 : decode cX6_count 1 = .ok (.tableswitch 161 0 10 #[59, 70, 81, 92, 103, 111, 119, 127, 132, 148, 156], 59) := by decide +kernel
theorem dX6_count_60 : decode cX6_count 60 = .ok (.aload_n 0, 1) := by decide +kernel
theorem dX6_count_61 : decode cX6_count 61 = .ok (.getfield 33, 3) := by decide +kernel
theorem dX6_count_64 : decode cX6_count 64 = .ok (.getfield 90, 3) := by decide +kernel
theorem dX6_count_67 : decode cX6_count 67 = .ok (.getfield 326, 3) := by decide +kernel
theorem dX6_count_70 : decode cX6_count 70 = .ok (.ireturn, 1) := by decide +kernel
theorem dX6_count_71 : decode cX6_count 71 = .ok (.aload_n 0, 1) := by decide +kernel
theorem dX6_count_72 : decode cX6_count 72 = .ok (.getfield 33, 3) := by decide +kernel
theorem dX6_count_75 : decode cX6_count 75 = .ok (.getfield 90, 3) := by decide +kernel
theorem dX6_count_78 : decode cX6_count 78 = .ok (.getfield 329, 3) := by decide +kernel
theorem dX6_count_81 : decode cX6_count 81 = .ok (.ireturn, 1) := by decide +kernel
theorem dX6_count_82 : decode cX6_count 82 = .ok (.aload_n 0, 1) := by decide +kernel
theorem dX6_count_83 : decode cX6_count 83 = .ok (.getfield 33, 3) := by decide +kernel
theorem dX6_count_86 : decode cX6_count 86 = .ok (.getfield 117, 3) := by decide +kernel
theorem dX6_count_89 : decode cX6_count 89 = .ok (.invokestatic 165, 3) := by decide +kernel
theorem dX6_count_92 : decode cX6_count 92 = .ok (.ireturn, 1) := by decide +kernel
theorem dX6_count_93 : decode cX6_count 93 = .ok (.aload_n 0, 1) := by decide +kernel
theorem dX6_count_94 : decode cX6_count 94 = .ok (.getfield 33, 3) := by decide +kernel
theorem dX6_count_97 : decode cX6_count 97 = .ok (.getfield 125, 3) := by decide +kernel
theorem dX6_count_100 : decode cX6_count 100 = .ok (.invokestatic 165, 3) := by decide +kernel
theorem dX6_count_103 : decode cX6_count 103 = .ok (.ireturn, 1) := by decide +kernel
theorem dX6_count_104 : decode cX6_count 104 = .ok (.aload_n 0, 1) := by decide +kernel
theorem dX6_count_105 : decode cX6_count 105 = .ok (.getfield 33, 3) := by decide +kernel
theorem dX6_count_108 : decode cX6_count 108 = .ok (.getfield 284, 3) := by decide +kernel
theorem dX6_count_111 : decode cX6_count 111 = .ok (.ireturn, 1) := by decide +kernel
theorem dX6_count_112 : decode cX6_count 112 = .ok (.aload_n 0, 1) := by decide +kernel
theorem dX6_count_113 : decode cX6_count 113 = .ok (.getfield 33, 3) := by decide +kernel
theorem dX6_count_116 : decode cX6_count 116 = .ok (.getfield 258, 3) := by decide +kernel
theorem dX6_count_119 : decode cX6_count 119 = .ok (.ireturn, 1) := by decide +kernel
theorem dX6_count_120 : decode cX6_count 120 = .ok (.aload_n 0, 1) := by decide +kernel
theorem dX6_count_121 : decode cX6_count 121 = .ok (.getfield 33, 3) := by decide +kernel
theorem dX6_count_124 : decode cX6_count 124 = .ok (.getfield 83, 3) := by decide +kernel
theorem dX6_count_127 : decode cX6_count 127 = .ok (.ireturn, 1) := by decide +kernel
theorem dX6_count_128 : decode cX6_count 128 = .ok (.aload_n 0, 1) := by decide +kernel
theorem dX6_count_129 : decode cX6_count 129 = .ok (.getfield 13, 3) := by decide +kernel
theorem dX6_count_132 : decode cX6_count 132 = .ok (.ireturn, 1) := by decide +kernel
theorem dX6_count_133 : decode cX6_count 133 = .ok (.aload_n 0, 1) := by decide +kernel
theorem dX6_count_134 : decode cX6_count 134 = .ok (.getfield 33, 3) := by decide +kernel
theorem dX6_count_137 : decode cX6_count 137 = .ok (.getfield 332, 3) := by decide +kernel
theorem dX6_count_140 : decode cX6_count 140 = .ok (.ifCond .eq 7, 3) := by decide +kernel
theorem dX6_count_147 : decode cX6_count 147 = .ok (.iconst 0, 1) := by decide +kernel
theorem dX6_count_148 : decode cX6_count 148 = .ok (.ireturn, 1) := by decide +kernel
theorem dX6_count_149 : decode cX6_count 149 = .ok (.aload_n 0, 1) := by decide +kernel
theorem dX6_count_150 : decode cX6_count 150 = .ok (.getfield 33, 3) := by decide +kernel
theorem dX6_count_153 : decode cX6_count 153 = .ok (.getfield 281, 3) := by decide +kernel
theorem dX6_count_156 : decode cX6_count 156 = .ok (.ireturn, 1) := by decide +kernel
theorem dX6_count_157 : decode cX6_count 157 = .ok (.aload_n 0, 1) := by decide +kernel
theorem dX6_count_158 : decode cX6_count 158 = .ok (.invokevirtual 335, 3) := by decide +kernel
theorem dX6_count_161 : decode cX6_count 161 = .ok (.ireturn, 1) := by decide +kernel
theorem dX6_count_162 : decode cX6_count 162 = .ok (.iconst (-1), 1) := by decide +kernel
theorem dX6_count_163 : decode cX6_count 163 = .ok (.ireturn, 1) := by decide +kernel
def wz_X6_count : List Cond := .code yX6_count cX6_count 2 (some .int) :: ([Cond.fieldLink RX6 33 "HedgeMaze" "garden" "LHedgeMaze$Garden;", Cond.fieldLink RX6 90 "HedgeMaze$Garden" "plan" "LHedgeMaze$Plan;", Cond.fieldLink RX6 326 "HedgeMaze$Plan" "wide" "I", Cond.fieldLink RX6 329 "HedgeMaze$Plan" "deep" "I", Cond.fieldLink RX6 117 "HedgeMaze$Garden" "hedges" "J", Cond.fieldLink RX6 125 "HedgeMaze$Garden" "walls" "J", Cond.fieldLink RX6 284 "HedgeMaze$Garden" "gateCount" "I", Cond.fieldLink RX6 258 "HedgeMaze$Garden" "guestCount" "I", Cond.fieldLink RX6 83 "HedgeMaze$Garden" "lines" "I", Cond.fieldLink RX6 13 "HedgeMaze" "tapeSize" "I", Cond.fieldLink RX6 332 "HedgeMaze$Garden" "isNear" "Z", Cond.fieldLink RX6 281 "HedgeMaze$Garden" "letterCell" "I", Cond.methodLink RX6 165 yJ13_bitCount_95d88, Cond.static yJ13_bitCount_95d88, Cond.initialized RJ13, Cond.code yJ13_bitCount_95d88 cJ13_bitCount_95d88 2 (some .int), Cond.constantLong RJ13 314 (6148914691236517205), Cond.constantLong RJ13 316 (3689348814741910323), Cond.constantLong RJ13 318 (1085102592571150095), Cond.methodLink RX6 335 yX6_countRows, Cond.instanceMethod yX6_countRows, Cond.selects RX6 yX6_countRows yX6_countRows, Cond.initialized RX6, Cond.code yX6_countRows cX6_countRows 3 (some .int), Cond.fieldLink RX6 43 "HedgeMaze" "rows" "[LHedgeMaze$Row;", Cond.fieldLink RX6 214 "HedgeMaze$Row" "there" "Z"] ++ wsX60 ++ wsX00 ++ wsX30 ++ wsX50)
theorem wd_X6_count_0 : Cond.fieldLink RX6 33 "HedgeMaze" "garden" "LHedgeMaze$Garden;" ∈ wz_X6_count := List.mem_of_getElem? (i := 1) rfl
theorem wd_X6_count_1 : Cond.fieldLink RX6 90 "HedgeMaze$Garden" "plan" "LHedgeMaze$Plan;" ∈ wz_X6_count := List.mem_of_getElem? (i := 2) rfl
theorem wd_X6_count_2 : Cond.fieldLink RX6 326 "HedgeMaze$Plan" "wide" "I" ∈ wz_X6_count := List.mem_of_getElem? (i := 3) rfl
theorem wd_X6_count_3 : Cond.fieldLink RX6 329 "HedgeMaze$Plan" "deep" "I" ∈ wz_X6_count := List.mem_of_getElem? (i := 4) rfl
theorem wd_X6_count_4 : Cond.fieldLink RX6 117 "HedgeMaze$Garden" "hedges" "J" ∈ wz_X6_count := List.mem_of_getElem? (i := 5) rfl
theorem wd_X6_count_5 : Cond.fieldLink RX6 125 "HedgeMaze$Garden" "walls" "J" ∈ wz_X6_count := List.mem_of_getElem? (i := 6) rfl
theorem wd_X6_count_6 : Cond.fieldLink RX6 284 "HedgeMaze$Garden" "gateCount" "I" ∈ wz_X6_count := List.mem_of_getElem? (i := 7) rfl
theorem wd_X6_count_7 : Cond.fieldLink RX6 258 "HedgeMaze$Garden" "guestCount" "I" ∈ wz_X6_count := List.mem_of_getElem? (i := 8) rfl
theorem wd_X6_count_8 : Cond.fieldLink RX6 83 "HedgeMaze$Garden" "lines" "I" ∈ wz_X6_count := List.mem_of_getElem? (i := 9) rfl
theorem wd_X6_count_9 : Cond.fieldLink RX6 13 "HedgeMaze" "tapeSize" "I" ∈ wz_X6_count := List.mem_of_getElem? (i := 10) rfl
theorem wd_X6_count_10 : Cond.fieldLink RX6 332 "HedgeMaze$Garden" "isNear" "Z" ∈ wz_X6_count := List.mem_of_getElem? (i := 11) rfl
theorem wd_X6_count_11 : Cond.fieldLink RX6 281 "HedgeMaze$Garden" "letterCell" "I" ∈ wz_X6_count := List.mem_of_getElem? (i := 12) rfl
theorem in_X6_count_X6 : ∀ w ∈ wsX60, w ∈ wz_X6_count := fun _ h => List.mem_cons_of_mem _ (List.mem_append_left _ (List.mem_append_left _ (List.mem_append_left _ (List.mem_append_right _ h))))
theorem in_X6_count_X0 : ∀ w ∈ wsX00, w ∈ wz_X6_count := fun _ h => List.mem_cons_of_mem _ (List.mem_append_left _ (List.mem_append_left _ (List.mem_append_right _ h)))
theorem in_X6_count_X3 : ∀ w ∈ wsX30, w ∈ wz_X6_count := fun _ h => List.mem_cons_of_mem _ (List.mem_append_left _ (List.mem_append_right _ h))
set_option maxRecDepth 20000 in
theorem g_X6_count_J13_bitCount_95d88 : GoodIn wz_X6_count (va_wsS RX6 165 yJ13_bitCount_95d88 wz_J13_bitCount_95d88) := goodIn_r _ [13, 14, 15, 16, 17, 18, 19] rfl (by decide +kernel)
set_option maxRecDepth 20000 in
theorem g_X6_count_X6_countRows : GoodIn wz_X6_count (wsV RX6 335 RX6 yX6_countRows wz_X6_countRows) := goodIn_r _ [20, 21, 22, 23, 24, 25, 26, 27, 28, 29, 30, 31, 32, 33, 34, 35, 36, 37, 59, 60, 61, 62] rfl (by decide +kernel)
set_option maxHeartbeats 4000000 in
set_option maxRecDepth 100000 in
theorem c_X6_count (l : Launch) (dC : Nat → ClassId) (dI : Nat → Nat → Nat) (sz : Nat) (h0 : Nat) (tp : Nat) (rd : Nat) (gd : Nat) (im : Nat) (rw : Nat) (gn : Nat) (ho : Nat) (sq : Nat) (pl : Nat) (gdt : Nat) (gdu : Nat) (gdn : Nat) (plf : Nat) (plo : Nat) (plb : Nat) (pla : Nat) (cr : ClassId) (fr : Nat → Option Nat) (r0 : Nat) (r1 : Nat) (r2 : Nat) (r3 : Nat) (n0 : Nat) (n1 : Nat) (n2 : Nat) (n3 : Nat) (cl0 : ClassId) (cl1 : ClassId) (cl2 : ClassId) (cl3 : ClassId) (p0 : Int32) (hf0 : fr 0 = some r0) (hf1 : fr 1 = some r1) (hf2 : fr 2 = some r2) (hf3 : fr 3 = some r3) : Met l yX6_count wz_X6_count ({ frames := 1, cells := 0, slots := 0, locals := 22 }) (va_Pc [.ref h0, .int p0] (fun U => U.heap.size = sz ∧ va_P (dC, dI) vwCl [(h0, .inr (6, [.ref tp, .int 0, .int 0, .int (-1), .ref rd, .ref gd, .ref im, .ref rw, .ref gn, .ref ho, .ref sq])), (gd, .inr (0, [.ref pl, .int 0, .long 0, .long 0, .int 0, .int (-1), .int 0, .ref gdt, .int 0, .ref gdu, .int 0, .ref gdn])), (pl, .inr (3, [.int 0, .int 0, .int 0, .int 0, .long 0, .ref plf, .ref plo, .ref plb, .ref pla])), (rw, .inl (cr, 4, .inr (.inr (.inr (.inr fr))))), (r0, .inr (5, [.int 0, .int 0, .int 0, .ref n0])), (n0, .inl (cl0, 60, .inr (.inl (fun _ => 0)))), (r1, .inr (5, [.int 0, .int 0, .int 0, .ref n1])), (n1, .inl (cl1, 60, .inr (.inl (fun _ => 0)))), (r2, .inr (5, [.int 0, .int 0, .int 0, .ref n2])), (n2, .inl (cl2, 60, .inr (.inl (fun _ => 0)))), (r3, .inr (5, [.int 0, .int 0, .int 0, .ref n3])), (n3, .inl (cl3, 60, .inr (.inl (fun _ => 0))))] U.heap ∧ va_K (dC, dI) vwCl [(cr, .object RX5), (cl0, .long), (cl1, .long), (cl2, .long), (cl3, .long)] U ∧ va_D (fun _ => True) [(h0, .inr (6, [.ref tp, .int 0, .int 0, .int (-1), .ref rd, .ref gd, .ref im, .ref rw, .ref gn, .ref ho, .ref sq])), (gd, .inr (0, [.ref pl, .int 0, .long 0, .long 0, .int 0, .int (-1), .int 0, .ref gdt, .int 0, .ref gdu, .int 0, .ref gdn])), (pl, .inr (3, [.int 0, .int 0, .int 0, .int 0, .long 0, .ref plf, .ref plo, .ref plb, .ref pla])), (rw, .inl (cr, 4, .inr (.inr (.inr (.inr fr))))), (r0, .inr (5, [.int 0, .int 0, .int 0, .ref n0])), (n0, .inl (cl0, 60, .inr (.inl (fun _ => 0)))), (r1, .inr (5, [.int 0, .int 0, .int 0, .ref n1])), (n1, .inl (cl1, 60, .inr (.inl (fun _ => 0)))), (r2, .inr (5, [.int 0, .int 0, .int 0, .ref n2])), (n2, .inl (cl2, 60, .inr (.inl (fun _ => 0)))), (r3, .inr (5, [.int 0, .int 0, .int 0, .ref n3])), (n3, .inl (cl3, 60, .inr (.inl (fun _ => 0))))])) (va_Qi (fun (r : Int32) (u : Unit) => r = if (0 ≤ p0.toInt ∧ p0.toInt ≤ 8) ∨ p0.toInt = 10 then 0 else -1) (fun (_ : Unit) (_ : State) => True) (va_A [(h0, .inr (6, [.ref tp, .int 0, .int 0, .int (-1), .ref rd, .ref gd, .ref im, .ref rw, .ref gn, .ref ho, .ref sq])), (gd, .inr (0, [.ref pl, .int 0, .long 0, .long 0, .int 0, .int (-1), .int 0, .ref gdt, .int 0, .ref gdu, .int 0, .ref gdn])), (pl, .inr (3, [.int 0, .int 0, .int 0, .int 0, .long 0, .ref plf, .ref plo, .ref plb, .ref pla])), (rw, .inl (cr, 4, .inr (.inr (.inr (.inr fr))))), (r0, .inr (5, [.int 0, .int 0, .int 0, .ref n0])), (n0, .inl (cl0, 60, .inr (.inl (fun _ => 0)))), (r1, .inr (5, [.int 0, .int 0, .int 0, .ref n1])), (n1, .inl (cl1, 60, .inr (.inl (fun _ => 0)))), (r2, .inr (5, [.int 0, .int 0, .int 0, .ref n2])), (n2, .inl (cl2, 60, .inr (.inl (fun _ => 0)))), (r3, .inr (5, [.int 0, .int 0, .int 0, .ref n3])), (n3, .inl (cl3, 60, .inr (.inl (fun _ => 0))))] sz)) 0 0 (va_A [(h0, .inr (6, [.ref tp, .int 0, .int 0, .int (-1), .ref rd, .ref gd, .ref im, .ref rw, .ref gn, .ref ho, .ref sq])), (gd, .inr (0, [.ref pl, .int 0, .long 0, .long 0, .int 0, .int (-1), .int 0, .ref gdt, .int 0, .ref gdu, .int 0, .ref gdn])), (pl, .inr (3, [.int 0, .int 0, .int 0, .int 0, .long 0, .ref plf, .ref plo, .ref plb, .ref pla])), (rw, .inl (cr, 4, .inr (.inr (.inr (.inr fr))))), (r0, .inr (5, [.int 0, .int 0, .int 0, .ref n0])), (n0, .inl (cl0, 60, .inr (.inl (fun _ => 0)))), (r1, .inr (5, [.int 0, .int 0, .int 0, .ref n1])), (n1, .inl (cl1, 60, .inr (.inl (fun _ => 0)))), (r2, .inr (5, [.int 0, .int 0, .int 0, .ref n2])), (n2, .inl (cl2, 60, .inr (.inl (fun _ => 0)))), (r3, .inr (5, [.int 0, .int 0, .int 0, .ref n3])), (n3, .inl (cl3, 60, .inr (.inl (fun _ => 0))))] sz) := by
  refine Met.ofW (cc := cX6_count) (maxL := 2) (ret := (some .int)) (by decide) rfl ?_
  intro p e s m args below meth c s₁ B hml hv
  obtain ⟨rfl, hsz, hP, hK, hD0⟩ := hv
  have hx := B.exec
  have hb := B.bytes
  have hr := B.returns
  have hts := atoms_spec (ws := wz_X6_count) B.pre
  have hown : s.vm.findClass RX6 = some m.cls := findClass_of_methodNamed B.named
  have hlocks := B.notSynchronized
  subst hsz
  have hD := hD0.self (sz := s.heap.size)
  generalize hAe : va_A [(h0, .inr (6, [.ref tp, .int 0, .int 0, .int (-1), .ref rd, .ref gd, .ref im, .ref rw, .ref gn, .ref ho, .ref sq])), (gd, .inr (0, [.ref pl, .int 0, .long 0, .long 0, .int 0, .int (-1), .int 0, .ref gdt, .int 0, .ref gdu, .int 0, .ref gdn])), (pl, .inr (3, [.int 0, .int 0, .int 0, .int 0, .long 0, .ref plf, .ref plo, .ref plb, .ref pla])), (rw, .inl (cr, 4, .inr (.inr (.inr (.inr fr))))), (r0, .inr (5, [.int 0, .int 0, .int 0, .ref n0])), (n0, .inl (cl0, 60, .inr (.inl (fun _ => 0)))), (r1, .inr (5, [.int 0, .int 0, .int 0, .ref n1])), (n1, .inl (cl1, 60, .inr (.inl (fun _ => 0)))), (r2, .inr (5, [.int 0, .int 0, .int 0, .ref n2])), (n2, .inl (cl2, 60, .inr (.inl (fun _ => 0)))), (r3, .inr (5, [.int 0, .int 0, .int 0, .ref n3])), (n3, .inl (cl3, 60, .inr (.inl (fun _ => 0))))] s.heap.size = A at hD ⊢
  have hA : ∀ q : Nat, s.heap.size ≤ q → A q := fun q h => by rw [← hAe]; exact Or.inr h
  have hS : va_S A s.heap s.heap [] := va_S.rf
  have hP : va_P (dC, dI) vwCl [(h0, .inr (6, [.ref tp, .int 0, .int 0, .int (-1), .ref rd, .ref gd, .ref im, .ref rw, .ref gn, .ref ho, .ref sq])), (gd, .inr (0, [.ref pl, .int 0, .long 0, .long 0, .int 0, .int (-1), .int 0, .ref gdt, .int 0, .ref gdu, .int 0, .ref gdn])), (pl, .inr (3, [.int 0, .int 0, .int 0, .int 0, .long 0, .ref plf, .ref plo, .ref plb, .ref pla])), (rw, .inl (cr, 4, .inr (.inr (.inr (.inr fr))))), (r0, .inr (5, [.int 0, .int 0, .int 0, .ref n0])), (n0, .inl (cl0, 60, .inr (.inl (fun _ => 0)))), (r1, .inr (5, [.int 0, .int 0, .int 0, .ref n1])), (n1, .inl (cl1, 60, .inr (.inl (fun _ => 0)))), (r2, .inr (5, [.int 0, .int 0, .int 0, .ref n2])), (n2, .inl (cl2, 60, .inr (.inl (fun _ => 0)))), (r3, .inr (5, [.int 0, .int 0, .int 0, .ref n3])), (n3, .inl (cl3, 60, .inr (.inl (fun _ => 0))))] s.heap := hP
  have hl := lv_entry ([.ref h0, .int p0]) (n := 2) (Nat.le_of_ble_eq_true rfl)
  rw [lg_entry_eq]
  generalize (lg_sl ([.ref h0, .int p0]) ++ List.replicate (2 - (lg_sl ([.ref h0, .int p0])).length) Slot.unset).toArray = ls at hl ⊢
  have hl : lv_has ls 2 [(0, .ref h0), (1, .int p0)] := hl
  refine lv_iload_n hx hb dX6_count_0 rfl (lv_at hl 1 rfl) ?_
  rcases i_sw (a := p0) rfl (lo := 0) (hi := 10) with hsw | hsw | hsw
  · refine lv_tableOut (tgt := 162) hx hb dX6_count_1 (Or.inl (i_clo rfl hsw)) (by decide) ?_
    refine lv_iconst (v := -1) hx hb dX6_count_162 (by decide) ?_
    refine W.widen (k := 0) (n := 0) (by omega) (by omega) ?_
    exact W.iret (v := -1) hx hb hr (fun t ht hW => ⟨⟨(-1), (), rfl, (by first | rfl | ((repeat' split) <;> (first | rfl | (exfalso; omega)))), trivial⟩, hS.F ht⟩) hS.2.2 dX6_count_163
  · refine lv_tableOut (tgt := 162) hx hb dX6_count_1 (Or.inr (i_chi rfl hsw)) (by decide) ?_
    refine lv_iconst (v := -1) hx hb dX6_count_162 (by decide) ?_
    refine W.widen (k := 0) (n := 0) (by omega) (by omega) ?_
    exact W.iret (v := -1) hx hb hr (fun t ht hW => ⟨⟨(-1), (), rfl, (by first | rfl | ((repeat' split) <;> (first | rfl | (exfalso; omega)))), trivial⟩, hS.F ht⟩) hS.2.2 dX6_count_163
  · have hsw2 : p0.toInt = 0 ∨ p0.toInt = 1 ∨ p0.toInt = 2 ∨ p0.toInt = 3 ∨ p0.toInt = 4 ∨ p0.toInt = 5 ∨ p0.toInt = 6 ∨ p0.toInt = 7 ∨ p0.toInt = 8 ∨ p0.toInt = 9 ∨ p0.toInt = 10 := by omega
    rcases hsw2 with hsw2 | hsw2 | hsw2 | hsw2 | hsw2 | hsw2 | hsw2 | hsw2 | hsw2 | hsw2 | hsw2
    · have hxz : p0.toInt = 0 := (rfl : p0.toInt = p0.toInt).trans hsw2
      refine lv_tableIn (off := 59) (tgt := 60) hx hb dX6_count_1 (by rw [hxz]; decide) (by rw [hxz]; decide) (by rw [hxz]; rfl) (by decide) ?_
      refine lv_aload_n hx hb dX6_count_60 rfl (lv_at hl 0 rfl) ?_
      refine va_get (D := (dC, dI)) (ci := 6) (v := .ref gd) (C := RX6) (T := TX6) (N := 11) hx hb hts in_X6_count_X6 hown hK hP 0 rfl rfl 5 (by decide) (hts _ wd_X6_count_0) (fun _ h9 => h9) rfl dX6_count_61 ?_
      refine va_get (D := (dC, dI)) (ci := 0) (v := .ref pl) (C := RX0) (T := TX0) (N := 12) hx hb hts in_X6_count_X0 hown hK hP 1 rfl rfl 0 (by decide) (hts _ wd_X6_count_1) (fun _ h9 => h9) rfl dX6_count_64 ?_
      refine va_get (D := (dC, dI)) (ci := 3) (v := .int 0) (C := RX3) (T := TX3) (N := 9) hx hb hts in_X6_count_X3 hown hK hP 2 rfl rfl 0 (by decide) (hts _ wd_X6_count_2) (fun _ h9 => h9) rfl dX6_count_67 ?_
      refine W.widen (k := 0) (n := 0) (by omega) (by omega) ?_
      exact W.iret (v := 0) hx hb hr (fun t ht hW => ⟨⟨0, (), rfl, (by first | rfl | ((repeat' split) <;> (first | rfl | (exfalso; omega)))), trivial⟩, hS.F ht⟩) hS.2.2 dX6_count_70
    · have hxz : p0.toInt = 1 := (rfl : p0.toInt = p0.toInt).trans hsw2
      refine lv_tableIn (off := 70) (tgt := 71) hx hb dX6_count_1 (by rw [hxz]; decide) (by rw [hxz]; decide) (by rw [hxz]; rfl) (by decide) ?_
      refine lv_aload_n hx hb dX6_count_71 rfl (lv_at hl 0 rfl) ?_
      refine va_get (D := (dC, dI)) (ci := 6) (v := .ref gd) (C := RX6) (T := TX6) (N := 11) hx hb hts in_X6_count_X6 hown hK hP 0 rfl rfl 5 (by decide) (hts _ wd_X6_count_0) (fun _ h9 => h9) rfl dX6_count_72 ?_
      refine va_get (D := (dC, dI)) (ci := 0) (v := .ref pl) (C := RX0) (T := TX0) (N := 12) hx hb hts in_X6_count_X0 hown hK hP 1 rfl rfl 0 (by decide) (hts _ wd_X6_count_1) (fun _ h9 => h9) rfl dX6_count_75 ?_
      refine va_get (D := (dC, dI)) (ci := 3) (v := .int 0) (C := RX3) (T := TX3) (N := 9) hx hb hts in_X6_count_X3 hown hK hP 2 rfl rfl 1 (by decide) (hts _ wd_X6_count_3) (fun _ h9 => h9) rfl dX6_count_78 ?_
      refine W.widen (k := 0) (n := 0) (by omega) (by omega) ?_
      exact W.iret (v := 0) hx hb hr (fun t ht hW => ⟨⟨0, (), rfl, (by first | rfl | ((repeat' split) <;> (first | rfl | (exfalso; omega)))), trivial⟩, hS.F ht⟩) hS.2.2 dX6_count_81
    · have hxz : p0.toInt = 2 := (rfl : p0.toInt = p0.toInt).trans hsw2
      refine lv_tableIn (off := 81) (tgt := 82) hx hb dX6_count_1 (by rw [hxz]; decide) (by rw [hxz]; decide) (by rw [hxz]; rfl) (by decide) ?_
      refine lv_aload_n hx hb dX6_count_82 rfl (lv_at hl 0 rfl) ?_
      refine va_get (D := (dC, dI)) (ci := 6) (v := .ref gd) (C := RX6) (T := TX6) (N := 11) hx hb hts in_X6_count_X6 hown hK hP 0 rfl rfl 5 (by decide) (hts _ wd_X6_count_0) (fun _ h9 => h9) rfl dX6_count_83 ?_
      refine va_get (D := (dC, dI)) (ci := 0) (v := .long 0) (C := RX0) (T := TX0) (N := 12) hx hb hts in_X6_count_X0 hown hK hP 1 rfl rfl 2 (by decide) (hts _ wd_X6_count_4) (fun _ h9 => h9) rfl dX6_count_86 ?_
      have hPc := hP.sub (ws' := []) [] rfl
      have hDc := hD.sub (ws' := []) [] (by decide) rfl
      have hKc := hK.sub (tys' := []) [] rfl
      have hFc := va_free (wc := []) hD hS hA [] rfl
      refine va_calli (va_runS (As := [.long 0]) (rest := []) ⟨hx, hb, hml, hown, hts⟩ (c_J13_bitCount_95d88 l dC dI s.heap.size  ) (va_cwS 1 hts g_X6_count_J13_bitCount_95d88 rfl rfl rfl (by decide +kernel) ⟨Nat.le_of_ble_eq_true rfl, Nat.le_of_ble_eq_true rfl⟩) ⟨fun a U g mk q => by obtain ⟨q0, q1, qP, qK, qD⟩ := q; exact ⟨q0, q1, qP, va_K.moved (u := U) (U := U.calling g mk a) (Vm.Alike.refl U.vm) qK, qD⟩, fun U hU hW => ⟨rfl, by rw [hU], by rw [hU]; exact hPc, va_K.moved hW.alike hKc, hDc.weaken (fun _ _ _ _ => trivial)⟩⟩ rfl rfl hl.1 rfl (lv_room (Nat.le_of_ble_eq_true rfl)) dX6_count_89 ⟨Nat.le_of_ble_eq_true rfl, Nat.le_of_ble_eq_true rfl⟩) hS (fun q _ h => hFc q h) hFc (fun r_1 u t H1 locs ht hvm hw_2 hB hz1 hk1 hS => ?_)
      have hP1 : va_P (dC, dI) vwCl [] H1 := i_nilP
      have hD1 : va_D (va_A [] s.heap.size) [] := i_nilD
      try dsimp only at hw_2
      obtain ⟨hP, hD⟩ := va_join (wr := [(h0, .inr (6, [.ref tp, .int 0, .int 0, .int (-1), .ref rd, .ref gd, .ref im, .ref rw, .ref gn, .ref ho, .ref sq])), (gd, .inr (0, [.ref pl, .int 0, .long 0, .long 0, .int 0, .int (-1), .int 0, .ref gdt, .int 0, .ref gdu, .int 0, .ref gdn])), (pl, .inr (3, [.int 0, .int 0, .int 0, .int 0, .long 0, .ref plf, .ref plo, .ref plb, .ref pla])), (rw, .inl (cr, 4, .inr (.inr (.inr (.inr fr))))), (r0, .inr (5, [.int 0, .int 0, .int 0, .ref n0])), (n0, .inl (cl0, 60, .inr (.inl (fun _ => 0)))), (r1, .inr (5, [.int 0, .int 0, .int 0, .ref n1])), (n1, .inl (cl1, 60, .inr (.inl (fun _ => 0)))), (r2, .inr (5, [.int 0, .int 0, .int 0, .ref n2])), (n2, .inl (cl2, 60, .inr (.inl (fun _ => 0)))), (r3, .inr (5, [.int 0, .int 0, .int 0, .ref n3])), (n3, .inl (cl3, 60, .inr (.inl (fun _ => 0))))]) (w1 := []) hP hD [] [0, 1, 2, 3, 4, 5, 6, 7, 8, 9, 10, 11] rfl rfl (by decide) (by decide) hk1 hFc hP1 hD1
      generalize H1 = H at hP hS ⊢
      have hP : va_P (dC, dI) vwCl [(h0, .inr (6, [.ref tp, .int 0, .int 0, .int (-1), .ref rd, .ref gd, .ref im, .ref rw, .ref gn, .ref ho, .ref sq])), (gd, .inr (0, [.ref pl, .int 0, .long 0, .long 0, .int 0, .int (-1), .int 0, .ref gdt, .int 0, .ref gdu, .int 0, .ref gdn])), (pl, .inr (3, [.int 0, .int 0, .int 0, .int 0, .long 0, .ref plf, .ref plo, .ref plb, .ref pla])), (rw, .inl (cr, 4, .inr (.inr (.inr (.inr fr))))), (r0, .inr (5, [.int 0, .int 0, .int 0, .ref n0])), (n0, .inl (cl0, 60, .inr (.inl (fun _ => 0)))), (r1, .inr (5, [.int 0, .int 0, .int 0, .ref n1])), (n1, .inl (cl1, 60, .inr (.inl (fun _ => 0)))), (r2, .inr (5, [.int 0, .int 0, .int 0, .ref n2])), (n2, .inl (cl2, 60, .inr (.inl (fun _ => 0)))), (r3, .inr (5, [.int 0, .int 0, .int 0, .ref n3])), (n3, .inl (cl3, 60, .inr (.inl (fun _ => 0))))] H := hP
      have hD : va_D A [(h0, .inr (6, [.ref tp, .int 0, .int 0, .int (-1), .ref rd, .ref gd, .ref im, .ref rw, .ref gn, .ref ho, .ref sq])), (gd, .inr (0, [.ref pl, .int 0, .long 0, .long 0, .int 0, .int (-1), .int 0, .ref gdt, .int 0, .ref gdu, .int 0, .ref gdn])), (pl, .inr (3, [.int 0, .int 0, .int 0, .int 0, .long 0, .ref plf, .ref plo, .ref plb, .ref pla])), (rw, .inl (cr, 4, .inr (.inr (.inr (.inr fr))))), (r0, .inr (5, [.int 0, .int 0, .int 0, .ref n0])), (n0, .inl (cl0, 60, .inr (.inl (fun _ => 0)))), (r1, .inr (5, [.int 0, .int 0, .int 0, .ref n1])), (n1, .inl (cl1, 60, .inr (.inl (fun _ => 0)))), (r2, .inr (5, [.int 0, .int 0, .int 0, .ref n2])), (n2, .inl (cl2, 60, .inr (.inl (fun _ => 0)))), (r3, .inr (5, [.int 0, .int 0, .int 0, .ref n3])), (n3, .inl (cl3, 60, .inr (.inl (fun _ => 0))))] := hD
      obtain rfl : r_1 = 0 := hw_2
      refine W.widen (k := 0) (n := 0) (by omega) (by omega) ?_
      exact W.iret (v := 0) hx hb hr (fun t ht hW => ⟨⟨0, (), rfl, (by first | rfl | ((repeat' split) <;> (first | rfl | (exfalso; omega)))), trivial⟩, hS.F ht⟩) hS.2.2 dX6_count_92
    · have hxz : p0.toInt = 3 := (rfl : p0.toInt = p0.toInt).trans hsw2
      refine lv_tableIn (off := 92) (tgt := 93) hx hb dX6_count_1 (by rw [hxz]; decide) (by rw [hxz]; decide) (by rw [hxz]; rfl) (by decide) ?_
      refine lv_aload_n hx hb dX6_count_93 rfl (lv_at hl 0 rfl) ?_
      refine va_get (D := (dC, dI)) (ci := 6) (v := .ref gd) (C := RX6) (T := TX6) (N := 11) hx hb hts in_X6_count_X6 hown hK hP 0 rfl rfl 5 (by decide) (hts _ wd_X6_count_0) (fun _ h9 => h9) rfl dX6_count_94 ?_
      refine va_get (D := (dC, dI)) (ci := 0) (v := .long 0) (C := RX0) (T := TX0) (N := 12) hx hb hts in_X6_count_X0 hown hK hP 1 rfl rfl 3 (by decide) (hts _ wd_X6_count_5) (fun _ h9 => h9) rfl dX6_count_97 ?_
      have hPc := hP.sub (ws' := []) [] rfl
      have hDc := hD.sub (ws' := []) [] (by decide) rfl
      have hKc := hK.sub (tys' := []) [] rfl
      have hFc := va_free (wc := []) hD hS hA [] rfl
      refine va_calli (va_runS (As := [.long 0]) (rest := []) ⟨hx, hb, hml, hown, hts⟩ (c_J13_bitCount_95d88 l dC dI s.heap.size  ) (va_cwS 1 hts g_X6_count_J13_bitCount_95d88 rfl rfl rfl (by decide +kernel) ⟨Nat.le_of_ble_eq_true rfl, Nat.le_of_ble_eq_true rfl⟩) ⟨fun a U g mk q => by obtain ⟨q0, q1, qP, qK, qD⟩ := q; exact ⟨q0, q1, qP, va_K.moved (u := U) (U := U.calling g mk a) (Vm.Alike.refl U.vm) qK, qD⟩, fun U hU hW => ⟨rfl, by rw [hU], by rw [hU]; exact hPc, va_K.moved hW.alike hKc, hDc.weaken (fun _ _ _ _ => trivial)⟩⟩ rfl rfl hl.1 rfl (lv_room (Nat.le_of_ble_eq_true rfl)) dX6_count_100 ⟨Nat.le_of_ble_eq_true rfl, Nat.le_of_ble_eq_true rfl⟩) hS (fun q _ h => hFc q h) hFc (fun r_3 u t H1 locs ht hvm hw_4 hB hz1 hk1 hS => ?_)
      have hP1 : va_P (dC, dI) vwCl [] H1 := i_nilP
      have hD1 : va_D (va_A [] s.heap.size) [] := i_nilD
      try dsimp only at hw_4
      obtain ⟨hP, hD⟩ := va_join (wr := [(h0, .inr (6, [.ref tp, .int 0, .int 0, .int (-1), .ref rd, .ref gd, .ref im, .ref rw, .ref gn, .ref ho, .ref sq])), (gd, .inr (0, [.ref pl, .int 0, .long 0, .long 0, .int 0, .int (-1), .int 0, .ref gdt, .int 0, .ref gdu, .int 0, .ref gdn])), (pl, .inr (3, [.int 0, .int 0, .int 0, .int 0, .long 0, .ref plf, .ref plo, .ref plb, .ref pla])), (rw, .inl (cr, 4, .inr (.inr (.inr (.inr fr))))), (r0, .inr (5, [.int 0, .int 0, .int 0, .ref n0])), (n0, .inl (cl0, 60, .inr (.inl (fun _ => 0)))), (r1, .inr (5, [.int 0, .int 0, .int 0, .ref n1])), (n1, .inl (cl1, 60, .inr (.inl (fun _ => 0)))), (r2, .inr (5, [.int 0, .int 0, .int 0, .ref n2])), (n2, .inl (cl2, 60, .inr (.inl (fun _ => 0)))), (r3, .inr (5, [.int 0, .int 0, .int 0, .ref n3])), (n3, .inl (cl3, 60, .inr (.inl (fun _ => 0))))]) (w1 := []) hP hD [] [0, 1, 2, 3, 4, 5, 6, 7, 8, 9, 10, 11] rfl rfl (by decide) (by decide) hk1 hFc hP1 hD1
      generalize H1 = H at hP hS ⊢
      have hP : va_P (dC, dI) vwCl [(h0, .inr (6, [.ref tp, .int 0, .int 0, .int (-1), .ref rd, .ref gd, .ref im, .ref rw, .ref gn, .ref ho, .ref sq])), (gd, .inr (0, [.ref pl, .int 0, .long 0, .long 0, .int 0, .int (-1), .int 0, .ref gdt, .int 0, .ref gdu, .int 0, .ref gdn])), (pl, .inr (3, [.int 0, .int 0, .int 0, .int 0, .long 0, .ref plf, .ref plo, .ref plb, .ref pla])), (rw, .inl (cr, 4, .inr (.inr (.inr (.inr fr))))), (r0, .inr (5, [.int 0, .int 0, .int 0, .ref n0])), (n0, .inl (cl0, 60, .inr (.inl (fun _ => 0)))), (r1, .inr (5, [.int 0, .int 0, .int 0, .ref n1])), (n1, .inl (cl1, 60, .inr (.inl (fun _ => 0)))), (r2, .inr (5, [.int 0, .int 0, .int 0, .ref n2])), (n2, .inl (cl2, 60, .inr (.inl (fun _ => 0)))), (r3, .inr (5, [.int 0, .int 0, .int 0, .ref n3])), (n3, .inl (cl3, 60, .inr (.inl (fun _ => 0))))] H := hP
      have hD : va_D A [(h0, .inr (6, [.ref tp, .int 0, .int 0, .int (-1), .ref rd, .ref gd, .ref im, .ref rw, .ref gn, .ref ho, .ref sq])), (gd, .inr (0, [.ref pl, .int 0, .long 0, .long 0, .int 0, .int (-1), .int 0, .ref gdt, .int 0, .ref gdu, .int 0, .ref gdn])), (pl, .inr (3, [.int 0, .int 0, .int 0, .int 0, .long 0, .ref plf, .ref plo, .ref plb, .ref pla])), (rw, .inl (cr, 4, .inr (.inr (.inr (.inr fr))))), (r0, .inr (5, [.int 0, .int 0, .int 0, .ref n0])), (n0, .inl (cl0, 60, .inr (.inl (fun _ => 0)))), (r1, .inr (5, [.int 0, .int 0, .int 0, .ref n1])), (n1, .inl (cl1, 60, .inr (.inl (fun _ => 0)))), (r2, .inr (5, [.int 0, .int 0, .int 0, .ref n2])), (n2, .inl (cl2, 60, .inr (.inl (fun _ => 0)))), (r3, .inr (5, [.int 0, .int 0, .int 0, .ref n3])), (n3, .inl (cl3, 60, .inr (.inl (fun _ => 0))))] := hD
      obtain rfl : r_3 = 0 := hw_4
      refine W.widen (k := 0) (n := 0) (by omega) (by omega) ?_
      exact W.iret (v := 0) hx hb hr (fun t ht hW => ⟨⟨0, (), rfl, (by first | rfl | ((repeat' split) <;> (first | rfl | (exfalso; omega)))), trivial⟩, hS.F ht⟩) hS.2.2 dX6_count_103
    · have hxz : p0.toInt = 4 := (rfl : p0.toInt = p0.toInt).trans hsw2
      refine lv_tableIn (off := 103) (tgt := 104) hx hb dX6_count_1 (by rw [hxz]; decide) (by rw [hxz]; decide) (by rw [hxz]; rfl) (by decide) ?_
      refine lv_aload_n hx hb dX6_count_104 rfl (lv_at hl 0 rfl) ?_
      refine va_get (D := (dC, dI)) (ci := 6) (v := .ref gd) (C := RX6) (T := TX6) (N := 11) hx hb hts in_X6_count_X6 hown hK hP 0 rfl rfl 5 (by decide) (hts _ wd_X6_count_0) (fun _ h9 => h9) rfl dX6_count_105 ?_
      refine va_get (D := (dC, dI)) (ci := 0) (v := .int 0) (C := RX0) (T := TX0) (N := 12) hx hb hts in_X6_count_X0 hown hK hP 1 rfl rfl 6 (by decide) (hts _ wd_X6_count_6) (fun _ h9 => h9) rfl dX6_count_108 ?_
      refine W.widen (k := 0) (n := 0) (by omega) (by omega) ?_
      exact W.iret (v := 0) hx hb hr (fun t ht hW => ⟨⟨0, (), rfl, (by first | rfl | ((repeat' split) <;> (first | rfl | (exfalso; omega)))), trivial⟩, hS.F ht⟩) hS.2.2 dX6_count_111
    · have hxz : p0.toInt = 5 := (rfl : p0.toInt = p0.toInt).trans hsw2
      refine lv_tableIn (off := 111) (tgt := 112) hx hb dX6_count_1 (by rw [hxz]; decide) (by rw [hxz]; decide) (by rw [hxz]; rfl) (by decide) ?_
      refine lv_aload_n hx hb dX6_count_112 rfl (lv_at hl 0 rfl) ?_
      refine va_get (D := (dC, dI)) (ci := 6) (v := .ref gd) (C := RX6) (T := TX6) (N := 11) hx hb hts in_X6_count_X6 hown hK hP 0 rfl rfl 5 (by decide) (hts _ wd_X6_count_0) (fun _ h9 => h9) rfl dX6_count_113 ?_
      refine va_get (D := (dC, dI)) (ci := 0) (v := .int 0) (C := RX0) (T := TX0) (N := 12) hx hb hts in_X6_count_X0 hown hK hP 1 rfl rfl 8 (by decide) (hts _ wd_X6_count_7) (fun _ h9 => h9) rfl dX6_count_116 ?_
      refine W.widen (k := 0) (n := 0) (by omega) (by omega) ?_
      exact W.iret (v := 0) hx hb hr (fun t ht hW => ⟨⟨0, (), rfl, (by first | rfl | ((repeat' split) <;> (first | rfl | (exfalso; omega)))), trivial⟩, hS.F ht⟩) hS.2.2 dX6_count_119
    · have hxz : p0.toInt = 6 := (rfl : p0.toInt = p0.toInt).trans hsw2
      refine lv_tableIn (off := 119) (tgt := 120) hx hb dX6_count_1 (by rw [hxz]; decide) (by rw [hxz]; decide) (by rw [hxz]; rfl) (by decide) ?_
      refine lv_aload_n hx hb dX6_count_120 rfl (lv_at hl 0 rfl) ?_
      refine va_get (D := (dC, dI)) (ci := 6) (v := .ref gd) (C := RX6) (T := TX6) (N := 11) hx hb hts in_X6_count_X6 hown hK hP 0 rfl rfl 5 (by decide) (hts _ wd_X6_count_0) (fun _ h9 => h9) rfl dX6_count_121 ?_
      refine va_get (D := (dC, dI)) (ci := 0) (v := .int 0) (C := RX0) (T := TX0) (N := 12) hx hb hts in_X6_count_X0 hown hK hP 1 rfl rfl 1 (by decide) (hts _ wd_X6_count_8) (fun _ h9 => h9) rfl dX6_count_124 ?_
      refine W.widen (k := 0) (n := 0) (by omega) (by omega) ?_
      exact W.iret (v := 0) hx hb hr (fun t ht hW => ⟨⟨0, (), rfl, (by first | rfl | ((repeat' split) <;> (first | rfl | (exfalso; omega)))), trivial⟩, hS.F ht⟩) hS.2.2 dX6_count_127
    · have hxz : p0.toInt = 7 := (rfl : p0.toInt = p0.toInt).trans hsw2
      refine lv_tableIn (off := 127) (tgt := 128) hx hb dX6_count_1 (by rw [hxz]; decide) (by rw [hxz]; decide) (by rw [hxz]; rfl) (by decide) ?_
      refine lv_aload_n hx hb dX6_count_128 rfl (lv_at hl 0 rfl) ?_
      refine va_get (D := (dC, dI)) (ci := 6) (v := .int 0) (C := RX6) (T := TX6) (N := 11) hx hb hts in_X6_count_X6 hown hK hP 0 rfl rfl 1 (by decide) (hts _ wd_X6_count_9) (fun _ h9 => h9) rfl dX6_count_129 ?_
      refine W.widen (k := 0) (n := 0) (by omega) (by omega) ?_
      exact W.iret (v := 0) hx hb hr (fun t ht hW => ⟨⟨0, (), rfl, (by first | rfl | ((repeat' split) <;> (first | rfl | (exfalso; omega)))), trivial⟩, hS.F ht⟩) hS.2.2 dX6_count_132
    · have hxz : p0.toInt = 8 := (rfl : p0.toInt = p0.toInt).trans hsw2
      refine lv_tableIn (off := 132) (tgt := 133) hx hb dX6_count_1 (by rw [hxz]; decide) (by rw [hxz]; decide) (by rw [hxz]; rfl) (by decide) ?_
      refine lv_aload_n hx hb dX6_count_133 rfl (lv_at hl 0 rfl) ?_
      refine va_get (D := (dC, dI)) (ci := 6) (v := .ref gd) (C := RX6) (T := TX6) (N := 11) hx hb hts in_X6_count_X6 hown hK hP 0 rfl rfl 5 (by decide) (hts _ wd_X6_count_0) (fun _ h9 => h9) rfl dX6_count_134 ?_
      refine va_get (D := (dC, dI)) (ci := 0) (v := .int 0) (C := RX0) (T := TX0) (N := 12) hx hb hts in_X6_count_X0 hown hK hP 1 rfl rfl 4 (by decide) (hts _ wd_X6_count_10) (fun _ h9 => h9) rfl dX6_count_137 ?_
      refine lv_if_eq (tgt := 147) hx hb dX6_count_140 (by decide) (fun _ => ?_) (fun h => absurd (by decide) h)
      refine lv_iconst (v := 0) hx hb dX6_count_147 (by decide) ?_
      refine W.widen (k := 0) (n := 0) (by omega) (by omega) ?_
      exact W.iret (v := 0) hx hb hr (fun t ht hW => ⟨⟨0, (), rfl, (by first | rfl | ((repeat' split) <;> (first | rfl | (exfalso; omega)))), trivial⟩, hS.F ht⟩) hS.2.2 dX6_count_148
    · have hxz : p0.toInt = 9 := (rfl : p0.toInt = p0.toInt).trans hsw2
      refine lv_tableIn (off := 148) (tgt := 149) hx hb dX6_count_1 (by rw [hxz]; decide) (by rw [hxz]; decide) (by rw [hxz]; rfl) (by decide) ?_
      refine lv_aload_n hx hb dX6_count_149 rfl (lv_at hl 0 rfl) ?_
      refine va_get (D := (dC, dI)) (ci := 6) (v := .ref gd) (C := RX6) (T := TX6) (N := 11) hx hb hts in_X6_count_X6 hown hK hP 0 rfl rfl 5 (by decide) (hts _ wd_X6_count_0) (fun _ h9 => h9) rfl dX6_count_150 ?_
      refine va_get (D := (dC, dI)) (ci := 0) (v := .int (-1)) (C := RX0) (T := TX0) (N := 12) hx hb hts in_X6_count_X0 hown hK hP 1 rfl rfl 5 (by decide) (hts _ wd_X6_count_11) (fun _ h9 => h9) rfl dX6_count_153 ?_
      refine W.widen (k := 0) (n := 0) (by omega) (by omega) ?_
      exact W.iret (v := -1) hx hb hr (fun t ht hW => ⟨⟨(-1), (), rfl, (by first | rfl | ((repeat' split) <;> (first | rfl | (exfalso; omega)))), trivial⟩, hS.F ht⟩) hS.2.2 dX6_count_156
    · have hxz : p0.toInt = 10 := (rfl : p0.toInt = p0.toInt).trans hsw2
      refine lv_tableIn (off := 156) (tgt := 157) hx hb dX6_count_1 (by rw [hxz]; decide) (by rw [hxz]; decide) (by rw [hxz]; rfl) (by decide) ?_
      refine lv_aload_n hx hb dX6_count_157 rfl (lv_at hl 0 rfl) ?_
      have hPc := hP.sub (ws' := [(h0, .inr (6, [.ref tp, .int 0, .int 0, .int (-1), .ref rd, .ref gd, .ref im, .ref rw, .ref gn, .ref ho, .ref sq])), (rw, .inl (cr, 4, .inr (.inr (.inr (.inr fr))))), (r0, .inr (5, [.int 0, .int 0, .int 0, .ref n0])), (n0, .inl (cl0, 60, .inr (.inl (fun _ => 0)))), (r1, .inr (5, [.int 0, .int 0, .int 0, .ref n1])), (n1, .inl (cl1, 60, .inr (.inl (fun _ => 0)))), (r2, .inr (5, [.int 0, .int 0, .int 0, .ref n2])), (n2, .inl (cl2, 60, .inr (.inl (fun _ => 0)))), (r3, .inr (5, [.int 0, .int 0, .int 0, .ref n3])), (n3, .inl (cl3, 60, .inr (.inl (fun _ => 0))))]) [0, 3, 4, 5, 6, 7, 8, 9, 10, 11] rfl
      have hDc := hD.sub (ws' := [(h0, .inr (6, [.ref tp, .int 0, .int 0, .int (-1), .ref rd, .ref gd, .ref im, .ref rw, .ref gn, .ref ho, .ref sq])), (rw, .inl (cr, 4, .inr (.inr (.inr (.inr fr))))), (r0, .inr (5, [.int 0, .int 0, .int 0, .ref n0])), (n0, .inl (cl0, 60, .inr (.inl (fun _ => 0)))), (r1, .inr (5, [.int 0, .int 0, .int 0, .ref n1])), (n1, .inl (cl1, 60, .inr (.inl (fun _ => 0)))), (r2, .inr (5, [.int 0, .int 0, .int 0, .ref n2])), (n2, .inl (cl2, 60, .inr (.inl (fun _ => 0)))), (r3, .inr (5, [.int 0, .int 0, .int 0, .ref n3])), (n3, .inl (cl3, 60, .inr (.inl (fun _ => 0))))]) [0, 3, 4, 5, 6, 7, 8, 9, 10, 11] (by decide) rfl
      have hKc := hK.sub (tys' := [(cr, .object RX5), (cl0, .long), (cl1, .long), (cl2, .long), (cl3, .long)]) [0, 1, 2, 3, 4] rfl
      have hFc := va_free (wc := [(h0, .inr (6, [.ref tp, .int 0, .int 0, .int (-1), .ref rd, .ref gd, .ref im, .ref rw, .ref gn, .ref ho, .ref sq])), (rw, .inl (cr, 4, .inr (.inr (.inr (.inr fr))))), (r0, .inr (5, [.int 0, .int 0, .int 0, .ref n0])), (n0, .inl (cl0, 60, .inr (.inl (fun _ => 0)))), (r1, .inr (5, [.int 0, .int 0, .int 0, .ref n1])), (n1, .inl (cl1, 60, .inr (.inl (fun _ => 0)))), (r2, .inr (5, [.int 0, .int 0, .int 0, .ref n2])), (n2, .inl (cl2, 60, .inr (.inl (fun _ => 0)))), (r3, .inr (5, [.int 0, .int 0, .int 0, .ref n3])), (n3, .inl (cl3, 60, .inr (.inl (fun _ => 0))))]) hD hS hA [0, 3, 4, 5, 6, 7, 8, 9, 10, 11] rfl
      refine va_calli (va_runV (As := []) (rest := []) ⟨hx, hb, hml, hown, hts⟩ (c_X6_countRows l dC dI s.heap.size h0 tp rd gd im rw gn ho sq cr fr r0 r1 r2 r3 n0 n1 n2 n3 cl0 cl1 cl2 cl3 hf0 hf1 hf2 hf3) (cwV 0 hts g_X6_count_X6_countRows rfl rfl rfl (by decide +kernel) ⟨Nat.le_of_ble_eq_true rfl, Nat.le_of_ble_eq_true rfl⟩) ⟨fun a U g mk q => by obtain ⟨q0, q1, qP, qK, qD⟩ := q; exact ⟨q0, q1, qP, va_K.moved (u := U) (U := U.calling g mk a) (Vm.Alike.refl U.vm) qK, qD⟩, va_recv hKc hPc (ci := 6) (q0 := 0) rfl rfl, fun U hU hW => ⟨rfl, by rw [hU], by rw [hU]; exact hPc, va_K.moved hW.alike hKc, hDc.weaken (fun _ _ _ _ => trivial)⟩⟩ rfl rfl hl.1 rfl (lv_room (Nat.le_of_ble_eq_true rfl)) dX6_count_158 ⟨Nat.le_of_ble_eq_true rfl, Nat.le_of_ble_eq_true rfl⟩) hS (fun q _ h => hFc q h) hFc (fun r_6 u t H1 locs ht hvm hw_7 hB hz1 hk1 hS => ?_)
      have hP1 : va_P (dC, dI) vwCl [] H1 := i_nilP
      have hD1 : va_D (va_A [(h0, .inr (6, [.ref tp, .int 0, .int 0, .int (-1), .ref rd, .ref gd, .ref im, .ref rw, .ref gn, .ref ho, .ref sq])), (rw, .inl (cr, 4, .inr (.inr (.inr (.inr fr))))), (r0, .inr (5, [.int 0, .int 0, .int 0, .ref n0])), (n0, .inl (cl0, 60, .inr (.inl (fun _ => 0)))), (r1, .inr (5, [.int 0, .int 0, .int 0, .ref n1])), (n1, .inl (cl1, 60, .inr (.inl (fun _ => 0)))), (r2, .inr (5, [.int 0, .int 0, .int 0, .ref n2])), (n2, .inl (cl2, 60, .inr (.inl (fun _ => 0)))), (r3, .inr (5, [.int 0, .int 0, .int 0, .ref n3])), (n3, .inl (cl3, 60, .inr (.inl (fun _ => 0))))] s.heap.size) [] := i_nilD
      try dsimp only at hw_7
      obtain ⟨hP, hD⟩ := va_join (wr := [(gd, .inr (0, [.ref pl, .int 0, .long 0, .long 0, .int 0, .int (-1), .int 0, .ref gdt, .int 0, .ref gdu, .int 0, .ref gdn])), (pl, .inr (3, [.int 0, .int 0, .int 0, .int 0, .long 0, .ref plf, .ref plo, .ref plb, .ref pla]))]) (w1 := []) hP hD [0, 3, 4, 5, 6, 7, 8, 9, 10, 11] [1, 2] rfl rfl (by decide) (by decide) hk1 hFc hP1 hD1
      generalize H1 = H at hP hS ⊢
      have hP : va_P (dC, dI) vwCl [(gd, .inr (0, [.ref pl, .int 0, .long 0, .long 0, .int 0, .int (-1), .int 0, .ref gdt, .int 0, .ref gdu, .int 0, .ref gdn])), (pl, .inr (3, [.int 0, .int 0, .int 0, .int 0, .long 0, .ref plf, .ref plo, .ref plb, .ref pla]))] H := hP
      have hD : va_D A [(gd, .inr (0, [.ref pl, .int 0, .long 0, .long 0, .int 0, .int (-1), .int 0, .ref gdt, .int 0, .ref gdu, .int 0, .ref gdn])), (pl, .inr (3, [.int 0, .int 0, .int 0, .int 0, .long 0, .ref plf, .ref plo, .ref plb, .ref pla]))] := hD
      obtain rfl : r_6 = 0 := hw_7
      refine W.widen (k := 0) (n := 0) (by omega) (by omega) ?_
      exact W.iret (v := 0) hx hb hr (fun t ht hW => ⟨⟨0, (), rfl, (by first | rfl | ((repeat' split) <;> (first | rfl | (exfalso; omega)))), trivial⟩, hS.F ht⟩) hS.2.2 dX6_count_161

theorem dJ7_fill_53178_0 : decode cJ7_fill_53178 0 = .ok (.iconst 0, 1) := by decide +kernel
theorem dJ7_fill_53178_1 : decode cJ7_fill_53178 1 = .ok (.istore_n 2, 1) := by decide +kernel
theorem dJ7_fill_53178_2 : decode cJ7_fill_53178 2 = .ok (.aload_n 0, 1) := by decide +kernel
theorem dJ7_fill_53178_3 : decode cJ7_fill_53178 3 = .ok (.arraylength, 1) := by decide +kernel
theorem dJ7_fill_53178_4 : decode cJ7_fill_53178 4 = .ok (.istore_n 3, 1) := by decide +kernel
theorem dJ7_fill_53178_5 : decode cJ7_fill_53178 5 = .ok (.iload_n 2, 1) := by decide +kernel
theorem dJ7_fill_53178_6 : decode cJ7_fill_53178 6 = .ok (.iload_n 3, 1) := by decide +kernel
theorem dJ7_fill_53178_7 : decode cJ7_fill_53178 7 = .ok (.if_icmp .ge 13, 3) := by decide +kernel
theorem dJ7_fill_53178_10 : decode cJ7_fill_53178 10 = .ok (.aload_n 0, 1) := by decide +kernel
theorem dJ7_fill_53178_11 : decode cJ7_fill_53178 11 = .ok (.iload_n 2, 1) := by decide +kernel
theorem dJ7_fill_53178_12 : decode cJ7_fill_53178 12 = .ok (.iload_n 1, 1) := by decide +kernel
theorem dJ7_fill_53178_13 : decode cJ7_fill_53178 13 = .ok (.iastore, 1) := by decide +kernel
theorem dJ7_fill_53178_14 : decode cJ7_fill_53178 14 = .ok (.iinc 2 1, 3) := by decide +kernel
theorem dJ7_fill_53178_17 : decode cJ7_fill_53178 17 = .ok (.goto (-12), 3) := by decide +kernel
theorem dJ7_fill_53178_20 : decode cJ7_fill_53178 20 = .ok (.return_, 1) := by decide +kernel
def wz_J7_fill_53178 : List Cond := .code yJ7_fill_53178 cJ7_fill_53178 4 none :: ([])
set_option maxHeartbeats 4000000 in
set_option maxRecDepth 100000 in
/-- Arrays.fill of ints -/
theorem c_J7_fill_53178 (l : Launch) (dC : Nat → ClassId) (dI : Nat → Nat → Nat) (sz : Nat) (ra : Nat) (cA : ClassId) (n : Nat) (f : Nat → Int32) (p0 : Int32) (hn : n < 2147483648) : Met l yJ7_fill_53178 wz_J7_fill_53178 ({ frames := 0, cells := 0, slots := 0, locals := 0 }) (va_Pc [.ref ra, .int p0] (fun U => U.heap.size = sz ∧ va_P (dC, dI) vwCl [(ra, .inl (cA, n, .inl f))] U.heap ∧ va_K (dC, dI) vwCl [(cA, .int)] U ∧ va_D (fun _ => True) [(ra, .inl (cA, n, .inl f))])) (va_Qv (fun (u : (Nat → Int32)) => True) (fun (u : (Nat → Int32)) (t : State) => va_P (dC, dI) vwCl [(ra, .inl (cA, n, .inl u))] t.heap ∧ va_K (dC, dI) vwCl [] t ∧ va_D (va_A [(ra, .inl (cA, n, .inl f))] sz) [(ra, .inl (cA, n, .inl u))]) (va_A [(ra, .inl (cA, n, .inl f))] sz)) 0 0 (va_A [(ra, .inl (cA, n, .inl f))] sz) := by
  refine Met.ofW (cc := cJ7_fill_53178) (maxL := 4) (ret := none) (by decide) rfl ?_
  intro p e s m args below meth c s₁ B hml hv
  obtain ⟨rfl, hsz, hP, hK, hD0⟩ := hv
  have hx := B.exec
  have hb := B.bytes
  have hr := B.returns
  have hts := atoms_spec (ws := wz_J7_fill_53178) B.pre
  have hown : s.vm.findClass RJ7 = some m.cls := findClass_of_methodNamed B.named
  have hlocks := B.notSynchronized
  subst hsz
  have hD := hD0.self (sz := s.heap.size)
  generalize hAe : va_A [(ra, .inl (cA, n, .inl f))] s.heap.size = A at hD ⊢
  have hA : ∀ q : Nat, s.heap.size ≤ q → A q := fun q h => by rw [← hAe]; exact Or.inr h
  have hS : va_S A s.heap s.heap [] := va_S.rf
  have hP : va_P (dC, dI) vwCl [(ra, .inl (cA, n, .inl f))] s.heap := hP
  have hl := lv_entry ([.ref ra, .int p0]) (n := 4) (Nat.le_of_ble_eq_true rfl)
  rw [lg_entry_eq]
  generalize (lg_sl ([.ref ra, .int p0]) ++ List.replicate (4 - (lg_sl ([.ref ra, .int p0])).length) Slot.unset).toArray = ls at hl ⊢
  have hl : lv_has ls 4 [(0, .ref ra), (1, .int p0)] := hl
  refine lv_iconst (v := 0) hx hb dJ7_fill_53178_0 (by decide) ?_
  refine lv_istore_n (lv' := [(2, .int 0), (0, .ref ra), (1, .int p0)]) hx hb dJ7_fill_53178_1 rfl hl (by decide) rfl (fun ls hl => ?_)
  refine lv_aload_n hx hb dJ7_fill_53178_2 rfl (lv_at hl 1 rfl) ?_
  refine va_alen hx hb hK hP 0 0 rfl rfl (v := nI n) rfl dJ7_fill_53178_3 ?_
  refine lv_istore_n (lv' := [(3, .int (nI n)), (2, .int 0), (0, .ref ra), (1, .int p0)]) hx hb dJ7_fill_53178_4 rfl hl (by decide) rfl (fun ls hl => ?_)
  refine lp_W (I := fun (a : Nat × (Nat → Int32)) H locs ls => (a.1 ≤ n) ∧ va_P (dC, dI) vwCl [(ra, .inl (cA, n, .inl a.2))] H ∧ va_D A [(ra, .inl (cA, n, .inl a.2))] ∧ va_S A s.heap H locs ∧ lv_has ls 4 [(3, .int (nI n)), (2, .int (nI a.1)), (0, .ref ra), (1, .int p0)]) (μ := fun a => n - a.1) ?_ (0, f) ⟨by omega, hP.sub [0] rfl, hD.sub [0] (by decide) rfl, hS, lv_sub hl [0, 1, 2, 3] rfl⟩
  intro a H locs ls hI ih
  obtain ⟨i, f3⟩ := a
  obtain ⟨hi, hP, hD, hS, hl⟩ := hI
  have hi : i ≤ n := hi
  have hP : va_P (dC, dI) vwCl [(ra, .inl (cA, n, .inl f3))] H := hP
  have hD : va_D A [(ra, .inl (cA, n, .inl f3))] := hD
  have hl : lv_has ls 4 [(3, .int (nI n)), (2, .int (nI i)), (0, .ref ra), (1, .int p0)] := hl
  refine lv_iload_n hx hb dJ7_fill_53178_5 rfl (lv_at hl 1 rfl) ?_
  refine lv_iload_n hx hb dJ7_fill_53178_6 rfl (lv_at hl 0 rfl) ?_
  refine lv_icmp_ge (tgt := 20) hx hb dJ7_fill_53178_7 (by decide) (fun c_1 => ?_) (fun c_1 => ?_)
  · have c_1 : (n : Int) ≤ (i : Int) := i_le (a := nI n) (b := nI i) (nI_toInt (by omega)) (nI_toInt (by omega)) c_1
    have hP9 := hP.sub (ws' := [(ra, .inl (cA, n, .inl f3))]) [0] rfl
    have hD9 := hD.sub (ws' := [(ra, .inl (cA, n, .inl f3))]) [0] (by decide) rfl
    have hK9 := hK.sub (tys' := []) [] rfl
    refine W.widen (k := 0) (n := 0) (by omega) (by omega) ?_
    exact W.vret hx hb hr (fun t ht hW => ⟨⟨(f3), rfl, trivial, by rw [ht]; exact hP9, va_K.moved hW.alike hK9, hD9⟩, hS.F ht⟩) hS.2.2 dJ7_fill_53178_20
  · have c_1 : (i : Int) < (n : Int) := i_nle (a := nI n) (b := nI i) (nI_toInt (by omega)) (nI_toInt (by omega)) c_1
    refine lv_aload_n hx hb dJ7_fill_53178_10 rfl (lv_at hl 2 rfl) ?_
    refine lv_iload_n hx hb dJ7_fill_53178_11 rfl (lv_at hl 1 rfl) ?_
    refine lv_iload_n hx hb dJ7_fill_53178_12 rfl (lv_at hl 3 rfl) ?_
    refine va_iast hx hb hK hP hD hS 0 0 rfl rfl (vp_in_nI (by omega) (by omega)) dJ7_fill_53178_13 (fun H locs hP hD hS => ?_)
    have hP : va_P (dC, dI) vwCl [(ra, .inl (cA, n, .inl (upd f3 (nI i).toNatClampNeg p0)))] H := hP
    have hD : va_D A [(ra, .inl (cA, n, .inl (upd f3 (nI i).toNatClampNeg p0)))] := hD
    refine lv_iinc (v := nI (i + 1)) (lv' := [(2, .int (nI (i + 1))), (3, .int (nI n)), (0, .ref ra), (1, .int p0)]) hx hb dJ7_fill_53178_14 hl (k := 1) rfl (nI_1 i) (by decide) rfl (fun ls hl => ?_)
    refine lv_goto (tgt := 5) hx hb dJ7_fill_53178_17 (by decide) ?_
    exact ih (i + 1, upd f3 (nI i).toNatClampNeg p0) _ _ _ ⟨by omega, hP.sub [0] rfl, hD.sub [0] (by decide) rfl, hS, lv_sub hl [1, 0, 2, 3] rfl⟩ (by omega)

theorem dJ7_fill_d0a16_0 : decode cJ7_fill_d0a16 0 = .ok (.iconst 0, 1) := by decide +kernel
theorem dJ7_fill_d0a16_1 : decode cJ7_fill_d0a16 1 = .ok (.istore_n 3, 1) := by decide +kernel
theorem dJ7_fill_d0a16_2 : decode cJ7_fill_d0a16 2 = .ok (.aload_n 0, 1) := by decide +kernel
theorem dJ7_fill_d0a16_3 : decode cJ7_fill_d0a16 3 = .ok (.arraylength, 1) := by decide +kernel
theorem dJ7_fill_d0a16_4 : decode cJ7_fill_d0a16 4 = .ok (.istore 4, 2) := by decide +kernel
theorem dJ7_fill_d0a16_6 : decode cJ7_fill_d0a16 6 = .ok (.iload_n 3, 1) := by decide +kernel
theorem dJ7_fill_d0a16_7 : decode cJ7_fill_d0a16 7 = .ok (.iload 4, 2) := by decide +kernel
theorem dJ7_fill_d0a16_9 : decode cJ7_fill_d0a16 9 = .ok (.if_icmp .ge 13, 3) := by decide +kernel
theorem dJ7_fill_d0a16_12 : decode cJ7_fill_d0a16 12 = .ok (.aload_n 0, 1) := by decide +kernel
theorem dJ7_fill_d0a16_13 : decode cJ7_fill_d0a16 13 = .ok (.iload_n 3, 1) := by decide +kernel
theorem dJ7_fill_d0a16_14 : decode cJ7_fill_d0a16 14 = .ok (.lload_n 1, 1) := by decide +kernel
theorem dJ7_fill_d0a16_15 : decode cJ7_fill_d0a16 15 = .ok (.lastore, 1) := by decide +kernel
theorem dJ7_fill_d0a16_16 : decode cJ7_fill_d0a16 16 = .ok (.iinc 3 1, 3) := by decide +kernel
theorem dJ7_fill_d0a16_19 : decode cJ7_fill_d0a16 19 = .ok (.goto (-13), 3) := by decide +kernel
theorem dJ7_fill_d0a16_22 : decode cJ7_fill_d0a16 22 = .ok (.return_, 1) := by decide +kernel
def wz_J7_fill_d0a16 : List Cond := .code yJ7_fill_d0a16 cJ7_fill_d0a16 5 none :: ([])
set_option maxHeartbeats 4000000 in
set_option maxRecDepth 100000 in
/-- Arrays.fill of longs -/
theorem c_J7_fill_d0a16 (l : Launch) (dC : Nat → ClassId) (dI : Nat → Nat → Nat) (sz : Nat) (ra : Nat) (cA : ClassId) (n : Nat) (f : Nat → Int64) (p0 : Int64) (hn : n < 2147483648) : Met l yJ7_fill_d0a16 wz_J7_fill_d0a16 ({ frames := 0, cells := 0, slots := 0, locals := 0 }) (va_Pc [.ref ra, .long p0] (fun U => U.heap.size = sz ∧ va_P (dC, dI) vwCl [(ra, .inl (cA, n, .inr (.inl f)))] U.heap ∧ va_K (dC, dI) vwCl [(cA, .long)] U ∧ va_D (fun _ => True) [(ra, .inl (cA, n, .inr (.inl f)))])) (va_Qv (fun (u : (Nat → Int64)) => True) (fun (u : (Nat → Int64)) (t : State) => va_P (dC, dI) vwCl [(ra, .inl (cA, n, .inr (.inl u)))] t.heap ∧ va_K (dC, dI) vwCl [] t ∧ va_D (va_A [(ra, .inl (cA, n, .inr (.inl f)))] sz) [(ra, .inl (cA, n, .inr (.inl u)))]) (va_A [(ra, .inl (cA, n, .inr (.inl f)))] sz)) 0 0 (va_A [(ra, .inl (cA, n, .inr (.inl f)))] sz) := by
  refine Met.ofW (cc := cJ7_fill_d0a16) (maxL := 5) (ret := none) (by decide) rfl ?_
  intro p e s m args below meth c s₁ B hml hv
  obtain ⟨rfl, hsz, hP, hK, hD0⟩ := hv
  have hx := B.exec
  have hb := B.bytes
  have hr := B.returns
  have hts := atoms_spec (ws := wz_J7_fill_d0a16) B.pre
  have hown : s.vm.findClass RJ7 = some m.cls := findClass_of_methodNamed B.named
  have hlocks := B.notSynchronized
  subst hsz
  have hD := hD0.self (sz := s.heap.size)
  generalize hAe : va_A [(ra, .inl (cA, n, .inr (.inl f)))] s.heap.size = A at hD ⊢
  have hA : ∀ q : Nat, s.heap.size ≤ q → A q := fun q h => by rw [← hAe]; exact Or.inr h
  have hS : va_S A s.heap s.heap [] := va_S.rf
  have hP : va_P (dC, dI) vwCl [(ra, .inl (cA, n, .inr (.inl f)))] s.heap := hP
  have hl := lv_entry ([.ref ra, .long p0]) (n := 5) (Nat.le_of_ble_eq_true rfl)
  rw [lg_entry_eq]
  generalize (lg_sl ([.ref ra, .long p0]) ++ List.replicate (5 - (lg_sl ([.ref ra, .long p0])).length) Slot.unset).toArray = ls at hl ⊢
  have hl : lv_has ls 5 [(0, .ref ra), (1, .long p0)] := hl
  refine lv_iconst (v := 0) hx hb dJ7_fill_d0a16_0 (by decide) ?_
  refine lv_istore_n (lv' := [(3, .int 0), (0, .ref ra), (1, .long p0)]) hx hb dJ7_fill_d0a16_1 rfl hl (by decide) rfl (fun ls hl => ?_)
  refine lv_aload_n hx hb dJ7_fill_d0a16_2 rfl (lv_at hl 1 rfl) ?_
  refine va_alen hx hb hK hP 0 0 rfl rfl (v := nI n) rfl dJ7_fill_d0a16_3 ?_
  refine lv_istore (lv' := [(4, .int (nI n)), (3, .int 0), (0, .ref ra), (1, .long p0)]) hx hb dJ7_fill_d0a16_4 hl (by decide) rfl (fun ls hl => ?_)
  refine lp_W (I := fun (a : Nat × (Nat → Int64)) H locs ls => (a.1 ≤ n) ∧ va_P (dC, dI) vwCl [(ra, .inl (cA, n, .inr (.inl a.2)))] H ∧ va_D A [(ra, .inl (cA, n, .inr (.inl a.2)))] ∧ va_S A s.heap H locs ∧ lv_has ls 5 [(4, .int (nI n)), (3, .int (nI a.1)), (0, .ref ra), (1, .long p0)]) (μ := fun a => n - a.1) ?_ (0, f) ⟨by omega, hP.sub [0] rfl, hD.sub [0] (by decide) rfl, hS, lv_sub hl [0, 1, 2, 3] rfl⟩
  intro a H locs ls hI ih
  obtain ⟨i, f3⟩ := a
  obtain ⟨hi, hP, hD, hS, hl⟩ := hI
  have hi : i ≤ n := hi
  have hP : va_P (dC, dI) vwCl [(ra, .inl (cA, n, .inr (.inl f3)))] H := hP
  have hD : va_D A [(ra, .inl (cA, n, .inr (.inl f3)))] := hD
  have hl : lv_has ls 5 [(4, .int (nI n)), (3, .int (nI i)), (0, .ref ra), (1, .long p0)] := hl
  refine lv_iload_n hx hb dJ7_fill_d0a16_6 rfl (lv_at hl 1 rfl) ?_
  refine lv_iload hx hb dJ7_fill_d0a16_7 (lv_at hl 0 rfl) ?_
  refine lv_icmp_ge (tgt := 22) hx hb dJ7_fill_d0a16_9 (by decide) (fun c_1 => ?_) (fun c_1 => ?_)
  · have c_1 : (n : Int) ≤ (i : Int) := i_le (a := nI n) (b := nI i) (nI_toInt (by omega)) (nI_toInt (by omega)) c_1
    have hP9 := hP.sub (ws' := [(ra, .inl (cA, n, .inr (.inl f3)))]) [0] rfl
    have hD9 := hD.sub (ws' := [(ra, .inl (cA, n, .inr (.inl f3)))]) [0] (by decide) rfl
    have hK9 := hK.sub (tys' := []) [] rfl
    refine W.widen (k := 0) (n := 0) (by omega) (by omega) ?_
    exact W.vret hx hb hr (fun t ht hW => ⟨⟨(f3), rfl, trivial, by rw [ht]; exact hP9, va_K.moved hW.alike hK9, hD9⟩, hS.F ht⟩) hS.2.2 dJ7_fill_d0a16_22
  · have c_1 : (i : Int) < (n : Int) := i_nle (a := nI n) (b := nI i) (nI_toInt (by omega)) (nI_toInt (by omega)) c_1
    refine lv_aload_n hx hb dJ7_fill_d0a16_12 rfl (lv_at hl 2 rfl) ?_
    refine lv_iload_n hx hb dJ7_fill_d0a16_13 rfl (lv_at hl 1 rfl) ?_
    refine lv_lload_n hx hb dJ7_fill_d0a16_14 rfl (lv_at hl 3 rfl) ?_
    refine va_last hx hb hK hP hD hS 0 0 rfl rfl (vp_in_nI (by omega) (by omega)) dJ7_fill_d0a16_15 (fun H locs hP hD hS => ?_)
    have hP : va_P (dC, dI) vwCl [(ra, .inl (cA, n, .inr (.inl (vp_updL f3 (nI i).toNatClampNeg p0))))] H := hP
    have hD : va_D A [(ra, .inl (cA, n, .inr (.inl (vp_updL f3 (nI i).toNatClampNeg p0))))] := hD
    refine lv_iinc (v := nI (i + 1)) (lv' := [(3, .int (nI (i + 1))), (4, .int (nI n)), (0, .ref ra), (1, .long p0)]) hx hb dJ7_fill_d0a16_16 hl (k := 1) rfl (nI_1 i) (by decide) rfl (fun ls hl => ?_)
    refine lv_goto (tgt := 6) hx hb dJ7_fill_d0a16_19 (by decide) ?_
    exact ih (i + 1, vp_updL f3 (nI i).toNatClampNeg p0) _ _ _ ⟨by omega, hP.sub [0] rfl, hD.sub [0] (by decide) rfl, hS, lv_sub hl [1, 0, 2, 3] rfl⟩ (by omega)

theorem dX5_begin_0 : decode cX5_begin 0 = .ok (.aload_n 0, 1) := by decide +kernel
theorem dX5_begin_1 : decode cX5_begin 1 = .ok (.iconst 1, 1) := by decide +kernel
theorem dX5_begin_2 : decode cX5_begin 2 = .ok (.putfield 9, 3) := by decide +kernel
theorem dX5_begin_5 : decode cX5_begin 5 = .ok (.aload_n 0, 1) := by decide +kernel
theorem dX5_begin_6 : decode cX5_begin 6 = .ok (.iload_n 1, 1) := by decide +kernel
theorem dX5_begin_7 : decode cX5_begin 7 = .ok (.putfield 15, 3) := by decide +kernel
theorem dX5_begin_10 : decode cX5_begin 10 = .ok (.aload_n 0, 1) := by decide +kernel
theorem dX5_begin_11 : decode cX5_begin 11 = .ok (.iload_n 2, 1) := by decide +kernel
theorem dX5_begin_12 : decode cX5_begin 12 = .ok (.putfield 19, 3) := by decide +kernel
theorem dX5_begin_15 : decode cX5_begin 15 = .ok (.aload_n 0, 1) := by decide +kernel
theorem dX5_begin_16 : decode cX5_begin 16 = .ok (.getfield 22, 3) := by decide +kernel
theorem dX5_begin_19 : decode cX5_begin 19 = .ok (.lconst 0, 1) := by decide +kernel
theorem dX5_begin_20 : decode cX5_begin 20 = .ok (.invokestatic 26, 3) := by decide +kernel
theorem dX5_begin_23 : decode cX5_begin 23 = .ok (.return_, 1) := by decide +kernel
def wz_X5_begin : List Cond := .code yX5_begin cX5_begin 3 none :: ([Cond.fieldLink RX5 9 "HedgeMaze$Row" "there" "Z", Cond.fieldLink RX5 15 "HedgeMaze$Row" "width" "I", Cond.fieldLink RX5 19 "HedgeMaze$Row" "size" "I", Cond.fieldLink RX5 22 "HedgeMaze$Row" "numbers" "[J", Cond.methodLink RX5 26 yJ7_fill_d0a16, Cond.static yJ7_fill_d0a16, Cond.initialized RJ7, Cond.code yJ7_fill_d0a16 cJ7_fill_d0a16 5 none] ++ wsX50)
theorem wd_X5_begin_0 : Cond.fieldLink RX5 9 "HedgeMaze$Row" "there" "Z" ∈ wz_X5_begin := List.mem_of_getElem? (i := 1) rfl
theorem wd_X5_begin_1 : Cond.fieldLink RX5 15 "HedgeMaze$Row" "width" "I" ∈ wz_X5_begin := List.mem_of_getElem? (i := 2) rfl
theorem wd_X5_begin_2 : Cond.fieldLink RX5 19 "HedgeMaze$Row" "size" "I" ∈ wz_X5_begin := List.mem_of_getElem? (i := 3) rfl
theorem wd_X5_begin_3 : Cond.fieldLink RX5 22 "HedgeMaze$Row" "numbers" "[J" ∈ wz_X5_begin := List.mem_of_getElem? (i := 4) rfl
theorem in_X5_begin_X5 : ∀ w ∈ wsX50, w ∈ wz_X5_begin := fun _ h => List.mem_cons_of_mem _ (List.mem_append_right _ h)
set_option maxRecDepth 20000 in
theorem g_X5_begin_J7_fill_d0a16 : GoodIn wz_X5_begin (va_wsS RX5 26 yJ7_fill_d0a16 wz_J7_fill_d0a16) := goodIn_r _ [5, 6, 7, 8] rfl (by decide +kernel)
set_option maxHeartbeats 4000000 in
set_option maxRecDepth 100000 in
theorem c_X5_begin (l : Launch) (dC : Nat → ClassId) (dI : Nat → Nat → Nat) (sz : Nat) (h0 : Nat) (nb : Nat) (cl : ClassId) (p0 : Int32) (p1 : Int32)  : Met l yX5_begin wz_X5_begin ({ frames := 1, cells := 0, slots := 0, locals := 24 }) (va_Pc [.ref h0, .int p0, .int p1] (fun U => U.heap.size = sz ∧ va_P (dC, dI) vwCl [(h0, .inr (5, [.int 0, .int 0, .int 0, .ref nb])), (nb, .inl (cl, 60, .inr (.inl (fun _ => 0))))] U.heap ∧ va_K (dC, dI) vwCl [(cl, .long)] U ∧ va_D (fun _ => True) [(h0, .inr (5, [.int 0, .int 0, .int 0, .ref nb])), (nb, .inl (cl, 60, .inr (.inl (fun _ => 0))))])) (va_Qv (fun (u : Unit) => True) (fun (_ : Unit) (_ : State) => True) (va_A [(h0, .inr (5, [.int 0, .int 0, .int 0, .ref nb])), (nb, .inl (cl, 60, .inr (.inl (fun _ => 0))))] sz)) 0 0 (va_A [(h0, .inr (5, [.int 0, .int 0, .int 0, .ref nb])), (nb, .inl (cl, 60, .inr (.inl (fun _ => 0))))] sz) := by
  refine Met.ofW (cc := cX5_begin) (maxL := 3) (ret := none) (by decide) rfl ?_
  intro p e s m args below meth c s₁ B hml hv
  obtain ⟨rfl, hsz, hP, hK, hD0⟩ := hv
  have hx := B.exec
  have hb := B.bytes
  have hr := B.returns
  have hts := atoms_spec (ws := wz_X5_begin) B.pre
  have hown : s.vm.findClass RX5 = some m.cls := findClass_of_methodNamed B.named
  have hlocks := B.notSynchronized
  subst hsz
  have hD := hD0.self (sz := s.heap.size)
  generalize hAe : va_A [(h0, .inr (5, [.int 0, .int 0, .int 0, .ref nb])), (nb, .inl (cl, 60, .inr (.inl (fun _ => 0))))] s.heap.size = A at hD ⊢
  have hA : ∀ q : Nat, s.heap.size ≤ q → A q := fun q h => by rw [← hAe]; exact Or.inr h
  have hS : va_S A s.heap s.heap [] := va_S.rf
  have hP : va_P (dC, dI) vwCl [(h0, .inr (5, [.int 0, .int 0, .int 0, .ref nb])), (nb, .inl (cl, 60, .inr (.inl (fun _ => 0))))] s.heap := hP
  have hl := lv_entry ([.ref h0, .int p0, .int p1]) (n := 3) (Nat.le_of_ble_eq_true rfl)
  rw [lg_entry_eq]
  generalize (lg_sl ([.ref h0, .int p0, .int p1]) ++ List.replicate (3 - (lg_sl ([.ref h0, .int p0, .int p1])).length) Slot.unset).toArray = ls at hl ⊢
  have hl : lv_has ls 3 [(0, .ref h0), (1, .int p0), (2, .int p1)] := hl
  refine lv_aload_n hx hb dX5_begin_0 rfl (lv_at hl 0 rfl) ?_
  refine lv_iconst (v := 1) hx hb dX5_begin_1 (by decide) ?_
  refine va_put (D := (dC, dI)) (ci := 5) (v := .int 1) (ty := .boolean) (C := RX5) (T := TX5) (N := 4) hx hb hts in_X5_begin_X5 tyX5 tyX5_ok nmX5 hown hK hP hD hS 0 rfl rfl 0 (by decide) (hts _ wd_X5_begin_0) (fun _ h9 => h9) rfl (by decide +kernel) (by decide) (by decide) (Nat.le_of_ble_eq_true rfl) dX5_begin_2 (fun H locs hP hD hS => ?_)
  have hP : va_P (dC, dI) vwCl [(h0, .inr (5, [.int 1, .int 0, .int 0, .ref nb])), (nb, .inl (cl, 60, .inr (.inl (fun _ => 0))))] H := hP
  have hD : va_D A [(h0, .inr (5, [.int 1, .int 0, .int 0, .ref nb])), (nb, .inl (cl, 60, .inr (.inl (fun _ => 0))))] := hD
  refine lv_aload_n hx hb dX5_begin_5 rfl (lv_at hl 0 rfl) ?_
  refine lv_iload_n hx hb dX5_begin_6 rfl (lv_at hl 1 rfl) ?_
  refine va_put (D := (dC, dI)) (ci := 5) (v := .int p0) (ty := .int) (C := RX5) (T := TX5) (N := 4) hx hb hts in_X5_begin_X5 tyX5 tyX5_ok nmX5 hown hK hP hD hS 0 rfl rfl 1 (by decide) (hts _ wd_X5_begin_1) (fun _ h9 => h9) rfl (by decide +kernel) rfl rfl (Nat.le_of_ble_eq_true rfl) dX5_begin_7 (fun H locs hP hD hS => ?_)
  have hP : va_P (dC, dI) vwCl [(h0, .inr (5, [.int 1, .int p0, .int 0, .ref nb])), (nb, .inl (cl, 60, .inr (.inl (fun _ => 0))))] H := hP
  have hD : va_D A [(h0, .inr (5, [.int 1, .int p0, .int 0, .ref nb])), (nb, .inl (cl, 60, .inr (.inl (fun _ => 0))))] := hD
  refine lv_aload_n hx hb dX5_begin_10 rfl (lv_at hl 0 rfl) ?_
  refine lv_iload_n hx hb dX5_begin_11 rfl (lv_at hl 2 rfl) ?_
  refine va_put (D := (dC, dI)) (ci := 5) (v := .int p1) (ty := .int) (C := RX5) (T := TX5) (N := 4) hx hb hts in_X5_begin_X5 tyX5 tyX5_ok nmX5 hown hK hP hD hS 0 rfl rfl 2 (by decide) (hts _ wd_X5_begin_2) (fun _ h9 => h9) rfl (by decide +kernel) rfl rfl (Nat.le_of_ble_eq_true rfl) dX5_begin_12 (fun H locs hP hD hS => ?_)
  have hP : va_P (dC, dI) vwCl [(h0, .inr (5, [.int 1, .int p0, .int p1, .ref nb])), (nb, .inl (cl, 60, .inr (.inl (fun _ => 0))))] H := hP
  have hD : va_D A [(h0, .inr (5, [.int 1, .int p0, .int p1, .ref nb])), (nb, .inl (cl, 60, .inr (.inl (fun _ => 0))))] := hD
  refine lv_aload_n hx hb dX5_begin_15 rfl (lv_at hl 0 rfl) ?_
  refine va_get (D := (dC, dI)) (ci := 5) (v := .ref nb) (C := RX5) (T := TX5) (N := 4) hx hb hts in_X5_begin_X5 hown hK hP 0 rfl rfl 3 (by decide) (hts _ wd_X5_begin_3) (fun _ h9 => h9) rfl dX5_begin_16 ?_
  refine lv_lconst (v := 0) hx hb dX5_begin_19 (by decide) ?_
  have hPc := hP.sub (ws' := [(nb, .inl (cl, 60, .inr (.inl (fun _ => 0))))]) [1] rfl
  have hDc := hD.sub (ws' := [(nb, .inl (cl, 60, .inr (.inl (fun _ => 0))))]) [1] (by decide) rfl
  have hKc := hK.sub (tys' := [(cl, .long)]) [0] rfl
  have hFc := va_free (wc := [(nb, .inl (cl, 60, .inr (.inl (fun _ => 0))))]) hD hS hA [1] rfl
  refine va_callv (va_runS (As := [.ref nb, .long 0]) (rest := []) ⟨hx, hb, hml, hown, hts⟩ (c_J7_fill_d0a16 l dC dI H.size nb cl ((60 : Nat)) ((fun _ => 0 : Nat → Int64)) ((0 : Int64)) (by omega)) (va_cwS 2 hts g_X5_begin_J7_fill_d0a16 rfl rfl rfl (by decide +kernel) ⟨Nat.le_of_ble_eq_true rfl, Nat.le_of_ble_eq_true rfl⟩) ⟨fun a U g mk q => by obtain ⟨q0, q1, qP, qK, qD⟩ := q; exact ⟨q0, q1, qP, va_K.moved (u := U) (U := U.calling g mk a) (Vm.Alike.refl U.vm) qK, qD⟩, fun U hU hW => ⟨rfl, by rw [hU], by rw [hU]; exact hPc, va_K.moved hW.alike hKc, hDc.weaken (fun _ _ _ _ => trivial)⟩⟩ rfl rfl hl.1 rfl (lv_room (Nat.le_of_ble_eq_true rfl)) dX5_begin_20 ⟨Nat.le_of_ble_eq_true rfl, Nat.le_of_ble_eq_true rfl⟩) hS (fun q _ h => hFc q h) hFc (fun u t H1 locs ht hvm hw_1 hB hz1 hk1 hS => ?_)
  obtain ⟨f2_2, rfl⟩ : ∃ z, z = u := ⟨_, rfl⟩
  obtain ⟨hP1, hK1, hD1⟩ := hB
  have hP1 : va_P (dC, dI) vwCl [(nb, .inl (cl, 60, .inr (.inl f2_2)))] t.heap := hP1
  rw [ht] at hP1
  try dsimp only at hw_1
  obtain ⟨hP, hD⟩ := va_join (wr := [(h0, .inr (5, [.int 1, .int p0, .int p1, .ref nb]))]) (w1 := [(nb, .inl (cl, 60, .inr (.inl f2_2)))]) hP hD [1] [0] rfl rfl (by decide) (by decide) hk1 hFc hP1 hD1
  generalize H1 = H at hP hS ⊢
  have hP : va_P (dC, dI) vwCl [(h0, .inr (5, [.int 1, .int p0, .int p1, .ref nb])), (nb, .inl (cl, 60, .inr (.inl f2_2)))] H := hP
  have hD : va_D A [(h0, .inr (5, [.int 1, .int p0, .int p1, .ref nb])), (nb, .inl (cl, 60, .inr (.inl f2_2)))] := hD
  refine W.widen (k := 0) (n := 0) (by omega) (by omega) ?_
  exact W.vret hx hb hr (fun t ht hW => ⟨⟨(), rfl, trivial, trivial⟩, hS.F ht⟩) hS.2.2 dX5_begin_23

theorem dX6_row_0 : decode cX6_row 0 = .ok (.iload_n 1, 1) := by decide +kernel
theorem dX6_row_1 : decode cX6_row 1 = .ok (.invokestatic 211, 3) := by decide +kernel
theorem dX6_row_4 : decode cX6_row 4 = .ok (.ifCond .eq 18, 3) := by decide +kernel
theorem dX6_row_7 : decode cX6_row 7 = .ok (.iload_n 2, 1) := by decide +kernel
theorem dX6_row_8 : decode cX6_row 8 = .ok (.ifCond .lt 14, 3) := by decide +kernel
theorem dX6_row_11 : decode cX6_row 11 = .ok (.iload_n 2, 1) := by decide +kernel
theorem dX6_row_12 : decode cX6_row 12 = .ok (.iconst 3, 1) := by decide +kernel
theorem dX6_row_13 : decode cX6_row 13 = .ok (.if_icmp .gt 9, 3) := by decide +kernel
theorem dX6_row_16 : decode cX6_row 16 = .ok (.iload_n 3, 1) := by decide +kernel
theorem dX6_row_17 : decode cX6_row 17 = .ok (.bipush 60, 2) := by decide +kernel
theorem dX6_row_19 : decode cX6_row 19 = .ok (.if_icmp .le 6, 3) := by decide +kernel
theorem dX6_row_22 : decode cX6_row 22 = .ok (.bipush (-2), 2) := by decide +kernel
theorem dX6_row_24 : decode cX6_row 24 = .ok (.ireturn, 1) := by decide +kernel
theorem dX6_row_25 : decode cX6_row 25 = .ok (.iload_n 3, 1) := by decide +kernel
theorem dX6_row_26 : decode cX6_row 26 = .ok (.ifCond .ge 6, 3) := by decide +kernel
theorem dX6_row_29 : decode cX6_row 29 = .ok (.bipush (-3), 2) := by decide +kernel
theorem dX6_row_31 : decode cX6_row 31 = .ok (.ireturn, 1) := by decide +kernel
theorem dX6_row_32 : decode cX6_row 32 = .ok (.aload_n 0, 1) := by decide +kernel
theorem dX6_row_33 : decode cX6_row 33 = .ok (.getfield 43, 3) := by decide +kernel
theorem dX6_row_36 : decode cX6_row 36 = .ok (.iload_n 1, 1) := by decide +kernel
theorem dX6_row_37 : decode cX6_row 37 = .ok (.aaload, 1) := by decide +kernel
theorem dX6_row_38 : decode cX6_row 38 = .ok (.iload_n 2, 1) := by decide +kernel
theorem dX6_row_39 : decode cX6_row 39 = .ok (.iload_n 3, 1) := by decide +kernel
theorem dX6_row_40 : decode cX6_row 40 = .ok (.invokevirtual 338, 3) := by decide +kernel
theorem dX6_row_43 : decode cX6_row 43 = .ok (.iconst 0, 1) := by decide +kernel
theorem dX6_row_44 : decode cX6_row 44 = .ok (.ireturn, 1) := by decide +kernel
def wz_X6_row : List Cond := .code yX6_row cX6_row 4 (some .int) :: ([Cond.fieldLink RX6 43 "HedgeMaze" "rows" "[LHedgeMaze$Row;", Cond.methodLink RX6 211 yX6_isSlot, Cond.static yX6_isSlot, Cond.initialized RX6, Cond.code yX6_isSlot cX6_isSlot 1 (some .boolean), Cond.methodLink RX6 338 yX5_begin, Cond.instanceMethod yX5_begin, Cond.selects RX5 yX5_begin yX5_begin, Cond.initialized RX5, Cond.code yX5_begin cX5_begin 3 none, Cond.fieldLink RX5 9 "HedgeMaze$Row" "there" "Z", Cond.fieldLink RX5 15 "HedgeMaze$Row" "width" "I", Cond.fieldLink RX5 19 "HedgeMaze$Row" "size" "I", Cond.fieldLink RX5 22 "HedgeMaze$Row" "numbers" "[J", Cond.methodLink RX5 26 yJ7_fill_d0a16, Cond.static yJ7_fill_d0a16, Cond.initialized RJ7, Cond.code yJ7_fill_d0a16 cJ7_fill_d0a16 5 none] ++ wsX60 ++ wsX50)
theorem wd_X6_row_0 : Cond.fieldLink RX6 43 "HedgeMaze" "rows" "[LHedgeMaze$Row;" ∈ wz_X6_row := List.mem_of_getElem? (i := 1) rfl
theorem in_X6_row_X6 : ∀ w ∈ wsX60, w ∈ wz_X6_row := fun _ h => List.mem_cons_of_mem _ (List.mem_append_left _ (List.mem_append_right _ h))
set_option maxRecDepth 20000 in
theorem g_X6_row_X6_isSlot : GoodIn wz_X6_row (va_wsS RX6 211 yX6_isSlot wz_X6_isSlot) := goodIn_r _ [2, 3, 4, 5] rfl (by decide +kernel)
set_option maxRecDepth 20000 in
theorem g_X6_row_X5_begin : GoodIn wz_X6_row (wsV RX6 338 RX5 yX5_begin wz_X5_begin) := goodIn_r _ [6, 7, 8, 9, 10, 11, 12, 13, 14, 15, 16, 17, 18, 30, 31, 32, 33] rfl (by decide +kernel)
set_option maxHeartbeats 4000000 in
set_option maxRecDepth 100000 in
theorem c_X6_row (l : Launch) (dC : Nat → ClassId) (dI : Nat → Nat → Nat) (sz : Nat) (h0 : Nat) (tp : Nat) (rd : Nat) (gd : Nat) (im : Nat) (rw : Nat) (gn : Nat) (ho : Nat) (sq : Nat) (cr : ClassId) (fr : Nat → Option Nat) (r0 : Nat) (r1 : Nat) (r2 : Nat) (r3 : Nat) (n0 : Nat) (n1 : Nat) (n2 : Nat) (n3 : Nat) (cl0 : ClassId) (cl1 : ClassId) (cl2 : ClassId) (cl3 : ClassId) (p0 : Int32) (p1 : Int32) (p2 : Int32) (hf0 : fr 0 = some r0) (hf1 : fr 1 = some r1) (hf2 : fr 2 = some r2) (hf3 : fr 3 = some r3) : Met l yX6_row wz_X6_row ({ frames := 2, cells := 0, slots := 0, locals := 46 }) (va_Pc [.ref h0, .int p0, .int p1, .int p2] (fun U => U.heap.size = sz ∧ va_P (dC, dI) vwCl [(h0, .inr (6, [.ref tp, .int 0, .int 0, .int (-1), .ref rd, .ref gd, .ref im, .ref rw, .ref gn, .ref ho, .ref sq])), (rw, .inl (cr, 4, .inr (.inr (.inr (.inr fr))))), (r0, .inr (5, [.int 0, .int 0, .int 0, .ref n0])), (n0, .inl (cl0, 60, .inr (.inl (fun _ => 0)))), (r1, .inr (5, [.int 0, .int 0, .int 0, .ref n1])), (n1, .inl (cl1, 60, .inr (.inl (fun _ => 0)))), (r2, .inr (5, [.int 0, .int 0, .int 0, .ref n2])), (n2, .inl (cl2, 60, .inr (.inl (fun _ => 0)))), (r3, .inr (5, [.int 0, .int 0, .int 0, .ref n3])), (n3, .inl (cl3, 60, .inr (.inl (fun _ => 0))))] U.heap ∧ va_K (dC, dI) vwCl [(cr, .object RX5), (cl0, .long), (cl1, .long), (cl2, .long), (cl3, .long)] U ∧ va_D (fun _ => True) [(h0, .inr (6, [.ref tp, .int 0, .int 0, .int (-1), .ref rd, .ref gd, .ref im, .ref rw, .ref gn, .ref ho, .ref sq])), (rw, .inl (cr, 4, .inr (.inr (.inr (.inr fr))))), (r0, .inr (5, [.int 0, .int 0, .int 0, .ref n0])), (n0, .inl (cl0, 60, .inr (.inl (fun _ => 0)))), (r1, .inr (5, [.int 0, .int 0, .int 0, .ref n1])), (n1, .inl (cl1, 60, .inr (.inl (fun _ => 0)))), (r2, .inr (5, [.int 0, .int 0, .int 0, .ref n2])), (n2, .inl (cl2, 60, .inr (.inl (fun _ => 0)))), (r3, .inr (5, [.int 0, .int 0, .int 0, .ref n3])), (n3, .inl (cl3, 60, .inr (.inl (fun _ => 0))))])) (va_Qi (fun (r : Int32) (u : Unit) => r = if (0 ≤ p0.toInt ∧ p0.toInt ≤ 3) ∧ (0 ≤ p1.toInt ∧ p1.toInt ≤ 3) ∧ p2.toInt ≤ 60 then (if p2.toInt < 0 then -3 else 0) else -2) (fun (_ : Unit) (_ : State) => True) (va_A [(h0, .inr (6, [.ref tp, .int 0, .int 0, .int (-1), .ref rd, .ref gd, .ref im, .ref rw, .ref gn, .ref ho, .ref sq])), (rw, .inl (cr, 4, .inr (.inr (.inr (.inr fr))))), (r0, .inr (5, [.int 0, .int 0, .int 0, .ref n0])), (n0, .inl (cl0, 60, .inr (.inl (fun _ => 0)))), (r1, .inr (5, [.int 0, .int 0, .int 0, .ref n1])), (n1, .inl (cl1, 60, .inr (.inl (fun _ => 0)))), (r2, .inr (5, [.int 0, .int 0, .int 0, .ref n2])), (n2, .inl (cl2, 60, .inr (.inl (fun _ => 0)))), (r3, .inr (5, [.int 0, .int 0, .int 0, .ref n3])), (n3, .inl (cl3, 60, .inr (.inl (fun _ => 0))))] sz)) 0 0 (va_A [(h0, .inr (6, [.ref tp, .int 0, .int 0, .int (-1), .ref rd, .ref gd, .ref im, .ref rw, .ref gn, .ref ho, .ref sq])), (rw, .inl (cr, 4, .inr (.inr (.inr (.inr fr))))), (r0, .inr (5, [.int 0, .int 0, .int 0, .ref n0])), (n0, .inl (cl0, 60, .inr (.inl (fun _ => 0)))), (r1, .inr (5, [.int 0, .int 0, .int 0, .ref n1])), (n1, .inl (cl1, 60, .inr (.inl (fun _ => 0)))), (r2, .inr (5, [.int 0, .int 0, .int 0, .ref n2])), (n2, .inl (cl2, 60, .inr (.inl (fun _ => 0)))), (r3, .inr (5, [.int 0, .int 0, .int 0, .ref n3])), (n3, .inl (cl3, 60, .inr (.inl (fun _ => 0))))] sz) := by
  refine Met.ofW (cc := cX6_row) (maxL := 4) (ret := (some .int)) (by decide) rfl ?_
  intro p e s m args below meth c s₁ B hml hv
  obtain ⟨rfl, hsz, hP, hK, hD0⟩ := hv
  have hx := B.exec
  have hb := B.bytes
  have hr := B.returns
  have hts := atoms_spec (ws := wz_X6_row) B.pre
  have hown : s.vm.findClass RX6 = some m.cls := findClass_of_methodNamed B.named
  have hlocks := B.notSynchronized
  subst hsz
  have hD := hD0.self (sz := s.heap.size)
  generalize hAe : va_A [(h0, .inr (6, [.ref tp, .int 0, .int 0, .int (-1), .ref rd, .ref gd, .ref im, .ref rw, .ref gn, .ref ho, .ref sq])), (rw, .inl (cr, 4, .inr (.inr (.inr (.inr fr))))), (r0, .inr (5, [.int 0, .int 0, .int 0, .ref n0])), (n0, .inl (cl0, 60, .inr (.inl (fun _ => 0)))), (r1, .inr (5, [.int 0, .int 0, .int 0, .ref n1])), (n1, .inl (cl1, 60, .inr (.inl (fun _ => 0)))), (r2, .inr (5, [.int 0, .int 0, .int 0, .ref n2])), (n2, .inl (cl2, 60, .inr (.inl (fun _ => 0)))), (r3, .inr (5, [.int 0, .int 0, .int 0, .ref n3])), (n3, .inl (cl3, 60, .inr (.inl (fun _ => 0))))] s.heap.size = A at hD ⊢
  have hA : ∀ q : Nat, s.heap.size ≤ q → A q := fun q h => by rw [← hAe]; exact Or.inr h
  have hS : va_S A s.heap s.heap [] := va_S.rf
  have hP : va_P (dC, dI) vwCl [(h0, .inr (6, [.ref tp, .int 0, .int 0, .int (-1), .ref rd, .ref gd, .ref im, .ref rw, .ref gn, .ref ho, .ref sq])), (rw, .inl (cr, 4, .inr (.inr (.inr (.inr fr))))), (r0, .inr (5, [.int 0, .int 0, .int 0, .ref n0])), (n0, .inl (cl0, 60, .inr (.inl (fun _ => 0)))), (r1, .inr (5, [.int 0, .int 0, .int 0, .ref n1])), (n1, .inl (cl1, 60, .inr (.inl (fun _ => 0)))), (r2, .inr (5, [.int 0, .int 0, .int 0, .ref n2])), (n2, .inl (cl2, 60, .inr (.inl (fun _ => 0)))), (r3, .inr (5, [.int 0, .int 0, .int 0, .ref n3])), (n3, .inl (cl3, 60, .inr (.inl (fun _ => 0))))] s.heap := hP
  have hl := lv_entry ([.ref h0, .int p0, .int p1, .int p2]) (n := 4) (Nat.le_of_ble_eq_true rfl)
  rw [lg_entry_eq]
  generalize (lg_sl ([.ref h0, .int p0, .int p1, .int p2]) ++ List.replicate (4 - (lg_sl ([.ref h0, .int p0, .int p1, .int p2])).length) Slot.unset).toArray = ls at hl ⊢
  have hl : lv_has ls 4 [(0, .ref h0), (1, .int p0), (2, .int p1), (3, .int p2)] := hl
  refine lv_iload_n hx hb dX6_row_0 rfl (lv_at hl 1 rfl) ?_
  have hPc := hP.sub (ws' := []) [] rfl
  have hDc := hD.sub (ws' := []) [] (by decide) rfl
  have hKc := hK.sub (tys' := []) [] rfl
  have hFc := va_free (wc := []) hD hS hA [] rfl
  refine va_calli (va_runS (As := [.int p0]) (rest := []) ⟨hx, hb, hml, hown, hts⟩ (c_X6_isSlot l dC dI s.heap.size p0 ) (va_cwS 1 hts g_X6_row_X6_isSlot rfl rfl rfl (by decide +kernel) ⟨Nat.le_of_ble_eq_true rfl, Nat.le_of_ble_eq_true rfl⟩) ⟨fun a U g mk q => by obtain ⟨q0, q1, qP, qK, qD⟩ := q; exact ⟨q0, q1, qP, va_K.moved (u := U) (U := U.calling g mk a) (Vm.Alike.refl U.vm) qK, qD⟩, fun U hU hW => ⟨rfl, by rw [hU], by rw [hU]; exact hPc, va_K.moved hW.alike hKc, hDc.weaken (fun _ _ _ _ => trivial)⟩⟩ rfl rfl hl.1 rfl (lv_room (Nat.le_of_ble_eq_true rfl)) dX6_row_1 ⟨Nat.le_of_ble_eq_true rfl, Nat.le_of_ble_eq_true rfl⟩) hS (fun q _ h => hFc q h) hFc (fun r_1 u t H1 locs ht hvm hw_2 hB hz1 hk1 hS => ?_)
  have hP1 : va_P (dC, dI) vwCl [] H1 := i_nilP
  have hD1 : va_D (va_A [] s.heap.size) [] := i_nilD
  try dsimp only at hw_2
  obtain ⟨hP, hD⟩ := va_join (wr := [(h0, .inr (6, [.ref tp, .int 0, .int 0, .int (-1), .ref rd, .ref gd, .ref im, .ref rw, .ref gn, .ref ho, .ref sq])), (rw, .inl (cr, 4, .inr (.inr (.inr (.inr fr))))), (r0, .inr (5, [.int 0, .int 0, .int 0, .ref n0])), (n0, .inl (cl0, 60, .inr (.inl (fun _ => 0)))), (r1, .inr (5, [.int 0, .int 0, .int 0, .ref n1])), (n1, .inl (cl1, 60, .inr (.inl (fun _ => 0)))), (r2, .inr (5, [.int 0, .int 0, .int 0, .ref n2])), (n2, .inl (cl2, 60, .inr (.inl (fun _ => 0)))), (r3, .inr (5, [.int 0, .int 0, .int 0, .ref n3])), (n3, .inl (cl3, 60, .inr (.inl (fun _ => 0))))]) (w1 := []) hP hD [] [0, 1, 2, 3, 4, 5, 6, 7, 8, 9] rfl rfl (by decide) (by decide) hk1 hFc hP1 hD1
  generalize H1 = H at hP hS ⊢
  have hP : va_P (dC, dI) vwCl [(h0, .inr (6, [.ref tp, .int 0, .int 0, .int (-1), .ref rd, .ref gd, .ref im, .ref rw, .ref gn, .ref ho, .ref sq])), (rw, .inl (cr, 4, .inr (.inr (.inr (.inr fr))))), (r0, .inr (5, [.int 0, .int 0, .int 0, .ref n0])), (n0, .inl (cl0, 60, .inr (.inl (fun _ => 0)))), (r1, .inr (5, [.int 0, .int 0, .int 0, .ref n1])), (n1, .inl (cl1, 60, .inr (.inl (fun _ => 0)))), (r2, .inr (5, [.int 0, .int 0, .int 0, .ref n2])), (n2, .inl (cl2, 60, .inr (.inl (fun _ => 0)))), (r3, .inr (5, [.int 0, .int 0, .int 0, .ref n3])), (n3, .inl (cl3, 60, .inr (.inl (fun _ => 0))))] H := hP
  have hD : va_D A [(h0, .inr (6, [.ref tp, .int 0, .int 0, .int (-1), .ref rd, .ref gd, .ref im, .ref rw, .ref gn, .ref ho, .ref sq])), (rw, .inl (cr, 4, .inr (.inr (.inr (.inr fr))))), (r0, .inr (5, [.int 0, .int 0, .int 0, .ref n0])), (n0, .inl (cl0, 60, .inr (.inl (fun _ => 0)))), (r1, .inr (5, [.int 0, .int 0, .int 0, .ref n1])), (n1, .inl (cl1, 60, .inr (.inl (fun _ => 0)))), (r2, .inr (5, [.int 0, .int 0, .int 0, .ref n2])), (n2, .inl (cl2, 60, .inr (.inl (fun _ => 0)))), (r3, .inr (5, [.int 0, .int 0, .int 0, .ref n3])), (n3, .inl (cl3, 60, .inr (.inl (fun _ => 0))))] := hD
  rcases i_bool hw_2 with ⟨r_19, hC⟩ | ⟨r_19, hC⟩
  · obtain rfl : r_1 = 1 := r_19
    have hC_3 := hC
    refine lv_if_eq (tgt := 22) hx hb dX6_row_4 (by decide) (fun h => absurd h (by decide)) (fun _ => ?_)
    refine lv_iload_n hx hb dX6_row_7 rfl (lv_at hl 2 rfl) ?_
    refine lv_if_lt (tgt := 22) hx hb dX6_row_8 (by decide) (fun c_5 => ?_) (fun c_5 => ?_)
    · have c_5 : p1.toInt < 0 := i_lt (a := p1) (b := 0) rfl (by decide) c_5
      refine lv_bipush (v := -2) hx hb dX6_row_22 (by decide) ?_
      refine W.widen (k := 0) (n := 0) (by omega) (by omega) ?_
      exact W.iret (v := -2) hx hb hr (fun t ht hW => ⟨⟨(-2), (), rfl, (by first | rfl | ((repeat' split) <;> (first | rfl | (exfalso; omega)))), trivial⟩, hS.F ht⟩) hS.2.2 dX6_row_24
    · have c_5 : 0 ≤ p1.toInt := i_nlt (a := p1) (b := 0) rfl (by decide) c_5
      refine lv_iload_n hx hb dX6_row_11 rfl (lv_at hl 2 rfl) ?_
      refine lv_iconst (v := 3) hx hb dX6_row_12 (by decide) ?_
      refine lv_icmp_gt (tgt := 22) hx hb dX6_row_13 (by decide) (fun c_6 => ?_) (fun c_6 => ?_)
      · have c_6 : 3 < p1.toInt := i_lt (a := 3) (b := p1) (by decide) rfl c_6
        refine lv_bipush (v := -2) hx hb dX6_row_22 (by decide) ?_
        refine W.widen (k := 0) (n := 0) (by omega) (by omega) ?_
        exact W.iret (v := -2) hx hb hr (fun t ht hW => ⟨⟨(-2), (), rfl, (by first | rfl | ((repeat' split) <;> (first | rfl | (exfalso; omega)))), trivial⟩, hS.F ht⟩) hS.2.2 dX6_row_24
      · have c_6 : p1.toInt ≤ 3 := i_nlt (a := 3) (b := p1) (by decide) rfl c_6
        refine lv_iload_n hx hb dX6_row_16 rfl (lv_at hl 3 rfl) ?_
        refine lv_bipush (v := 60) hx hb dX6_row_17 (by decide) ?_
        refine lv_icmp_le (tgt := 25) hx hb dX6_row_19 (by decide) (fun c_7 => ?_) (fun c_7 => ?_)
        · have c_7 : p2.toInt ≤ 60 := i_le (a := p2) (b := 60) rfl (by decide) c_7
          refine lv_iload_n hx hb dX6_row_25 rfl (lv_at hl 3 rfl) ?_
          refine lv_if_ge (tgt := 32) hx hb dX6_row_26 (by decide) (fun c_8 => ?_) (fun c_8 => ?_)
          · have c_8 : 0 ≤ p2.toInt := i_le (a := 0) (b := p2) (by decide) rfl c_8
            rcases (i_four (a := p0) (by omega) (by omega) : p0 = 0 ∨ p0 = 1 ∨ p0 = 2 ∨ p0 = 3) with rfl | rfl | rfl | rfl
            · refine lv_aload_n hx hb dX6_row_32 rfl (lv_at hl 0 rfl) ?_
              refine va_get (D := (dC, dI)) (ci := 6) (v := .ref rw) (C := RX6) (T := TX6) (N := 11) hx hb hts in_X6_row_X6 hown hK hP 0 rfl rfl 7 (by decide) (hts _ wd_X6_row_0) (fun _ h9 => h9) rfl dX6_row_33 ?_
              refine lv_iload_n hx hb dX6_row_36 rfl (lv_at hl 1 rfl) ?_
              refine va_aldq hx hb hK hP 1 0 rfl rfl (vp_in_iff.mpr ⟨by decide, by decide⟩) dX6_row_37 ?_
              refine W.eq (g2 := F0 m 38 ls (.ref r0 :: [])) (by rw [show fr (0 : Int32).toNatClampNeg = some r0 from hf0]; rfl) ?_
              refine lv_iload_n hx hb dX6_row_38 rfl (lv_at hl 2 rfl) ?_
              refine lv_iload_n hx hb dX6_row_39 rfl (lv_at hl 3 rfl) ?_
              have hPc := hP.sub (ws' := [(r0, .inr (5, [.int 0, .int 0, .int 0, .ref n0])), (n0, .inl (cl0, 60, .inr (.inl (fun _ => 0))))]) [2, 3] rfl
              have hDc := hD.sub (ws' := [(r0, .inr (5, [.int 0, .int 0, .int 0, .ref n0])), (n0, .inl (cl0, 60, .inr (.inl (fun _ => 0))))]) [2, 3] (by decide) rfl
              have hKc := hK.sub (tys' := [(cl0, .long)]) [1] rfl
              have hFc := va_free (wc := [(r0, .inr (5, [.int 0, .int 0, .int 0, .ref n0])), (n0, .inl (cl0, 60, .inr (.inl (fun _ => 0))))]) hD hS hA [2, 3] rfl
              refine va_callv (va_runV (As := [.int p1, .int p2]) (rest := []) ⟨hx, hb, hml, hown, hts⟩ (c_X5_begin l dC dI H.size r0 n0 cl0 p1 p2 ) (cwV 2 hts g_X6_row_X5_begin rfl rfl rfl (by decide +kernel) ⟨Nat.le_of_ble_eq_true rfl, Nat.le_of_ble_eq_true rfl⟩) ⟨fun a U g mk q => by obtain ⟨q0, q1, qP, qK, qD⟩ := q; exact ⟨q0, q1, qP, va_K.moved (u := U) (U := U.calling g mk a) (Vm.Alike.refl U.vm) qK, qD⟩, va_recv hKc hPc (ci := 5) (q0 := 0) rfl rfl, fun U hU hW => ⟨rfl, by rw [hU], by rw [hU]; exact hPc, va_K.moved hW.alike hKc, hDc.weaken (fun _ _ _ _ => trivial)⟩⟩ rfl rfl hl.1 rfl (lv_room (Nat.le_of_ble_eq_true rfl)) dX6_row_40 ⟨Nat.le_of_ble_eq_true rfl, Nat.le_of_ble_eq_true rfl⟩) hS (fun q _ h => hFc q h) hFc (fun u t H1 locs ht hvm hw_9 hB hz1 hk1 hS => ?_)
              have hP1 : va_P (dC, dI) vwCl [] H1 := i_nilP
              have hD1 : va_D (va_A [(r0, .inr (5, [.int 0, .int 0, .int 0, .ref n0])), (n0, .inl (cl0, 60, .inr (.inl (fun _ => 0))))] H.size) [] := i_nilD
              try dsimp only at hw_9
              obtain ⟨hP, hD⟩ := va_join (wr := [(h0, .inr (6, [.ref tp, .int 0, .int 0, .int (-1), .ref rd, .ref gd, .ref im, .ref rw, .ref gn, .ref ho, .ref sq])), (rw, .inl (cr, 4, .inr (.inr (.inr (.inr fr))))), (r1, .inr (5, [.int 0, .int 0, .int 0, .ref n1])), (n1, .inl (cl1, 60, .inr (.inl (fun _ => 0)))), (r2, .inr (5, [.int 0, .int 0, .int 0, .ref n2])), (n2, .inl (cl2, 60, .inr (.inl (fun _ => 0)))), (r3, .inr (5, [.int 0, .int 0, .int 0, .ref n3])), (n3, .inl (cl3, 60, .inr (.inl (fun _ => 0))))]) (w1 := []) hP hD [2, 3] [0, 1, 4, 5, 6, 7, 8, 9] rfl rfl (by decide) (by decide) hk1 hFc hP1 hD1
              generalize H1 = H at hP hS ⊢
              have hP : va_P (dC, dI) vwCl [(h0, .inr (6, [.ref tp, .int 0, .int 0, .int (-1), .ref rd, .ref gd, .ref im, .ref rw, .ref gn, .ref ho, .ref sq])), (rw, .inl (cr, 4, .inr (.inr (.inr (.inr fr))))), (r1, .inr (5, [.int 0, .int 0, .int 0, .ref n1])), (n1, .inl (cl1, 60, .inr (.inl (fun _ => 0)))), (r2, .inr (5, [.int 0, .int 0, .int 0, .ref n2])), (n2, .inl (cl2, 60, .inr (.inl (fun _ => 0)))), (r3, .inr (5, [.int 0, .int 0, .int 0, .ref n3])), (n3, .inl (cl3, 60, .inr (.inl (fun _ => 0))))] H := hP
              have hD : va_D A [(h0, .inr (6, [.ref tp, .int 0, .int 0, .int (-1), .ref rd, .ref gd, .ref im, .ref rw, .ref gn, .ref ho, .ref sq])), (rw, .inl (cr, 4, .inr (.inr (.inr (.inr fr))))), (r1, .inr (5, [.int 0, .int 0, .int 0, .ref n1])), (n1, .inl (cl1, 60, .inr (.inl (fun _ => 0)))), (r2, .inr (5, [.int 0, .int 0, .int 0, .ref n2])), (n2, .inl (cl2, 60, .inr (.inl (fun _ => 0)))), (r3, .inr (5, [.int 0, .int 0, .int 0, .ref n3])), (n3, .inl (cl3, 60, .inr (.inl (fun _ => 0))))] := hD
              refine lv_iconst (v := 0) hx hb dX6_row_43 (by decide) ?_
              refine W.widen (k := 0) (n := 0) (by omega) (by omega) ?_
              exact W.iret (v := 0) hx hb hr (fun t ht hW => ⟨⟨0, (), rfl, (by first | rfl | ((repeat' split) <;> (first | rfl | (exfalso; omega)))), trivial⟩, hS.F ht⟩) hS.2.2 dX6_row_44
            · refine lv_aload_n hx hb dX6_row_32 rfl (lv_at hl 0 rfl) ?_
              refine va_get (D := (dC, dI)) (ci := 6) (v := .ref rw) (C := RX6) (T := TX6) (N := 11) hx hb hts in_X6_row_X6 hown hK hP 0 rfl rfl 7 (by decide) (hts _ wd_X6_row_0) (fun _ h9 => h9) rfl dX6_row_33 ?_
              refine lv_iload_n hx hb dX6_row_36 rfl (lv_at hl 1 rfl) ?_
              refine va_aldq hx hb hK hP 1 0 rfl rfl (vp_in_iff.mpr ⟨by decide, by decide⟩) dX6_row_37 ?_
              refine W.eq (g2 := F0 m 38 ls (.ref r1 :: [])) (by rw [show fr (1 : Int32).toNatClampNeg = some r1 from hf1]; rfl) ?_
              refine lv_iload_n hx hb dX6_row_38 rfl (lv_at hl 2 rfl) ?_
              refine lv_iload_n hx hb dX6_row_39 rfl (lv_at hl 3 rfl) ?_
              have hPc := hP.sub (ws' := [(r1, .inr (5, [.int 0, .int 0, .int 0, .ref n1])), (n1, .inl (cl1, 60, .inr (.inl (fun _ => 0))))]) [4, 5] rfl
              have hDc := hD.sub (ws' := [(r1, .inr (5, [.int 0, .int 0, .int 0, .ref n1])), (n1, .inl (cl1, 60, .inr (.inl (fun _ => 0))))]) [4, 5] (by decide) rfl
              have hKc := hK.sub (tys' := [(cl1, .long)]) [2] rfl
              have hFc := va_free (wc := [(r1, .inr (5, [.int 0, .int 0, .int 0, .ref n1])), (n1, .inl (cl1, 60, .inr (.inl (fun _ => 0))))]) hD hS hA [4, 5] rfl
              refine va_callv (va_runV (As := [.int p1, .int p2]) (rest := []) ⟨hx, hb, hml, hown, hts⟩ (c_X5_begin l dC dI H.size r1 n1 cl1 p1 p2 ) (cwV 2 hts g_X6_row_X5_begin rfl rfl rfl (by decide +kernel) ⟨Nat.le_of_ble_eq_true rfl, Nat.le_of_ble_eq_true rfl⟩) ⟨fun a U g mk q => by obtain ⟨q0, q1, qP, qK, qD⟩ := q; exact ⟨q0, q1, qP, va_K.moved (u := U) (U := U.calling g mk a) (Vm.Alike.refl U.vm) qK, qD⟩, va_recv hKc hPc (ci := 5) (q0 := 0) rfl rfl, fun U hU hW => ⟨rfl, by rw [hU], by rw [hU]; exact hPc, va_K.moved hW.alike hKc, hDc.weaken (fun _ _ _ _ => trivial)⟩⟩ rfl rfl hl.1 rfl (lv_room (Nat.le_of_ble_eq_true rfl)) dX6_row_40 ⟨Nat.le_of_ble_eq_true rfl, Nat.le_of_ble_eq_true rfl⟩) hS (fun q _ h => hFc q h) hFc (fun u t H1 locs ht hvm hw_10 hB hz1 hk1 hS => ?_)
              have hP1 : va_P (dC, dI) vwCl [] H1 := i_nilP
              have hD1 : va_D (va_A [(r1, .inr (5, [.int 0, .int 0, .int 0, .ref n1])), (n1, .inl (cl1, 60, .inr (.inl (fun _ => 0))))] H.size) [] := i_nilD
              try dsimp only at hw_10
              obtain ⟨hP, hD⟩ := va_join (wr := [(h0, .inr (6, [.ref tp, .int 0, .int 0, .int (-1), .ref rd, .ref gd, .ref im, .ref rw, .ref gn, .ref ho, .ref sq])), (rw, .inl (cr, 4, .inr (.inr (.inr (.inr fr))))), (r0, .inr (5, [.int 0, .int 0, .int 0, .ref n0])), (n0, .inl (cl0, 60, .inr (.inl (fun _ => 0)))), (r2, .inr (5, [.int 0, .int 0, .int 0, .ref n2])), (n2, .inl (cl2, 60, .inr (.inl (fun _ => 0)))), (r3, .inr (5, [.int 0, .int 0, .int 0, .ref n3])), (n3, .inl (cl3, 60, .inr (.inl (fun _ => 0))))]) (w1 := []) hP hD [4, 5] [0, 1, 2, 3, 6, 7, 8, 9] rfl rfl (by decide) (by decide) hk1 hFc hP1 hD1
              generalize H1 = H at hP hS ⊢
              have hP : va_P (dC, dI) vwCl [(h0, .inr (6, [.ref tp, .int 0, .int 0, .int (-1), .ref rd, .ref gd, .ref im, .ref rw, .ref gn, .ref ho, .ref sq])), (rw, .inl (cr, 4, .inr (.inr (.inr (.inr fr))))), (r0, .inr (5, [.int 0, .int 0, .int 0, .ref n0])), (n0, .inl (cl0, 60, .inr (.inl (fun _ => 0)))), (r2, .inr (5, [.int 0, .int 0, .int 0, .ref n2])), (n2, .inl (cl2, 60, .inr (.inl (fun _ => 0)))), (r3, .inr (5, [.int 0, .int 0, .int 0, .ref n3])), (n3, .inl (cl3, 60, .inr (.inl (fun _ => 0))))] H := hP
              have hD : va_D A [(h0, .inr (6, [.ref tp, .int 0, .int 0, .int (-1), .ref rd, .ref gd, .ref im, .ref rw, .ref gn, .ref ho, .ref sq])), (rw, .inl (cr, 4, .inr (.inr (.inr (.inr fr))))), (r0, .inr (5, [.int 0, .int 0, .int 0, .ref n0])), (n0, .inl (cl0, 60, .inr (.inl (fun _ => 0)))), (r2, .inr (5, [.int 0, .int 0, .int 0, .ref n2])), (n2, .inl (cl2, 60, .inr (.inl (fun _ => 0)))), (r3, .inr (5, [.int 0, .int 0, .int 0, .ref n3])), (n3, .inl (cl3, 60, .inr (.inl (fun _ => 0))))] := hD
              refine lv_iconst (v := 0) hx hb dX6_row_43 (by decide) ?_
              refine W.widen (k := 0) (n := 0) (by omega) (by omega) ?_
              exact W.iret (v := 0) hx hb hr (fun t ht hW => ⟨⟨0, (), rfl, (by first | rfl | ((repeat' split) <;> (first | rfl | (exfalso; omega)))), trivial⟩, hS.F ht⟩) hS.2.2 dX6_row_44
            · refine lv_aload_n hx hb dX6_row_32 rfl (lv_at hl 0 rfl) ?_
              refine va_get (D := (dC, dI)) (ci := 6) (v := .ref rw) (C := RX6) (T := TX6) (N := 11) hx hb hts in_X6_row_X6 hown hK hP 0 rfl rfl 7 (by decide) (hts _ wd_X6_row_0) (fun _ h9 => h9) rfl dX6_row_33 ?_
              refine lv_iload_n hx hb dX6_row_36 rfl (lv_at hl 1 rfl) ?_
              refine va_aldq hx hb hK hP 1 0 rfl rfl (vp_in_iff.mpr ⟨by decide, by decide⟩) dX6_row_37 ?_
              refine W.eq (g2 := F0 m 38 ls (.ref r2 :: [])) (by rw [show fr (2 : Int32).toNatClampNeg = some r2 from hf2]; rfl) ?_
              refine lv_iload_n hx hb dX6_row_38 rfl (lv_at hl 2 rfl) ?_
              refine lv_iload_n hx hb dX6_row_39 rfl (lv_at hl 3 rfl) ?_
              have hPc := hP.sub (ws' := [(r2, .inr (5, [.int 0, .int 0, .int 0, .ref n2])), (n2, .inl (cl2, 60, .inr (.inl (fun _ => 0))))]) [6, 7] rfl
              have hDc := hD.sub (ws' := [(r2, .inr (5, [.int 0, .int 0, .int 0, .ref n2])), (n2, .inl (cl2, 60, .inr (.inl (fun _ => 0))))]) [6, 7] (by decide) rfl
              have hKc := hK.sub (tys' := [(cl2, .long)]) [3] rfl
              have hFc := va_free (wc := [(r2, .inr (5, [.int 0, .int 0, .int 0, .ref n2])), (n2, .inl (cl2, 60, .inr (.inl (fun _ => 0))))]) hD hS hA [6, 7] rfl
              refine va_callv (va_runV (As := [.int p1, .int p2]) (rest := []) ⟨hx, hb, hml, hown, hts⟩ (c_X5_begin l dC dI H.size r2 n2 cl2 p1 p2 ) (cwV 2 hts g_X6_row_X5_begin rfl rfl rfl (by decide +kernel) ⟨Nat.le_of_ble_eq_true rfl, Nat.le_of_ble_eq_true rfl⟩) ⟨fun a U g mk q => by obtain ⟨q0, q1, qP, qK, qD⟩ := q; exact ⟨q0, q1, qP, va_K.moved (u := U) (U := U.calling g mk a) (Vm.Alike.refl U.vm) qK, qD⟩, va_recv hKc hPc (ci := 5) (q0 := 0) rfl rfl, fun U hU hW => ⟨rfl, by rw [hU], by rw [hU]; exact hPc, va_K.moved hW.alike hKc, hDc.weaken (fun _ _ _ _ => trivial)⟩⟩ rfl rfl hl.1 rfl (lv_room (Nat.le_of_ble_eq_true rfl)) dX6_row_40 ⟨Nat.le_of_ble_eq_true rfl, Nat.le_of_ble_eq_true rfl⟩) hS (fun q _ h => hFc q h) hFc (fun u t H1 locs ht hvm hw_11 hB hz1 hk1 hS => ?_)
              have hP1 : va_P (dC, dI) vwCl [] H1 := i_nilP
              have hD1 : va_D (va_A [(r2, .inr (5, [.int 0, .int 0, .int 0, .ref n2])), (n2, .inl (cl2, 60, .inr (.inl (fun _ => 0))))] H.size) [] := i_nilD
              try dsimp only at hw_11
              obtain ⟨hP, hD⟩ := va_join (wr := [(h0, .inr (6, [.ref tp, .int 0, .int 0, .int (-1), .ref rd, .ref gd, .ref im, .ref rw, .ref gn, .ref ho, .ref sq])), (rw, .inl (cr, 4, .inr (.inr (.inr (.inr fr))))), (r0, .inr (5, [.int 0, .int 0, .int 0, .ref n0])), (n0, .inl (cl0, 60, .inr (.inl (fun _ => 0)))), (r1, .inr (5, [.int 0, .int 0, .int 0, .ref n1])), (n1, .inl (cl1, 60, .inr (.inl (fun _ => 0)))), (r3, .inr (5, [.int 0, .int 0, .int 0, .ref n3])), (n3, .inl (cl3, 60, .inr (.inl (fun _ => 0))))]) (w1 := []) hP hD [6, 7] [0, 1, 2, 3, 4, 5, 8, 9] rfl rfl (by decide) (by decide) hk1 hFc hP1 hD1
              generalize H1 = H at hP hS ⊢
              have hP : va_P (dC, dI) vwCl [(h0, .inr (6, [.ref tp, .int 0, .int 0, .int (-1), .ref rd, .ref gd, .ref im, .ref rw, .ref gn, .ref ho, .ref sq])), (rw, .inl (cr, 4, .inr (.inr (.inr (.inr fr))))), (r0, .inr (5, [.int 0, .int 0, .int 0, .ref n0])), (n0, .inl (cl0, 60, .inr (.inl (fun _ => 0)))), (r1, .inr (5, [.int 0, .int 0, .int 0, .ref n1])), (n1, .inl (cl1, 60, .inr (.inl (fun _ => 0)))), (r3, .inr (5, [.int 0, .int 0, .int 0, .ref n3])), (n3, .inl (cl3, 60, .inr (.inl (fun _ => 0))))] H := hP
              have hD : va_D A [(h0, .inr (6, [.ref tp, .int 0, .int 0, .int (-1), .ref rd, .ref gd, .ref im, .ref rw, .ref gn, .ref ho, .ref sq])), (rw, .inl (cr, 4, .inr (.inr (.inr (.inr fr))))), (r0, .inr (5, [.int 0, .int 0, .int 0, .ref n0])), (n0, .inl (cl0, 60, .inr (.inl (fun _ => 0)))), (r1, .inr (5, [.int 0, .int 0, .int 0, .ref n1])), (n1, .inl (cl1, 60, .inr (.inl (fun _ => 0)))), (r3, .inr (5, [.int 0, .int 0, .int 0, .ref n3])), (n3, .inl (cl3, 60, .inr (.inl (fun _ => 0))))] := hD
              refine lv_iconst (v := 0) hx hb dX6_row_43 (by decide) ?_
              refine W.widen (k := 0) (n := 0) (by omega) (by omega) ?_
              exact W.iret (v := 0) hx hb hr (fun t ht hW => ⟨⟨0, (), rfl, (by first | rfl | ((repeat' split) <;> (first | rfl | (exfalso; omega)))), trivial⟩, hS.F ht⟩) hS.2.2 dX6_row_44
            · refine lv_aload_n hx hb dX6_row_32 rfl (lv_at hl 0 rfl) ?_
              refine va_get (D := (dC, dI)) (ci := 6) (v := .ref rw) (C := RX6) (T := TX6) (N := 11) hx hb hts in_X6_row_X6 hown hK hP 0 rfl rfl 7 (by decide) (hts _ wd_X6_row_0) (fun _ h9 => h9) rfl dX6_row_33 ?_
              refine lv_iload_n hx hb dX6_row_36 rfl (lv_at hl 1 rfl) ?_
              refine va_aldq hx hb hK hP 1 0 rfl rfl (vp_in_iff.mpr ⟨by decide, by decide⟩) dX6_row_37 ?_
              refine W.eq (g2 := F0 m 38 ls (.ref r3 :: [])) (by rw [show fr (3 : Int32).toNatClampNeg = some r3 from hf3]; rfl) ?_
              refine lv_iload_n hx hb dX6_row_38 rfl (lv_at hl 2 rfl) ?_
              refine lv_iload_n hx hb dX6_row_39 rfl (lv_at hl 3 rfl) ?_
              have hPc := hP.sub (ws' := [(r3, .inr (5, [.int 0, .int 0, .int 0, .ref n3])), (n3, .inl (cl3, 60, .inr (.inl (fun _ => 0))))]) [8, 9] rfl
              have hDc := hD.sub (ws' := [(r3, .inr (5, [.int 0, .int 0, .int 0, .ref n3])), (n3, .inl (cl3, 60, .inr (.inl (fun _ => 0))))]) [8, 9] (by decide) rfl
              have hKc := hK.sub (tys' := [(cl3, .long)]) [4] rfl
              have hFc := va_free (wc := [(r3, .inr (5, [.int 0, .int 0, .int 0, .ref n3])), (n3, .inl (cl3, 60, .inr (.inl (fun _ => 0))))]) hD hS hA [8, 9] rfl
              refine va_callv (va_runV (As := [.int p1, .int p2]) (rest := []) ⟨hx, hb, hml, hown, hts⟩ (c_X5_begin l dC dI H.size r3 n3 cl3 p1 p2 ) (cwV 2 hts g_X6_row_X5_begin rfl rfl rfl (by decide +kernel) ⟨Nat.le_of_ble_eq_true rfl, Nat.le_of_ble_eq_true rfl⟩) ⟨fun a U g mk q => by obtain ⟨q0, q1, qP, qK, qD⟩ := q; exact ⟨q0, q1, qP, va_K.moved (u := U) (U := U.calling g mk a) (Vm.Alike.refl U.vm) qK, qD⟩, va_recv hKc hPc (ci := 5) (q0 := 0) rfl rfl, fun U hU hW => ⟨rfl, by rw [hU], by rw [hU]; exact hPc, va_K.moved hW.alike hKc, hDc.weaken (fun _ _ _ _ => trivial)⟩⟩ rfl rfl hl.1 rfl (lv_room (Nat.le_of_ble_eq_true rfl)) dX6_row_40 ⟨Nat.le_of_ble_eq_true rfl, Nat.le_of_ble_eq_true rfl⟩) hS (fun q _ h => hFc q h) hFc (fun u t H1 locs ht hvm hw_12 hB hz1 hk1 hS => ?_)
              have hP1 : va_P (dC, dI) vwCl [] H1 := i_nilP
              have hD1 : va_D (va_A [(r3, .inr (5, [.int 0, .int 0, .int 0, .ref n3])), (n3, .inl (cl3, 60, .inr (.inl (fun _ => 0))))] H.size) [] := i_nilD
              try dsimp only at hw_12
              obtain ⟨hP, hD⟩ := va_join (wr := [(h0, .inr (6, [.ref tp, .int 0, .int 0, .int (-1), .ref rd, .ref gd, .ref im, .ref rw, .ref gn, .ref ho, .ref sq])), (rw, .inl (cr, 4, .inr (.inr (.inr (.inr fr))))), (r0, .inr (5, [.int 0, .int 0, .int 0, .ref n0])), (n0, .inl (cl0, 60, .inr (.inl (fun _ => 0)))), (r1, .inr (5, [.int 0, .int 0, .int 0, .ref n1])), (n1, .inl (cl1, 60, .inr (.inl (fun _ => 0)))), (r2, .inr (5, [.int 0, .int 0, .int 0, .ref n2])), (n2, .inl (cl2, 60, .inr (.inl (fun _ => 0))))]) (w1 := []) hP hD [8, 9] [0, 1, 2, 3, 4, 5, 6, 7] rfl rfl (by decide) (by decide) hk1 hFc hP1 hD1
              generalize H1 = H at hP hS ⊢
              have hP : va_P (dC, dI) vwCl [(h0, .inr (6, [.ref tp, .int 0, .int 0, .int (-1), .ref rd, .ref gd, .ref im, .ref rw, .ref gn, .ref ho, .ref sq])), (rw, .inl (cr, 4, .inr (.inr (.inr (.inr fr))))), (r0, .inr (5, [.int 0, .int 0, .int 0, .ref n0])), (n0, .inl (cl0, 60, .inr (.inl (fun _ => 0)))), (r1, .inr (5, [.int 0, .int 0, .int 0, .ref n1])), (n1, .inl (cl1, 60, .inr (.inl (fun _ => 0)))), (r2, .inr (5, [.int 0, .int 0, .int 0, .ref n2])), (n2, .inl (cl2, 60, .inr (.inl (fun _ => 0))))] H := hP
              have hD : va_D A [(h0, .inr (6, [.ref tp, .int 0, .int 0, .int (-1), .ref rd, .ref gd, .ref im, .ref rw, .ref gn, .ref ho, .ref sq])), (rw, .inl (cr, 4, .inr (.inr (.inr (.inr fr))))), (r0, .inr (5, [.int 0, .int 0, .int 0, .ref n0])), (n0, .inl (cl0, 60, .inr (.inl (fun _ => 0)))), (r1, .inr (5, [.int 0, .int 0, .int 0, .ref n1])), (n1, .inl (cl1, 60, .inr (.inl (fun _ => 0)))), (r2, .inr (5, [.int 0, .int 0, .int 0, .ref n2])), (n2, .inl (cl2, 60, .inr (.inl (fun _ => 0))))] := hD
              refine lv_iconst (v := 0) hx hb dX6_row_43 (by decide) ?_
              refine W.widen (k := 0) (n := 0) (by omega) (by omega) ?_
              exact W.iret (v := 0) hx hb hr (fun t ht hW => ⟨⟨0, (), rfl, (by first | rfl | ((repeat' split) <;> (first | rfl | (exfalso; omega)))), trivial⟩, hS.F ht⟩) hS.2.2 dX6_row_44
          · have c_8 : p2.toInt < 0 := i_nle (a := 0) (b := p2) (by decide) rfl c_8
            refine lv_bipush (v := -3) hx hb dX6_row_29 (by decide) ?_
            refine W.widen (k := 0) (n := 0) (by omega) (by omega) ?_
            exact W.iret (v := -3) hx hb hr (fun t ht hW => ⟨⟨(-3), (), rfl, (by first | rfl | ((repeat' split) <;> (first | rfl | (exfalso; omega)))), trivial⟩, hS.F ht⟩) hS.2.2 dX6_row_31
        · have c_7 : 60 < p2.toInt := i_nle (a := p2) (b := 60) rfl (by decide) c_7
          refine lv_bipush (v := -2) hx hb dX6_row_22 (by decide) ?_
          refine W.widen (k := 0) (n := 0) (by omega) (by omega) ?_
          exact W.iret (v := -2) hx hb hr (fun t ht hW => ⟨⟨(-2), (), rfl, (by first | rfl | ((repeat' split) <;> (first | rfl | (exfalso; omega)))), trivial⟩, hS.F ht⟩) hS.2.2 dX6_row_24
  · obtain rfl : r_1 = 0 := r_19
    have hC_13 := hC
    refine lv_if_eq (tgt := 22) hx hb dX6_row_4 (by decide) (fun _ => ?_) (fun h => absurd (by decide) h)
    refine lv_bipush (v := -2) hx hb dX6_row_22 (by decide) ?_
    refine W.widen (k := 0) (n := 0) (by omega) (by omega) ?_
    exact W.iret (v := -2) hx hb hr (fun t ht hW => ⟨⟨(-2), (), rfl, (by first | rfl | ((repeat' split) <;> (first | rfl | (exfalso; omega)))), trivial⟩, hS.F ht⟩) hS.2.2 dX6_row_24

theorem dX6_write_0 : decode cX6_write 0 = .ok (.iload_n 1, 1) := by decide +kernel
theorem dX6_write_1 : decode cX6_write 1 = .ok (.invokestatic 211, 3) := by decide +kernel
theorem dX6_write_4 : decode cX6_write 4 = .ok (.ifCond .ne 6, 3) := by decide +kernel
theorem dX6_write_7 : decode cX6_write 7 = .ok (.bipush (-2), 2) := by decide +kernel
theorem dX6_write_9 : decode cX6_write 9 = .ok (.ireturn, 1) := by decide +kernel
theorem dX6_write_10 : decode cX6_write 10 = .ok (.aload_n 0, 1) := by decide +kernel
theorem dX6_write_11 : decode cX6_write 11 = .ok (.getfield 43, 3) := by decide +kernel
theorem dX6_write_14 : decode cX6_write 14 = .ok (.iload_n 1, 1) := by decide +kernel
theorem dX6_write_15 : decode cX6_write 15 = .ok (.aaload, 1) := by decide +kernel
theorem dX6_write_16 : decode cX6_write 16 = .ok (.astore 5, 2) := by decide +kernel
theorem dX6_write_18 : decode cX6_write 18 = .ok (.aload 5, 2) := by decide +kernel
theorem dX6_write_20 : decode cX6_write 20 = .ok (.getfield 214, 3) := by decide +kernel
theorem dX6_write_23 : decode cX6_write 23 = .ok (.ifCond .ne 6, 3) := by decide +kernel
theorem dX6_write_26 : decode cX6_write 26 = .ok (.bipush (-6), 2) := by decide +kernel
theorem dX6_write_28 : decode cX6_write 28 = .ok (.ireturn, 1) := by decide +kernel
def wz_X6_write : List Cond := .code yX6_write cX6_write 6 (some .int) :: ([Cond.fieldLink RX6 43 "HedgeMaze" "rows" "[LHedgeMaze$Row;", Cond.fieldLink RX6 214 "HedgeMaze$Row" "there" "Z", Cond.methodLink RX6 211 yX6_isSlot, Cond.static yX6_isSlot, Cond.initialized RX6, Cond.code yX6_isSlot cX6_isSlot 1 (some .boolean)] ++ wsX60 ++ wsX50)
theorem wd_X6_write_0 : Cond.fieldLink RX6 43 "HedgeMaze" "rows" "[LHedgeMaze$Row;" ∈ wz_X6_write := List.mem_of_getElem? (i := 1) rfl
theorem wd_X6_write_1 : Cond.fieldLink RX6 214 "HedgeMaze$Row" "there" "Z" ∈ wz_X6_write := List.mem_of_getElem? (i := 2) rfl
theorem in_X6_write_X6 : ∀ w ∈ wsX60, w ∈ wz_X6_write := fun _ h => List.mem_cons_of_mem _ (List.mem_append_left _ (List.mem_append_right _ h))
theorem in_X6_write_X5 : ∀ w ∈ wsX50, w ∈ wz_X6_write := fun _ h => List.mem_cons_of_mem _ (List.mem_append_right _ h)
set_option maxRecDepth 20000 in
theorem g_X6_write_X6_isSlot : GoodIn wz_X6_write (va_wsS RX6 211 yX6_isSlot wz_X6_isSlot) := goodIn_r _ [3, 4, 5, 6] rfl (by decide +kernel)
set_option maxHeartbeats 4000000 in
set_option maxRecDepth 100000 in
theorem c_X6_write (l : Launch) (dC : Nat → ClassId) (dI : Nat → Nat → Nat) (sz : Nat) (h0 : Nat) (tp : Nat) (rd : Nat) (gd : Nat) (im : Nat) (rw : Nat) (gn : Nat) (ho : Nat) (sq : Nat) (cr : ClassId) (fr : Nat → Option Nat) (r0 : Nat) (r1 : Nat) (r2 : Nat) (r3 : Nat) (n0 : Nat) (n1 : Nat) (n2 : Nat) (n3 : Nat) (cl0 : ClassId) (cl1 : ClassId) (cl2 : ClassId) (cl3 : ClassId) (p0 : Int32) (p1 : Int32) (p2 : Int64) (hf0 : fr 0 = some r0) (hf1 : fr 1 = some r1) (hf2 : fr 2 = some r2) (hf3 : fr 3 = some r3) : Met l yX6_write wz_X6_write ({ frames := 1, cells := 0, slots := 0, locals := 20 }) (va_Pc [.ref h0, .int p0, .int p1, .long p2] (fun U => U.heap.size = sz ∧ va_P (dC, dI) vwCl [(h0, .inr (6, [.ref tp, .int 0, .int 0, .int (-1), .ref rd, .ref gd, .ref im, .ref rw, .ref gn, .ref ho, .ref sq])), (rw, .inl (cr, 4, .inr (.inr (.inr (.inr fr))))), (r0, .inr (5, [.int 0, .int 0, .int 0, .ref n0])), (n0, .inl (cl0, 60, .inr (.inl (fun _ => 0)))), (r1, .inr (5, [.int 0, .int 0, .int 0, .ref n1])), (n1, .inl (cl1, 60, .inr (.inl (fun _ => 0)))), (r2, .inr (5, [.int 0, .int 0, .int 0, .ref n2])), (n2, .inl (cl2, 60, .inr (.inl (fun _ => 0)))), (r3, .inr (5, [.int 0, .int 0, .int 0, .ref n3])), (n3, .inl (cl3, 60, .inr (.inl (fun _ => 0))))] U.heap ∧ va_K (dC, dI) vwCl [(cr, .object RX5), (cl0, .long), (cl1, .long), (cl2, .long), (cl3, .long)] U ∧ va_D (fun _ => True) [(h0, .inr (6, [.ref tp, .int 0, .int 0, .int (-1), .ref rd, .ref gd, .ref im, .ref rw, .ref gn, .ref ho, .ref sq])), (rw, .inl (cr, 4, .inr (.inr (.inr (.inr fr))))), (r0, .inr (5, [.int 0, .int 0, .int 0, .ref n0])), (n0, .inl (cl0, 60, .inr (.inl (fun _ => 0)))), (r1, .inr (5, [.int 0, .int 0, .int 0, .ref n1])), (n1, .inl (cl1, 60, .inr (.inl (fun _ => 0)))), (r2, .inr (5, [.int 0, .int 0, .int 0, .ref n2])), (n2, .inl (cl2, 60, .inr (.inl (fun _ => 0)))), (r3, .inr (5, [.int 0, .int 0, .int 0, .ref n3])), (n3, .inl (cl3, 60, .inr (.inl (fun _ => 0))))])) (va_Qi (fun (r : Int32) (u : Unit) => r = if 0 ≤ p0.toInt ∧ p0.toInt ≤ 3 then -6 else -2) (fun (_ : Unit) (_ : State) => True) (va_A [(h0, .inr (6, [.ref tp, .int 0, .int 0, .int (-1), .ref rd, .ref gd, .ref im, .ref rw, .ref gn, .ref ho, .ref sq])), (rw, .inl (cr, 4, .inr (.inr (.inr (.inr fr))))), (r0, .inr (5, [.int 0, .int 0, .int 0, .ref n0])), (n0, .inl (cl0, 60, .inr (.inl (fun _ => 0)))), (r1, .inr (5, [.int 0, .int 0, .int 0, .ref n1])), (n1, .inl (cl1, 60, .inr (.inl (fun _ => 0)))), (r2, .inr (5, [.int 0, .int 0, .int 0, .ref n2])), (n2, .inl (cl2, 60, .inr (.inl (fun _ => 0)))), (r3, .inr (5, [.int 0, .int 0, .int 0, .ref n3])), (n3, .inl (cl3, 60, .inr (.inl (fun _ => 0))))] sz)) 0 0 (va_A [(h0, .inr (6, [.ref tp, .int 0, .int 0, .int (-1), .ref rd, .ref gd, .ref im, .ref rw, .ref gn, .ref ho, .ref sq])), (rw, .inl (cr, 4, .inr (.inr (.inr (.inr fr))))), (r0, .inr (5, [.int 0, .int 0, .int 0, .ref n0])), (n0, .inl (cl0, 60, .inr (.inl (fun _ => 0)))), (r1, .inr (5, [.int 0, .int 0, .int 0, .ref n1])), (n1, .inl (cl1, 60, .inr (.inl (fun _ => 0)))), (r2, .inr (5, [.int 0, .int 0, .int 0, .ref n2])), (n2, .inl (cl2, 60, .inr (.inl (fun _ => 0)))), (r3, .inr (5, [.int 0, .int 0, .int 0, .ref n3])), (n3, .inl (cl3, 60, .inr (.inl (fun _ => 0))))] sz) := by
  refine Met.ofW (cc := cX6_write) (maxL := 6) (ret := (some .int)) (by decide) rfl ?_
  intro p e s m args below meth c s₁ B hml hv
  obtain ⟨rfl, hsz, hP, hK, hD0⟩ := hv
  have hx := B.exec
  have hb := B.bytes
  have hr := B.returns
  have hts := atoms_spec (ws := wz_X6_write) B.pre
  have hown : s.vm.findClass RX6 = some m.cls := findClass_of_methodNamed B.named
  have hlocks := B.notSynchronized
  subst hsz
  have hD := hD0.self (sz := s.heap.size)
  generalize hAe : va_A [(h0, .inr (6, [.ref tp, .int 0, .int 0, .int (-1), .ref rd, .ref gd, .ref im, .ref rw, .ref gn, .ref ho, .ref sq])), (rw, .inl (cr, 4, .inr (.inr (.inr (.inr fr))))), (r0, .inr (5, [.int 0, .int 0, .int 0, .ref n0])), (n0, .inl (cl0, 60, .inr (.inl (fun _ => 0)))), (r1, .inr (5, [.int 0, .int 0, .int 0, .ref n1])), (n1, .inl (cl1, 60, .inr (.inl (fun _ => 0)))), (r2, .inr (5, [.int 0, .int 0, .int 0, .ref n2])), (n2, .inl (cl2, 60, .inr (.inl (fun _ => 0)))), (r3, .inr (5, [.int 0, .int 0, .int 0, .ref n3])), (n3, .inl (cl3, 60, .inr (.inl (fun _ => 0))))] s.heap.size = A at hD ⊢
  have hA : ∀ q : Nat, s.heap.size ≤ q → A q := fun q h => by rw [← hAe]; exact Or.inr h
  have hS : va_S A s.heap s.heap [] := va_S.rf
  have hP : va_P (dC, dI) vwCl [(h0, .inr (6, [.ref tp, .int 0, .int 0, .int (-1), .ref rd, .ref gd, .ref im, .ref rw, .ref gn, .ref ho, .ref sq])), (rw, .inl (cr, 4, .inr (.inr (.inr (.inr fr))))), (r0, .inr (5, [.int 0, .int 0, .int 0, .ref n0])), (n0, .inl (cl0, 60, .inr (.inl (fun _ => 0)))), (r1, .inr (5, [.int 0, .int 0, .int 0, .ref n1])), (n1, .inl (cl1, 60, .inr (.inl (fun _ => 0)))), (r2, .inr (5, [.int 0, .int 0, .int 0, .ref n2])), (n2, .inl (cl2, 60, .inr (.inl (fun _ => 0)))), (r3, .inr (5, [.int 0, .int 0, .int 0, .ref n3])), (n3, .inl (cl3, 60, .inr (.inl (fun _ => 0))))] s.heap := hP
  have hl := lv_entry ([.ref h0, .int p0, .int p1, .long p2]) (n := 6) (Nat.le_of_ble_eq_true rfl)
  rw [lg_entry_eq]
  generalize (lg_sl ([.ref h0, .int p0, .int p1, .long p2]) ++ List.replicate (6 - (lg_sl ([.ref h0, .int p0, .int p1, .long p2])).length) Slot.unset).toArray = ls at hl ⊢
  have hl : lv_has ls 6 [(0, .ref h0), (1, .int p0), (2, .int p1), (3, .long p2)] := hl
  refine lv_iload_n hx hb dX6_write_0 rfl (lv_at hl 1 rfl) ?_
  have hPc := hP.sub (ws' := []) [] rfl
  have hDc := hD.sub (ws' := []) [] (by decide) rfl
  have hKc := hK.sub (tys' := []) [] rfl
  have hFc := va_free (wc := []) hD hS hA [] rfl
  refine va_calli (va_runS (As := [.int p0]) (rest := []) ⟨hx, hb, hml, hown, hts⟩ (c_X6_isSlot l dC dI s.heap.size p0 ) (va_cwS 1 hts g_X6_write_X6_isSlot rfl rfl rfl (by decide +kernel) ⟨Nat.le_of_ble_eq_true rfl, Nat.le_of_ble_eq_true rfl⟩) ⟨fun a U g mk q => by obtain ⟨q0, q1, qP, qK, qD⟩ := q; exact ⟨q0, q1, qP, va_K.moved (u := U) (U := U.calling g mk a) (Vm.Alike.refl U.vm) qK, qD⟩, fun U hU hW => ⟨rfl, by rw [hU], by rw [hU]; exact hPc, va_K.moved hW.alike hKc, hDc.weaken (fun _ _ _ _ => trivial)⟩⟩ rfl rfl hl.1 rfl (lv_room (Nat.le_of_ble_eq_true rfl)) dX6_write_1 ⟨Nat.le_of_ble_eq_true rfl, Nat.le_of_ble_eq_true rfl⟩) hS (fun q _ h => hFc q h) hFc (fun r_1 u t H1 locs ht hvm hw_2 hB hz1 hk1 hS => ?_)
  have hP1 : va_P (dC, dI) vwCl [] H1 := i_nilP
  have hD1 : va_D (va_A [] s.heap.size) [] := i_nilD
  try dsimp only at hw_2
  obtain ⟨hP, hD⟩ := va_join (wr := [(h0, .inr (6, [.ref tp, .int 0, .int 0, .int (-1), .ref rd, .ref gd, .ref im, .ref rw, .ref gn, .ref ho, .ref sq])), (rw, .inl (cr, 4, .inr (.inr (.inr (.inr fr))))), (r0, .inr (5, [.int 0, .int 0, .int 0, .ref n0])), (n0, .inl (cl0, 60, .inr (.inl (fun _ => 0)))), (r1, .inr (5, [.int 0, .int 0, .int 0, .ref n1])), (n1, .inl (cl1, 60, .inr (.inl (fun _ => 0)))), (r2, .inr (5, [.int 0, .int 0, .int 0, .ref n2])), (n2, .inl (cl2, 60, .inr (.inl (fun _ => 0)))), (r3, .inr (5, [.int 0, .int 0, .int 0, .ref n3])), (n3, .inl (cl3, 60, .inr (.inl (fun _ => 0))))]) (w1 := []) hP hD [] [0, 1, 2, 3, 4, 5, 6, 7, 8, 9] rfl rfl (by decide) (by decide) hk1 hFc hP1 hD1
  generalize H1 = H at hP hS ⊢
  have hP : va_P (dC, dI) vwCl [(h0, .inr (6, [.ref tp, .int 0, .int 0, .int (-1), .ref rd, .ref gd, .ref im, .ref rw, .ref gn, .ref ho, .ref sq])), (rw, .inl (cr, 4, .inr (.inr (.inr (.inr fr))))), (r0, .inr (5, [.int 0, .int 0, .int 0, .ref n0])), (n0, .inl (cl0, 60, .inr (.inl (fun _ => 0)))), (r1, .inr (5, [.int 0, .int 0, .int 0, .ref n1])), (n1, .inl (cl1, 60, .inr (.inl (fun _ => 0)))), (r2, .inr (5, [.int 0, .int 0, .int 0, .ref n2])), (n2, .inl (cl2, 60, .inr (.inl (fun _ => 0)))), (r3, .inr (5, [.int 0, .int 0, .int 0, .ref n3])), (n3, .inl (cl3, 60, .inr (.inl (fun _ => 0))))] H := hP
  have hD : va_D A [(h0, .inr (6, [.ref tp, .int 0, .int 0, .int (-1), .ref rd, .ref gd, .ref im, .ref rw, .ref gn, .ref ho, .ref sq])), (rw, .inl (cr, 4, .inr (.inr (.inr (.inr fr))))), (r0, .inr (5, [.int 0, .int 0, .int 0, .ref n0])), (n0, .inl (cl0, 60, .inr (.inl (fun _ => 0)))), (r1, .inr (5, [.int 0, .int 0, .int 0, .ref n1])), (n1, .inl (cl1, 60, .inr (.inl (fun _ => 0)))), (r2, .inr (5, [.int 0, .int 0, .int 0, .ref n2])), (n2, .inl (cl2, 60, .inr (.inl (fun _ => 0)))), (r3, .inr (5, [.int 0, .int 0, .int 0, .ref n3])), (n3, .inl (cl3, 60, .inr (.inl (fun _ => 0))))] := hD
  rcases i_bool hw_2 with ⟨r_19, hC⟩ | ⟨r_19, hC⟩
  · obtain rfl : r_1 = 1 := r_19
    have hC_3 := hC
    refine lv_if_ne (tgt := 10) hx hb dX6_write_4 (by decide) (fun _ => ?_) (fun h => absurd h (by decide))
    rcases (i_four (a := p0) (by omega) (by omega) : p0 = 0 ∨ p0 = 1 ∨ p0 = 2 ∨ p0 = 3) with rfl | rfl | rfl | rfl
    · refine lv_aload_n hx hb dX6_write_10 rfl (lv_at hl 0 rfl) ?_
      refine va_get (D := (dC, dI)) (ci := 6) (v := .ref rw) (C := RX6) (T := TX6) (N := 11) hx hb hts in_X6_write_X6 hown hK hP 0 rfl rfl 7 (by decide) (hts _ wd_X6_write_0) (fun _ h9 => h9) rfl dX6_write_11 ?_
      refine lv_iload_n hx hb dX6_write_14 rfl (lv_at hl 1 rfl) ?_
      refine va_aldq hx hb hK hP 1 0 rfl rfl (vp_in_iff.mpr ⟨by decide, by decide⟩) dX6_write_15 ?_
      refine W.eq (g2 := F0 m 16 ls (.ref r0 :: [])) (by rw [show fr (0 : Int32).toNatClampNeg = some r0 from hf0]; rfl) ?_
      refine lv_astore (lv' := [(5, .ref r0), (0, .ref h0), (1, .int 0), (2, .int p1), (3, .long p2)]) hx hb dX6_write_16 hl (by decide) rfl (fun ls hl => ?_)
      refine lv_aload hx hb dX6_write_18 (lv_at hl 0 rfl) ?_
      refine va_get (D := (dC, dI)) (ci := 5) (v := .int 0) (C := RX5) (T := TX5) (N := 4) hx hb hts in_X6_write_X5 hown hK hP 2 rfl rfl 0 (by decide) (hts _ wd_X6_write_1) (fun _ h9 => h9) rfl dX6_write_20 ?_
      refine lv_if_ne (tgt := 29) hx hb dX6_write_23 (by decide) (fun h => absurd (by decide) h) (fun _ => ?_)
      refine lv_bipush (v := -6) hx hb dX6_write_26 (by decide) ?_
      refine W.widen (k := 0) (n := 0) (by omega) (by omega) ?_
      exact W.iret (v := -6) hx hb hr (fun t ht hW => ⟨⟨(-6), (), rfl, (by first | rfl | ((repeat' split) <;> (first | rfl | (exfalso; omega)))), trivial⟩, hS.F ht⟩) hS.2.2 dX6_write_28
    · refine lv_aload_n hx hb dX6_write_10 rfl (lv_at hl 0 rfl) ?_
      refine va_get (D := (dC, dI)) (ci := 6) (v := .ref rw) (C := RX6) (T := TX6) (N := 11) hx hb hts in_X6_write_X6 hown hK hP 0 rfl rfl 7 (by decide) (hts _ wd_X6_write_0) (fun _ h9 => h9) rfl dX6_write_11 ?_
      refine lv_iload_n hx hb dX6_write_14 rfl (lv_at hl 1 rfl) ?_
      refine va_aldq hx hb hK hP 1 0 rfl rfl (vp_in_iff.mpr ⟨by decide, by decide⟩) dX6_write_15 ?_
      refine W.eq (g2 := F0 m 16 ls (.ref r1 :: [])) (by rw [show fr (1 : Int32).toNatClampNeg = some r1 from hf1]; rfl) ?_
      refine lv_astore (lv' := [(5, .ref r1), (0, .ref h0), (1, .int 1), (2, .int p1), (3, .long p2)]) hx hb dX6_write_16 hl (by decide) rfl (fun ls hl => ?_)
      refine lv_aload hx hb dX6_write_18 (lv_at hl 0 rfl) ?_
      refine va_get (D := (dC, dI)) (ci := 5) (v := .int 0) (C := RX5) (T := TX5) (N := 4) hx hb hts in_X6_write_X5 hown hK hP 4 rfl rfl 0 (by decide) (hts _ wd_X6_write_1) (fun _ h9 => h9) rfl dX6_write_20 ?_
      refine lv_if_ne (tgt := 29) hx hb dX6_write_23 (by decide) (fun h => absurd (by decide) h) (fun _ => ?_)
      refine lv_bipush (v := -6) hx hb dX6_write_26 (by decide) ?_
      refine W.widen (k := 0) (n := 0) (by omega) (by omega) ?_
      exact W.iret (v := -6) hx hb hr (fun t ht hW => ⟨⟨(-6), (), rfl, (by first | rfl | ((repeat' split) <;> (first | rfl | (exfalso; omega)))), trivial⟩, hS.F ht⟩) hS.2.2 dX6_write_28
    · refine lv_aload_n hx hb dX6_write_10 rfl (lv_at hl 0 rfl) ?_
      refine va_get (D := (dC, dI)) (ci := 6) (v := .ref rw) (C := RX6) (T := TX6) (N := 11) hx hb hts in_X6_write_X6 hown hK hP 0 rfl rfl 7 (by decide) (hts _ wd_X6_write_0) (fun _ h9 => h9) rfl dX6_write_11 ?_
      refine lv_iload_n hx hb dX6_write_14 rfl (lv_at hl 1 rfl) ?_
      refine va_aldq hx hb hK hP 1 0 rfl rfl (vp_in_iff.mpr ⟨by decide, by decide⟩) dX6_write_15 ?_
      refine W.eq (g2 := F0 m 16 ls (.ref r2 :: [])) (by rw [show fr (2 : Int32).toNatClampNeg = some r2 from hf2]; rfl) ?_
      refine lv_astore (lv' := [(5, .ref r2), (0, .ref h0), (1, .int 2), (2, .int p1), (3, .long p2)]) hx hb dX6_write_16 hl (by decide) rfl (fun ls hl => ?_)
      refine lv_aload hx hb dX6_write_18 (lv_at hl 0 rfl) ?_
      refine va_get (D := (dC, dI)) (ci := 5) (v := .int 0) (C := RX5) (T := TX5) (N := 4) hx hb hts in_X6_write_X5 hown hK hP 6 rfl rfl 0 (by decide) (hts _ wd_X6_write_1) (fun _ h9 => h9) rfl dX6_write_20 ?_
      refine lv_if_ne (tgt := 29) hx hb dX6_write_23 (by decide) (fun h => absurd (by decide) h) (fun _ => ?_)
      refine lv_bipush (v := -6) hx hb dX6_write_26 (by decide) ?_
      refine W.widen (k := 0) (n := 0) (by omega) (by omega) ?_
      exact W.iret (v := -6) hx hb hr (fun t ht hW => ⟨⟨(-6), (), rfl, (by first | rfl | ((repeat' split) <;> (first | rfl | (exfalso; omega)))), trivial⟩, hS.F ht⟩) hS.2.2 dX6_write_28
    · refine lv_aload_n hx hb dX6_write_10 rfl (lv_at hl 0 rfl) ?_
      refine va_get (D := (dC, dI)) (ci := 6) (v := .ref rw) (C := RX6) (T := TX6) (N := 11) hx hb hts in_X6_write_X6 hown hK hP 0 rfl rfl 7 (by decide) (hts _ wd_X6_write_0) (fun _ h9 => h9) rfl dX6_write_11 ?_
      refine lv_iload_n hx hb dX6_write_14 rfl (lv_at hl 1 rfl) ?_
      refine va_aldq hx hb hK hP 1 0 rfl rfl (vp_in_iff.mpr ⟨by decide, by decide⟩) dX6_write_15 ?_
      refine W.eq (g2 := F0 m 16 ls (.ref r3 :: [])) (by rw [show fr (3 : Int32).toNatClampNeg = some r3 from hf3]; rfl) ?_
      refine lv_astore (lv' := [(5, .ref r3), (0, .ref h0), (1, .int 3), (2, .int p1), (3, .long p2)]) hx hb dX6_write_16 hl (by decide) rfl (fun ls hl => ?_)
      refine lv_aload hx hb dX6_write_18 (lv_at hl 0 rfl) ?_
      refine va_get (D := (dC, dI)) (ci := 5) (v := .int 0) (C := RX5) (T := TX5) (N := 4) hx hb hts in_X6_write_X5 hown hK hP 8 rfl rfl 0 (by decide) (hts _ wd_X6_write_1) (fun _ h9 => h9) rfl dX6_write_20 ?_
      refine lv_if_ne (tgt := 29) hx hb dX6_write_23 (by decide) (fun h => absurd (by decide) h) (fun _ => ?_)
      refine lv_bipush (v := -6) hx hb dX6_write_26 (by decide) ?_
      refine W.widen (k := 0) (n := 0) (by omega) (by omega) ?_
      exact W.iret (v := -6) hx hb hr (fun t ht hW => ⟨⟨(-6), (), rfl, (by first | rfl | ((repeat' split) <;> (first | rfl | (exfalso; omega)))), trivial⟩, hS.F ht⟩) hS.2.2 dX6_write_28
  · obtain rfl : r_1 = 0 := r_19
    have hC_9 := hC
    refine lv_if_ne (tgt := 10) hx hb dX6_write_4 (by decide) (fun h => absurd (by decide) h) (fun _ => ?_)
    refine lv_bipush (v := -2) hx hb dX6_write_7 (by decide) ?_
    refine W.widen (k := 0) (n := 0) (by omega) (by omega) ?_
    exact W.iret (v := -2) hx hb hr (fun t ht hW => ⟨⟨(-2), (), rfl, (by first | rfl | ((repeat' split) <;> (first | rfl | (exfalso; omega)))), trivial⟩, hS.F ht⟩) hS.2.2 dX6_write_9

theorem dX6_paste_0 : decode cX6_paste 0 = .ok (.iload_n 1, 1) := by decide +kernel
theorem dX6_paste_1 : decode cX6_paste 1 = .ok (.invokestatic 211, 3) := by decide +kernel
theorem dX6_paste_4 : decode cX6_paste 4 = .ok (.ifCond .eq 10, 3) := by decide +kernel
theorem dX6_paste_7 : decode cX6_paste 7 = .ok (.iload_n 3, 1) := by decide +kernel
theorem dX6_paste_8 : decode cX6_paste 8 = .ok (.invokestatic 211, 3) := by decide +kernel
theorem dX6_paste_11 : decode cX6_paste 11 = .ok (.ifCond .ne 6, 3) := by decide +kernel
theorem dX6_paste_14 : decode cX6_paste 14 = .ok (.bipush (-2), 2) := by decide +kernel
theorem dX6_paste_16 : decode cX6_paste 16 = .ok (.ireturn, 1) := by decide +kernel
theorem dX6_paste_17 : decode cX6_paste 17 = .ok (.aload_n 0, 1) := by decide +kernel
theorem dX6_paste_18 : decode cX6_paste 18 = .ok (.getfield 43, 3) := by decide +kernel
theorem dX6_paste_21 : decode cX6_paste 21 = .ok (.iload_n 1, 1) := by decide +kernel
theorem dX6_paste_22 : decode cX6_paste 22 = .ok (.aaload, 1) := by decide +kernel
theorem dX6_paste_23 : decode cX6_paste 23 = .ok (.astore 6, 2) := by decide +kernel
theorem dX6_paste_25 : decode cX6_paste 25 = .ok (.aload_n 0, 1) := by decide +kernel
theorem dX6_paste_26 : decode cX6_paste 26 = .ok (.getfield 43, 3) := by decide +kernel
theorem dX6_paste_29 : decode cX6_paste 29 = .ok (.iload_n 3, 1) := by decide +kernel
theorem dX6_paste_30 : decode cX6_paste 30 = .ok (.aaload, 1) := by decide +kernel
theorem dX6_paste_31 : decode cX6_paste 31 = .ok (.astore 7, 2) := by decide +kernel
theorem dX6_paste_33 : decode cX6_paste 33 = .ok (.aload 6, 2) := by decide +kernel
theorem dX6_paste_35 : decode cX6_paste 35 = .ok (.getfield 214, 3) := by decide +kernel
theorem dX6_paste_38 : decode cX6_paste 38 = .ok (.ifCond .eq 11, 3) := by decide +kernel
theorem dX6_paste_49 : decode cX6_paste 49 = .ok (.bipush (-6), 2) := by decide +kernel
theorem dX6_paste_51 : decode cX6_paste 51 = .ok (.ireturn, 1) := by decide +kernel
def wz_X6_paste : List Cond := .code yX6_paste cX6_paste 8 (some .int) :: ([Cond.fieldLink RX6 43 "HedgeMaze" "rows" "[LHedgeMaze$Row;", Cond.fieldLink RX6 214 "HedgeMaze$Row" "there" "Z", Cond.methodLink RX6 211 yX6_isSlot, Cond.static yX6_isSlot, Cond.initialized RX6, Cond.code yX6_isSlot cX6_isSlot 1 (some .boolean)] ++ wsX60 ++ wsX50)
theorem wd_X6_paste_0 : Cond.fieldLink RX6 43 "HedgeMaze" "rows" "[LHedgeMaze$Row;" ∈ wz_X6_paste := List.mem_of_getElem? (i := 1) rfl
theorem wd_X6_paste_1 : Cond.fieldLink RX6 214 "HedgeMaze$Row" "there" "Z" ∈ wz_X6_paste := List.mem_of_getElem? (i := 2) rfl
theorem in_X6_paste_X6 : ∀ w ∈ wsX60, w ∈ wz_X6_paste := fun _ h => List.mem_cons_of_mem _ (List.mem_append_left _ (List.mem_append_right _ h))
theorem in_X6_paste_X5 : ∀ w ∈ wsX50, w ∈ wz_X6_paste := fun _ h => List.mem_cons_of_mem _ (List.mem_append_right _ h)
set_option maxRecDepth 20000 in
theorem g_X6_paste_X6_isSlot : GoodIn wz_X6_paste (va_wsS RX6 211 yX6_isSlot wz_X6_isSlot) := goodIn_r _ [3, 4, 5, 6] rfl (by decide +kernel)
set_option maxHeartbeats 4000000 in
set_option maxRecDepth 100000 in
theorem c_X6_paste (l : Launch) (dC : Nat → ClassId) (dI : Nat → Nat → Nat) (sz : Nat) (h0 : Nat) (tp : Nat) (rd : Nat) (gd : Nat) (im : Nat) (rw : Nat) (gn : Nat) (ho : Nat) (sq : Nat) (cr : ClassId) (fr : Nat → Option Nat) (r0 : Nat) (r1 : Nat) (r2 : Nat) (r3 : Nat) (n0 : Nat) (n1 : Nat) (n2 : Nat) (n3 : Nat) (cl0 : ClassId) (cl1 : ClassId) (cl2 : ClassId) (cl3 : ClassId) (p0 : Int32) (p1 : Int32) (p2 : Int32) (p3 : Int32) (p4 : Int32) (hf0 : fr 0 = some r0) (hf1 : fr 1 = some r1) (hf2 : fr 2 = some r2) (hf3 : fr 3 = some r3) : Met l yX6_paste wz_X6_paste ({ frames := 1, cells := 0, slots := 0, locals := 20 }) (va_Pc [.ref h0, .int p0, .int p1, .int p2, .int p3, .int p4] (fun U => U.heap.size = sz ∧ va_P (dC, dI) vwCl [(h0, .inr (6, [.ref tp, .int 0, .int 0, .int (-1), .ref rd, .ref gd, .ref im, .ref rw, .ref gn, .ref ho, .ref sq])), (rw, .inl (cr, 4, .inr (.inr (.inr (.inr fr))))), (r0, .inr (5, [.int 0, .int 0, .int 0, .ref n0])), (n0, .inl (cl0, 60, .inr (.inl (fun _ => 0)))), (r1, .inr (5, [.int 0, .int 0, .int 0, .ref n1])), (n1, .inl (cl1, 60, .inr (.inl (fun _ => 0)))), (r2, .inr (5, [.int 0, .int 0, .int 0, .ref n2])), (n2, .inl (cl2, 60, .inr (.inl (fun _ => 0)))), (r3, .inr (5, [.int 0, .int 0, .int 0, .ref n3])), (n3, .inl (cl3, 60, .inr (.inl (fun _ => 0))))] U.heap ∧ va_K (dC, dI) vwCl [(cr, .object RX5), (cl0, .long), (cl1, .long), (cl2, .long), (cl3, .long)] U ∧ va_D (fun _ => True) [(h0, .inr (6, [.ref tp, .int 0, .int 0, .int (-1), .ref rd, .ref gd, .ref im, .ref rw, .ref gn, .ref ho, .ref sq])), (rw, .inl (cr, 4, .inr (.inr (.inr (.inr fr))))), (r0, .inr (5, [.int 0, .int 0, .int 0, .ref n0])), (n0, .inl (cl0, 60, .inr (.inl (fun _ => 0)))), (r1, .inr (5, [.int 0, .int 0, .int 0, .ref n1])), (n1, .inl (cl1, 60, .inr (.inl (fun _ => 0)))), (r2, .inr (5, [.int 0, .int 0, .int 0, .ref n2])), (n2, .inl (cl2, 60, .inr (.inl (fun _ => 0)))), (r3, .inr (5, [.int 0, .int 0, .int 0, .ref n3])), (n3, .inl (cl3, 60, .inr (.inl (fun _ => 0))))])) (va_Qi (fun (r : Int32) (u : Unit) => r = if (0 ≤ p0.toInt ∧ p0.toInt ≤ 3) ∧ (0 ≤ p2.toInt ∧ p2.toInt ≤ 3) then -6 else -2) (fun (_ : Unit) (_ : State) => True) (va_A [(h0, .inr (6, [.ref tp, .int 0, .int 0, .int (-1), .ref rd, .ref gd, .ref im, .ref rw, .ref gn, .ref ho, .ref sq])), (rw, .inl (cr, 4, .inr (.inr (.inr (.inr fr))))), (r0, .inr (5, [.int 0, .int 0, .int 0, .ref n0])), (n0, .inl (cl0, 60, .inr (.inl (fun _ => 0)))), (r1, .inr (5, [.int 0, .int 0, .int 0, .ref n1])), (n1, .inl (cl1, 60, .inr (.inl (fun _ => 0)))), (r2, .inr (5, [.int 0, .int 0, .int 0, .ref n2])), (n2, .inl (cl2, 60, .inr (.inl (fun _ => 0)))), (r3, .inr (5, [.int 0, .int 0, .int 0, .ref n3])), (n3, .inl (cl3, 60, .inr (.inl (fun _ => 0))))] sz)) 0 0 (va_A [(h0, .inr (6, [.ref tp, .int 0, .int 0, .int (-1), .ref rd, .ref gd, .ref im, .ref rw, .ref gn, .ref ho, .ref sq])), (rw, .inl (cr, 4, .inr (.inr (.inr (.inr fr))))), (r0, .inr (5, [.int 0, .int 0, .int 0, .ref n0])), (n0, .inl (cl0, 60, .inr (.inl (fun _ => 0)))), (r1, .inr (5, [.int 0, .int 0, .int 0, .ref n1])), (n1, .inl (cl1, 60, .inr (.inl (fun _ => 0)))), (r2, .inr (5, [.int 0, .int 0, .int 0, .ref n2])), (n2, .inl (cl2, 60, .inr (.inl (fun _ => 0)))), (r3, .inr (5, [.int 0, .int 0, .int 0, .ref n3])), (n3, .inl (cl3, 60, .inr (.inl (fun _ => 0))))] sz) := by
  refine Met.ofW (cc := cX6_paste) (maxL := 8) (ret := (some .int)) (by decide) rfl ?_
  intro p e s m args below meth c s₁ B hml hv
  obtain ⟨rfl, hsz, hP, hK, hD0⟩ := hv
  have hx := B.exec
  have hb := B.bytes
  have hr := B.returns
  have hts := atoms_spec (ws := wz_X6_paste) B.pre
  have hown : s.vm.findClass RX6 = some m.cls := findClass_of_methodNamed B.named
  have hlocks := B.notSynchronized
  subst hsz
  have hD := hD0.self (sz := s.heap.size)
  generalize hAe : va_A [(h0, .inr (6, [.ref tp, .int 0, .int 0, .int (-1), .ref rd, .ref gd, .ref im, .ref rw, .ref gn, .ref ho, .ref sq])), (rw, .inl (cr, 4, .inr (.inr (.inr (.inr fr))))), (r0, .inr (5, [.int 0, .int 0, .int 0, .ref n0])), (n0, .inl (cl0, 60, .inr (.inl (fun _ => 0)))), (r1, .inr (5, [.int 0, .int 0, .int 0, .ref n1])), (n1, .inl (cl1, 60, .inr (.inl (fun _ => 0)))), (r2, .inr (5, [.int 0, .int 0, .int 0, .ref n2])), (n2, .inl (cl2, 60, .inr (.inl (fun _ => 0)))), (r3, .inr (5, [.int 0, .int 0, .int 0, .ref n3])), (n3, .inl (cl3, 60, .inr (.inl (fun _ => 0))))] s.heap.size = A at hD ⊢
  have hA : ∀ q : Nat, s.heap.size ≤ q → A q := fun q h => by rw [← hAe]; exact Or.inr h
  have hS : va_S A s.heap s.heap [] := va_S.rf
  have hP : va_P (dC, dI) vwCl [(h0, .inr (6, [.ref tp, .int 0, .int 0, .int (-1), .ref rd, .ref gd, .ref im, .ref rw, .ref gn, .ref ho, .ref sq])), (rw, .inl (cr, 4, .inr (.inr (.inr (.inr fr))))), (r0, .inr (5, [.int 0, .int 0, .int 0, .ref n0])), (n0, .inl (cl0, 60, .inr (.inl (fun _ => 0)))), (r1, .inr (5, [.int 0, .int 0, .int 0, .ref n1])), (n1, .inl (cl1, 60, .inr (.inl (fun _ => 0)))), (r2, .inr (5, [.int 0, .int 0, .int 0, .ref n2])), (n2, .inl (cl2, 60, .inr (.inl (fun _ => 0)))), (r3, .inr (5, [.int 0, .int 0, .int 0, .ref n3])), (n3, .inl (cl3, 60, .inr (.inl (fun _ => 0))))] s.heap := hP
  have hl := lv_entry ([.ref h0, .int p0, .int p1, .int p2, .int p3, .int p4]) (n := 8) (Nat.le_of_ble_eq_true rfl)
  rw [lg_entry_eq]
  generalize (lg_sl ([.ref h0, .int p0, .int p1, .int p2, .int p3, .int p4]) ++ List.replicate (8 - (lg_sl ([.ref h0, .int p0, .int p1, .int p2, .int p3, .int p4])).length) Slot.unset).toArray = ls at hl ⊢
  have hl : lv_has ls 8 [(0, .ref h0), (1, .int p0), (2, .int p1), (3, .int p2), (4, .int p3), (5, .int p4)] := hl
  refine lv_iload_n hx hb dX6_paste_0 rfl (lv_at hl 1 rfl) ?_
  have hPc := hP.sub (ws' := []) [] rfl
  have hDc := hD.sub (ws' := []) [] (by decide) rfl
  have hKc := hK.sub (tys' := []) [] rfl
  have hFc := va_free (wc := []) hD hS hA [] rfl
  refine va_calli (va_runS (As := [.int p0]) (rest := []) ⟨hx, hb, hml, hown, hts⟩ (c_X6_isSlot l dC dI s.heap.size p0 ) (va_cwS 1 hts g_X6_paste_X6_isSlot rfl rfl rfl (by decide +kernel) ⟨Nat.le_of_ble_eq_true rfl, Nat.le_of_ble_eq_true rfl⟩) ⟨fun a U g mk q => by obtain ⟨q0, q1, qP, qK, qD⟩ := q; exact ⟨q0, q1, qP, va_K.moved (u := U) (U := U.calling g mk a) (Vm.Alike.refl U.vm) qK, qD⟩, fun U hU hW => ⟨rfl, by rw [hU], by rw [hU]; exact hPc, va_K.moved hW.alike hKc, hDc.weaken (fun _ _ _ _ => trivial)⟩⟩ rfl rfl hl.1 rfl (lv_room (Nat.le_of_ble_eq_true rfl)) dX6_paste_1 ⟨Nat.le_of_ble_eq_true rfl, Nat.le_of_ble_eq_true rfl⟩) hS (fun q _ h => hFc q h) hFc (fun r_1 u t H1 locs ht hvm hw_2 hB hz1 hk1 hS => ?_)
  have hP1 : va_P (dC, dI) vwCl [] H1 := i_nilP
  have hD1 : va_D (va_A [] s.heap.size) [] := i_nilD
  try dsimp only at hw_2
  obtain ⟨hP, hD⟩ := va_join (wr := [(h0, .inr (6, [.ref tp, .int 0, .int 0, .int (-1), .ref rd, .ref gd, .ref im, .ref rw, .ref gn, .ref ho, .ref sq])), (rw, .inl (cr, 4, .inr (.inr (.inr (.inr fr))))), (r0, .inr (5, [.int 0, .int 0, .int 0, .ref n0])), (n0, .inl (cl0, 60, .inr (.inl (fun _ => 0)))), (r1, .inr (5, [.int 0, .int 0, .int 0, .ref n1])), (n1, .inl (cl1, 60, .inr (.inl (fun _ => 0)))), (r2, .inr (5, [.int 0, .int 0, .int 0, .ref n2])), (n2, .inl (cl2, 60, .inr (.inl (fun _ => 0)))), (r3, .inr (5, [.int 0, .int 0, .int 0, .ref n3])), (n3, .inl (cl3, 60, .inr (.inl (fun _ => 0))))]) (w1 := []) hP hD [] [0, 1, 2, 3, 4, 5, 6, 7, 8, 9] rfl rfl (by decide) (by decide) hk1 hFc hP1 hD1
  generalize H1 = H at hP hS ⊢
  have hP : va_P (dC, dI) vwCl [(h0, .inr (6, [.ref tp, .int 0, .int 0, .int (-1), .ref rd, .ref gd, .ref im, .ref rw, .ref gn, .ref ho, .ref sq])), (rw, .inl (cr, 4, .inr (.inr (.inr (.inr fr))))), (r0, .inr (5, [.int 0, .int 0, .int 0, .ref n0])), (n0, .inl (cl0, 60, .inr (.inl (fun _ => 0)))), (r1, .inr (5, [.int 0, .int 0, .int 0, .ref n1])), (n1, .inl (cl1, 60, .inr (.inl (fun _ => 0)))), (r2, .inr (5, [.int 0, .int 0, .int 0, .ref n2])), (n2, .inl (cl2, 60, .inr (.inl (fun _ => 0)))), (r3, .inr (5, [.int 0, .int 0, .int 0, .ref n3])), (n3, .inl (cl3, 60, .inr (.inl (fun _ => 0))))] H := hP
  have hD : va_D A [(h0, .inr (6, [.ref tp, .int 0, .int 0, .int (-1), .ref rd, .ref gd, .ref im, .ref rw, .ref gn, .ref ho, .ref sq])), (rw, .inl (cr, 4, .inr (.inr (.inr (.inr fr))))), (r0, .inr (5, [.int 0, .int 0, .int 0, .ref n0])), (n0, .inl (cl0, 60, .inr (.inl (fun _ => 0)))), (r1, .inr (5, [.int 0, .int 0, .int 0, .ref n1])), (n1, .inl (cl1, 60, .inr (.inl (fun _ => 0)))), (r2, .inr (5, [.int 0, .int 0, .int 0, .ref n2])), (n2, .inl (cl2, 60, .inr (.inl (fun _ => 0)))), (r3, .inr (5, [.int 0, .int 0, .int 0, .ref n3])), (n3, .inl (cl3, 60, .inr (.inl (fun _ => 0))))] := hD
  rcases i_bool hw_2 with ⟨r_19, hC⟩ | ⟨r_19, hC⟩
  · obtain rfl : r_1 = 1 := r_19
    have hC_3 := hC
    refine lv_if_eq (tgt := 14) hx hb dX6_paste_4 (by decide) (fun h => absurd h (by decide)) (fun _ => ?_)
    refine lv_iload_n hx hb dX6_paste_7 rfl (lv_at hl 3 rfl) ?_
    have hPc := hP.sub (ws' := []) [] rfl
    have hDc := hD.sub (ws' := []) [] (by decide) rfl
    have hKc := hK.sub (tys' := []) [] rfl
    have hFc := va_free (wc := []) hD hS hA [] rfl
    refine va_calli (va_runS (As := [.int p2]) (rest := []) ⟨hx, hb, hml, hown, hts⟩ (c_X6_isSlot l dC dI H.size p2 ) (va_cwS 1 hts g_X6_paste_X6_isSlot rfl rfl rfl (by decide +kernel) ⟨Nat.le_of_ble_eq_true rfl, Nat.le_of_ble_eq_true rfl⟩) ⟨fun a U g mk q => by obtain ⟨q0, q1, qP, qK, qD⟩ := q; exact ⟨q0, q1, qP, va_K.moved (u := U) (U := U.calling g mk a) (Vm.Alike.refl U.vm) qK, qD⟩, fun U hU hW => ⟨rfl, by rw [hU], by rw [hU]; exact hPc, va_K.moved hW.alike hKc, hDc.weaken (fun _ _ _ _ => trivial)⟩⟩ rfl rfl hl.1 rfl (lv_room (Nat.le_of_ble_eq_true rfl)) dX6_paste_8 ⟨Nat.le_of_ble_eq_true rfl, Nat.le_of_ble_eq_true rfl⟩) hS (fun q _ h => hFc q h) hFc (fun r_5 u t H1 locs ht hvm hw_6 hB hz1 hk1 hS => ?_)
    have hP1 : va_P (dC, dI) vwCl [] H1 := i_nilP
    have hD1 : va_D (va_A [] H.size) [] := i_nilD
    try dsimp only at hw_6
    obtain ⟨hP, hD⟩ := va_join (wr := [(h0, .inr (6, [.ref tp, .int 0, .int 0, .int (-1), .ref rd, .ref gd, .ref im, .ref rw, .ref gn, .ref ho, .ref sq])), (rw, .inl (cr, 4, .inr (.inr (.inr (.inr fr))))), (r0, .inr (5, [.int 0, .int 0, .int 0, .ref n0])), (n0, .inl (cl0, 60, .inr (.inl (fun _ => 0)))), (r1, .inr (5, [.int 0, .int 0, .int 0, .ref n1])), (n1, .inl (cl1, 60, .inr (.inl (fun _ => 0)))), (r2, .inr (5, [.int 0, .int 0, .int 0, .ref n2])), (n2, .inl (cl2, 60, .inr (.inl (fun _ => 0)))), (r3, .inr (5, [.int 0, .int 0, .int 0, .ref n3])), (n3, .inl (cl3, 60, .inr (.inl (fun _ => 0))))]) (w1 := []) hP hD [] [0, 1, 2, 3, 4, 5, 6, 7, 8, 9] rfl rfl (by decide) (by decide) hk1 hFc hP1 hD1
    generalize H1 = H at hP hS ⊢
    have hP : va_P (dC, dI) vwCl [(h0, .inr (6, [.ref tp, .int 0, .int 0, .int (-1), .ref rd, .ref gd, .ref im, .ref rw, .ref gn, .ref ho, .ref sq])), (rw, .inl (cr, 4, .inr (.inr (.inr (.inr fr))))), (r0, .inr (5, [.int 0, .int 0, .int 0, .ref n0])), (n0, .inl (cl0, 60, .inr (.inl (fun _ => 0)))), (r1, .inr (5, [.int 0, .int 0, .int 0, .ref n1])), (n1, .inl (cl1, 60, .inr (.inl (fun _ => 0)))), (r2, .inr (5, [.int 0, .int 0, .int 0, .ref n2])), (n2, .inl (cl2, 60, .inr (.inl (fun _ => 0)))), (r3, .inr (5, [.int 0, .int 0, .int 0, .ref n3])), (n3, .inl (cl3, 60, .inr (.inl (fun _ => 0))))] H := hP
    have hD : va_D A [(h0, .inr (6, [.ref tp, .int 0, .int 0, .int (-1), .ref rd, .ref gd, .ref im, .ref rw, .ref gn, .ref ho, .ref sq])), (rw, .inl (cr, 4, .inr (.inr (.inr (.inr fr))))), (r0, .inr (5, [.int 0, .int 0, .int 0, .ref n0])), (n0, .inl (cl0, 60, .inr (.inl (fun _ => 0)))), (r1, .inr (5, [.int 0, .int 0, .int 0, .ref n1])), (n1, .inl (cl1, 60, .inr (.inl (fun _ => 0)))), (r2, .inr (5, [.int 0, .int 0, .int 0, .ref n2])), (n2, .inl (cl2, 60, .inr (.inl (fun _ => 0)))), (r3, .inr (5, [.int 0, .int 0, .int 0, .ref n3])), (n3, .inl (cl3, 60, .inr (.inl (fun _ => 0))))] := hD
    rcases i_bool hw_6 with ⟨r_59, hC⟩ | ⟨r_59, hC⟩
    · obtain rfl : r_5 = 1 := r_59
      have hC_7 := hC
      refine lv_if_ne (tgt := 17) hx hb dX6_paste_11 (by decide) (fun _ => ?_) (fun h => absurd h (by decide))
      rcases (i_four (a := p0) (by omega) (by omega) : p0 = 0 ∨ p0 = 1 ∨ p0 = 2 ∨ p0 = 3) with rfl | rfl | rfl | rfl
      · refine lv_aload_n hx hb dX6_paste_17 rfl (lv_at hl 0 rfl) ?_
        refine va_get (D := (dC, dI)) (ci := 6) (v := .ref rw) (C := RX6) (T := TX6) (N := 11) hx hb hts in_X6_paste_X6 hown hK hP 0 rfl rfl 7 (by decide) (hts _ wd_X6_paste_0) (fun _ h9 => h9) rfl dX6_paste_18 ?_
        refine lv_iload_n hx hb dX6_paste_21 rfl (lv_at hl 1 rfl) ?_
        refine va_aldq hx hb hK hP 1 0 rfl rfl (vp_in_iff.mpr ⟨by decide, by decide⟩) dX6_paste_22 ?_
        refine W.eq (g2 := F0 m 23 ls (.ref r0 :: [])) (by rw [show fr (0 : Int32).toNatClampNeg = some r0 from hf0]; rfl) ?_
        refine lv_astore (lv' := [(6, .ref r0), (0, .ref h0), (1, .int 0), (2, .int p1), (3, .int p2), (4, .int p3), (5, .int p4)]) hx hb dX6_paste_23 hl (by decide) rfl (fun ls hl => ?_)
        rcases (i_four (a := p2) (by omega) (by omega) : p2 = 0 ∨ p2 = 1 ∨ p2 = 2 ∨ p2 = 3) with rfl | rfl | rfl | rfl
        · refine lv_aload_n hx hb dX6_paste_25 rfl (lv_at hl 1 rfl) ?_
          refine va_get (D := (dC, dI)) (ci := 6) (v := .ref rw) (C := RX6) (T := TX6) (N := 11) hx hb hts in_X6_paste_X6 hown hK hP 0 rfl rfl 7 (by decide) (hts _ wd_X6_paste_0) (fun _ h9 => h9) rfl dX6_paste_26 ?_
          refine lv_iload_n hx hb dX6_paste_29 rfl (lv_at hl 4 rfl) ?_
          refine va_aldq hx hb hK hP 1 0 rfl rfl (vp_in_iff.mpr ⟨by decide, by decide⟩) dX6_paste_30 ?_
          refine W.eq (g2 := F0 m 31 ls (.ref r0 :: [])) (by rw [show fr (0 : Int32).toNatClampNeg = some r0 from hf0]; rfl) ?_
          refine lv_astore (lv' := [(7, .ref r0), (6, .ref r0), (0, .ref h0), (1, .int 0), (2, .int p1), (3, .int 0), (4, .int p3), (5, .int p4)]) hx hb dX6_paste_31 hl (by decide) rfl (fun ls hl => ?_)
          refine lv_aload hx hb dX6_paste_33 (lv_at hl 1 rfl) ?_
          refine va_get (D := (dC, dI)) (ci := 5) (v := .int 0) (C := RX5) (T := TX5) (N := 4) hx hb hts in_X6_paste_X5 hown hK hP 2 rfl rfl 0 (by decide) (hts _ wd_X6_paste_1) (fun _ h9 => h9) rfl dX6_paste_35 ?_
          refine lv_if_eq (tgt := 49) hx hb dX6_paste_38 (by decide) (fun _ => ?_) (fun h => absurd (by decide) h)
          refine lv_bipush (v := -6) hx hb dX6_paste_49 (by decide) ?_
          refine W.widen (k := 0) (n := 0) (by omega) (by omega) ?_
          exact W.iret (v := -6) hx hb hr (fun t ht hW => ⟨⟨(-6), (), rfl, (by first | rfl | ((repeat' split) <;> (first | rfl | (exfalso; omega)))), trivial⟩, hS.F ht⟩) hS.2.2 dX6_paste_51
        · refine lv_aload_n hx hb dX6_paste_25 rfl (lv_at hl 1 rfl) ?_
          refine va_get (D := (dC, dI)) (ci := 6) (v := .ref rw) (C := RX6) (T := TX6) (N := 11) hx hb hts in_X6_paste_X6 hown hK hP 0 rfl rfl 7 (by decide) (hts _ wd_X6_paste_0) (fun _ h9 => h9) rfl dX6_paste_26 ?_
          refine lv_iload_n hx hb dX6_paste_29 rfl (lv_at hl 4 rfl) ?_
          refine va_aldq hx hb hK hP 1 0 rfl rfl (vp_in_iff.mpr ⟨by decide, by decide⟩) dX6_paste_30 ?_
          refine W.eq (g2 := F0 m 31 ls (.ref r1 :: [])) (by rw [show fr (1 : Int32).toNatClampNeg = some r1 from hf1]; rfl) ?_
          refine lv_astore (lv' := [(7, .ref r1), (6, .ref r0), (0, .ref h0), (1, .int 0), (2, .int p1), (3, .int 1), (4, .int p3), (5, .int p4)]) hx hb dX6_paste_31 hl (by decide) rfl (fun ls hl => ?_)
          refine lv_aload hx hb dX6_paste_33 (lv_at hl 1 rfl) ?_
          refine va_get (D := (dC, dI)) (ci := 5) (v := .int 0) (C := RX5) (T := TX5) (N := 4) hx hb hts in_X6_paste_X5 hown hK hP 2 rfl rfl 0 (by decide) (hts _ wd_X6_paste_1) (fun _ h9 => h9) rfl dX6_paste_35 ?_
          refine lv_if_eq (tgt := 49) hx hb dX6_paste_38 (by decide) (fun _ => ?_) (fun h => absurd (by decide) h)
          refine lv_bipush (v := -6) hx hb dX6_paste_49 (by decide) ?_
          refine W.widen (k := 0) (n := 0) (by omega) (by omega) ?_
          exact W.iret (v := -6) hx hb hr (fun t ht hW => ⟨⟨(-6), (), rfl, (by first | rfl | ((repeat' split) <;> (first | rfl | (exfalso; omega)))), trivial⟩, hS.F ht⟩) hS.2.2 dX6_paste_51
        · refine lv_aload_n hx hb dX6_paste_25 rfl (lv_at hl 1 rfl) ?_
          refine va_get (D := (dC, dI)) (ci := 6) (v := .ref rw) (C := RX6) (T := TX6) (N := 11) hx hb hts in_X6_paste_X6 hown hK hP 0 rfl rfl 7 (by decide) (hts _ wd_X6_paste_0) (fun _ h9 => h9) rfl dX6_paste_26 ?_
          refine lv_iload_n hx hb dX6_paste_29 rfl (lv_at hl 4 rfl) ?_
          refine va_aldq hx hb hK hP 1 0 rfl rfl (vp_in_iff.mpr ⟨by decide, by decide⟩) dX6_paste_30 ?_
          refine W.eq (g2 := F0 m 31 ls (.ref r2 :: [])) (by rw [show fr (2 : Int32).toNatClampNeg = some r2 from hf2]; rfl) ?_
          refine lv_astore (lv' := [(7, .ref r2), (6, .ref r0), (0, .ref h0), (1, .int 0), (2, .int p1), (3, .int 2), (4, .int p3), (5, .int p4)]) hx hb dX6_paste_31 hl (by decide) rfl (fun ls hl => ?_)
          refine lv_aload hx hb dX6_paste_33 (lv_at hl 1 rfl) ?_
          refine va_get (D := (dC, dI)) (ci := 5) (v := .int 0) (C := RX5) (T := TX5) (N := 4) hx hb hts in_X6_paste_X5 hown hK hP 2 rfl rfl 0 (by decide) (hts _ wd_X6_paste_1) (fun _ h9 => h9) rfl dX6_paste_35 ?_
          refine lv_if_eq (tgt := 49) hx hb dX6_paste_38 (by decide) (fun _ => ?_) (fun h => absurd (by decide) h)
          refine lv_bipush (v := -6) hx hb dX6_paste_49 (by decide) ?_
          refine W.widen (k := 0) (n := 0) (by omega) (by omega) ?_
          exact W.iret (v := -6) hx hb hr (fun t ht hW => ⟨⟨(-6), (), rfl, (by first | rfl | ((repeat' split) <;> (first | rfl | (exfalso; omega)))), trivial⟩, hS.F ht⟩) hS.2.2 dX6_paste_51
        · refine lv_aload_n hx hb dX6_paste_25 rfl (lv_at hl 1 rfl) ?_
          refine va_get (D := (dC, dI)) (ci := 6) (v := .ref rw) (C := RX6) (T := TX6) (N := 11) hx hb hts in_X6_paste_X6 hown hK hP 0 rfl rfl 7 (by decide) (hts _ wd_X6_paste_0) (fun _ h9 => h9) rfl dX6_paste_26 ?_
          refine lv_iload_n hx hb dX6_paste_29 rfl (lv_at hl 4 rfl) ?_
          refine va_aldq hx hb hK hP 1 0 rfl rfl (vp_in_iff.mpr ⟨by decide, by decide⟩) dX6_paste_30 ?_
          refine W.eq (g2 := F0 m 31 ls (.ref r3 :: [])) (by rw [show fr (3 : Int32).toNatClampNeg = some r3 from hf3]; rfl) ?_
          refine lv_astore (lv' := [(7, .ref r3), (6, .ref r0), (0, .ref h0), (1, .int 0), (2, .int p1), (3, .int 3), (4, .int p3), (5, .int p4)]) hx hb dX6_paste_31 hl (by decide) rfl (fun ls hl => ?_)
          refine lv_aload hx hb dX6_paste_33 (lv_at hl 1 rfl) ?_
          refine va_get (D := (dC, dI)) (ci := 5) (v := .int 0) (C := RX5) (T := TX5) (N := 4) hx hb hts in_X6_paste_X5 hown hK hP 2 rfl rfl 0 (by decide) (hts _ wd_X6_paste_1) (fun _ h9 => h9) rfl dX6_paste_35 ?_
          refine lv_if_eq (tgt := 49) hx hb dX6_paste_38 (by decide) (fun _ => ?_) (fun h => absurd (by decide) h)
          refine lv_bipush (v := -6) hx hb dX6_paste_49 (by decide) ?_
          refine W.widen (k := 0) (n := 0) (by omega) (by omega) ?_
          exact W.iret (v := -6) hx hb hr (fun t ht hW => ⟨⟨(-6), (), rfl, (by first | rfl | ((repeat' split) <;> (first | rfl | (exfalso; omega)))), trivial⟩, hS.F ht⟩) hS.2.2 dX6_paste_51
      · refine lv_aload_n hx hb dX6_paste_17 rfl (lv_at hl 0 rfl) ?_
        refine va_get (D := (dC, dI)) (ci := 6) (v := .ref rw) (C := RX6) (T := TX6) (N := 11) hx hb hts in_X6_paste_X6 hown hK hP 0 rfl rfl 7 (by decide) (hts _ wd_X6_paste_0) (fun _ h9 => h9) rfl dX6_paste_18 ?_
        refine lv_iload_n hx hb dX6_paste_21 rfl (lv_at hl 1 rfl) ?_
        refine va_aldq hx hb hK hP 1 0 rfl rfl (vp_in_iff.mpr ⟨by decide, by decide⟩) dX6_paste_22 ?_
        refine W.eq (g2 := F0 m 23 ls (.ref r1 :: [])) (by rw [show fr (1 : Int32).toNatClampNeg = some r1 from hf1]; rfl) ?_
        refine lv_astore (lv' := [(6, .ref r1), (0, .ref h0), (1, .int 1), (2, .int p1), (3, .int p2), (4, .int p3), (5, .int p4)]) hx hb dX6_paste_23 hl (by decide) rfl (fun ls hl => ?_)
        rcases (i_four (a := p2) (by omega) (by omega) : p2 = 0 ∨ p2 = 1 ∨ p2 = 2 ∨ p2 = 3) with rfl | rfl | rfl | rfl
        · refine lv_aload_n hx hb dX6_paste_25 rfl (lv_at hl 1 rfl) ?_
          refine va_get (D := (dC, dI)) (ci := 6) (v := .ref rw) (C := RX6) (T := TX6) (N := 11) hx hb hts in_X6_paste_X6 hown hK hP 0 rfl rfl 7 (by decide) (hts _ wd_X6_paste_0) (fun _ h9 => h9) rfl dX6_paste_26 ?_
          refine lv_iload_n hx hb dX6_paste_29 rfl (lv_at hl 4 rfl) ?_
          refine va_aldq hx hb hK hP 1 0 rfl rfl (vp_in_iff.mpr ⟨by decide, by decide⟩) dX6_paste_30 ?_
          refine W.eq (g2 := F0 m 31 ls (.ref r0 :: [])) (by rw [show fr (0 : Int32).toNatClampNeg = some r0 from hf0]; rfl) ?_
          refine lv_astore (lv' := [(7, .ref r0), (6, .ref r1), (0, .ref h0), (1, .int 1), (2, .int p1), (3, .int 0), (4, .int p3), (5, .int p4)]) hx hb dX6_paste_31 hl (by decide) rfl (fun ls hl => ?_)
          refine lv_aload hx hb dX6_paste_33 (lv_at hl 1 rfl) ?_
          refine va_get (D := (dC, dI)) (ci := 5) (v := .int 0) (C := RX5) (T := TX5) (N := 4) hx hb hts in_X6_paste_X5 hown hK hP 4 rfl rfl 0 (by decide) (hts _ wd_X6_paste_1) (fun _ h9 => h9) rfl dX6_paste_35 ?_
          refine lv_if_eq (tgt := 49) hx hb dX6_paste_38 (by decide) (fun _ => ?_) (fun h => absurd (by decide) h)
          refine lv_bipush (v := -6) hx hb dX6_paste_49 (by decide) ?_
          refine W.widen (k := 0) (n := 0) (by omega) (by omega) ?_
          exact W.iret (v := -6) hx hb hr (fun t ht hW => ⟨⟨(-6), (), rfl, (by first | rfl | ((repeat' split) <;> (first | rfl | (exfalso; omega)))), trivial⟩, hS.F ht⟩) hS.2.2 dX6_paste_51
        · refine lv_aload_n hx hb dX6_paste_25 rfl (lv_at hl 1 rfl) ?_
          refine va_get (D := (dC, dI)) (ci := 6) (v := .ref rw) (C := RX6) (T := TX6) (N := 11) hx hb hts in_X6_paste_X6 hown hK hP 0 rfl rfl 7 (by decide) (hts _ wd_X6_paste_0) (fun _ h9 => h9) rfl dX6_paste_26 ?_
          refine lv_iload_n hx hb dX6_paste_29 rfl (lv_at hl 4 rfl) ?_
          refine va_aldq hx hb hK hP 1 0 rfl rfl (vp_in_iff.mpr ⟨by decide, by decide⟩) dX6_paste_30 ?_
          refine W.eq (g2 := F0 m 31 ls (.ref r1 :: [])) (by rw [show fr (1 : Int32).toNatClampNeg = some r1 from hf1]; rfl) ?_
          refine lv_astore (lv' := [(7, .ref r1), (6, .ref r1), (0, .ref h0), (1, .int 1), (2, .int p1), (3, .int 1), (4, .int p3), (5, .int p4)]) hx hb dX6_paste_31 hl (by decide) rfl (fun ls hl => ?_)
          refine lv_aload hx hb dX6_paste_33 (lv_at hl 1 rfl) ?_
          refine va_get (D := (dC, dI)) (ci := 5) (v := .int 0) (C := RX5) (T := TX5) (N := 4) hx hb hts in_X6_paste_X5 hown hK hP 4 rfl rfl 0 (by decide) (hts _ wd_X6_paste_1) (fun _ h9 => h9) rfl dX6_paste_35 ?_
          refine lv_if_eq (tgt := 49) hx hb dX6_paste_38 (by decide) (fun _ => ?_) (fun h => absurd (by decide) h)
          refine lv_bipush (v := -6) hx hb dX6_paste_49 (by decide) ?_
          refine W.widen (k := 0) (n := 0) (by omega) (by omega) ?_
          exact W.iret (v := -6) hx hb hr (fun t ht hW => ⟨⟨(-6), (), rfl, (by first | rfl | ((repeat' split) <;> (first | rfl | (exfalso; omega)))), trivial⟩, hS.F ht⟩) hS.2.2 dX6_paste_51
        · refine lv_aload_n hx hb dX6_paste_25 rfl (lv_at hl 1 rfl) ?_
          refine va_get (D := (dC, dI)) (ci := 6) (v := .ref rw) (C := RX6) (T := TX6) (N := 11) hx hb hts in_X6_paste_X6 hown hK hP 0 rfl rfl 7 (by decide) (hts _ wd_X6_paste_0) (fun _ h9 => h9) rfl dX6_paste_26 ?_
          refine lv_iload_n hx hb dX6_paste_29 rfl (lv_at hl 4 rfl) ?_
          refine va_aldq hx hb hK hP 1 0 rfl rfl (vp_in_iff.mpr ⟨by decide, by decide⟩) dX6_paste_30 ?_
          refine W.eq (g2 := F0 m 31 ls (.ref r2 :: [])) (by rw [show fr (2 : Int32).toNatClampNeg = some r2 from hf2]; rfl) ?_
          refine lv_astore (lv' := [(7, .ref r2), (6, .ref r1), (0, .ref h0), (1, .int 1), (2, .int p1), (3, .int 2), (4, .int p3), (5, .int p4)]) hx hb dX6_paste_31 hl (by decide) rfl (fun ls hl => ?_)
          refine lv_aload hx hb dX6_paste_33 (lv_at hl 1 rfl) ?_
          refine va_get (D := (dC, dI)) (ci := 5) (v := .int 0) (C := RX5) (T := TX5) (N := 4) hx hb hts in_X6_paste_X5 hown hK hP 4 rfl rfl 0 (by decide) (hts _ wd_X6_paste_1) (fun _ h9 => h9) rfl dX6_paste_35 ?_
          refine lv_if_eq (tgt := 49) hx hb dX6_paste_38 (by decide) (fun _ => ?_) (fun h => absurd (by decide) h)
          refine lv_bipush (v := -6) hx hb dX6_paste_49 (by decide) ?_
          refine W.widen (k := 0) (n := 0) (by omega) (by omega) ?_
          exact W.iret (v := -6) hx hb hr (fun t ht hW => ⟨⟨(-6), (), rfl, (by first | rfl | ((repeat' split) <;> (first | rfl | (exfalso; omega)))), trivial⟩, hS.F ht⟩) hS.2.2 dX6_paste_51
        · refine lv_aload_n hx hb dX6_paste_25 rfl (lv_at hl 1 rfl) ?_
          refine va_get (D := (dC, dI)) (ci := 6) (v := .ref rw) (C := RX6) (T := TX6) (N := 11) hx hb hts in_X6_paste_X6 hown hK hP 0 rfl rfl 7 (by decide) (hts _ wd_X6_paste_0) (fun _ h9 => h9) rfl dX6_paste_26 ?_
          refine lv_iload_n hx hb dX6_paste_29 rfl (lv_at hl 4 rfl) ?_
          refine va_aldq hx hb hK hP 1 0 rfl rfl (vp_in_iff.mpr ⟨by decide, by decide⟩) dX6_paste_30 ?_
          refine W.eq (g2 := F0 m 31 ls (.ref r3 :: [])) (by rw [show fr (3 : Int32).toNatClampNeg = some r3 from hf3]; rfl) ?_
          refine lv_astore (lv' := [(7, .ref r3), (6, .ref r1), (0, .ref h0), (1, .int 1), (2, .int p1), (3, .int 3), (4, .int p3), (5, .int p4)]) hx hb dX6_paste_31 hl (by decide) rfl (fun ls hl => ?_)
          refine lv_aload hx hb dX6_paste_33 (lv_at hl 1 rfl) ?_
          refine va_get (D := (dC, dI)) (ci := 5) (v := .int 0) (C := RX5) (T := TX5) (N := 4) hx hb hts in_X6_paste_X5 hown hK hP 4 rfl rfl 0 (by decide) (hts _ wd_X6_paste_1) (fun _ h9 => h9) rfl dX6_paste_35 ?_
          refine lv_if_eq (tgt := 49) hx hb dX6_paste_38 (by decide) (fun _ => ?_) (fun h => absurd (by decide) h)
          refine lv_bipush (v := -6) hx hb dX6_paste_49 (by decide) ?_
          refine W.widen (k := 0) (n := 0) (by omega) (by omega) ?_
          exact W.iret (v := -6) hx hb hr (fun t ht hW => ⟨⟨(-6), (), rfl, (by first | rfl | ((repeat' split) <;> (first | rfl | (exfalso; omega)))), trivial⟩, hS.F ht⟩) hS.2.2 dX6_paste_51
      · refine lv_aload_n hx hb dX6_paste_17 rfl (lv_at hl 0 rfl) ?_
        refine va_get (D := (dC, dI)) (ci := 6) (v := .ref rw) (C := RX6) (T := TX6) (N := 11) hx hb hts in_X6_paste_X6 hown hK hP 0 rfl rfl 7 (by decide) (hts _ wd_X6_paste_0) (fun _ h9 => h9) rfl dX6_paste_18 ?_
        refine lv_iload_n hx hb dX6_paste_21 rfl (lv_at hl 1 rfl) ?_
        refine va_aldq hx hb hK hP 1 0 rfl rfl (vp_in_iff.mpr ⟨by decide, by decide⟩) dX6_paste_22 ?_
        refine W.eq (g2 := F0 m 23 ls (.ref r2 :: [])) (by rw [show fr (2 : Int32).toNatClampNeg = some r2 from hf2]; rfl) ?_
        refine lv_astore (lv' := [(6, .ref r2), (0, .ref h0), (1, .int 2), (2, .int p1), (3, .int p2), (4, .int p3), (5, .int p4)]) hx hb dX6_paste_23 hl (by decide) rfl (fun ls hl => ?_)
        rcases (i_four (a := p2) (by omega) (by omega) : p2 = 0 ∨ p2 = 1 ∨ p2 = 2 ∨ p2 = 3) with rfl | rfl | rfl | rfl
        · refine lv_aload_n hx hb dX6_paste_25 rfl (lv_at hl 1 rfl) ?_
          refine va_get (D := (dC, dI)) (ci := 6) (v := .ref rw) (C := RX6) (T := TX6) (N := 11) hx hb hts in_X6_paste_X6 hown hK hP 0 rfl rfl 7 (by decide) (hts _ wd_X6_paste_0) (fun _ h9 => h9) rfl dX6_paste_26 ?_
          refine lv_iload_n hx hb dX6_paste_29 rfl (lv_at hl 4 rfl) ?_
          refine va_aldq hx hb hK hP 1 0 rfl rfl (vp_in_iff.mpr ⟨by decide, by decide⟩) dX6_paste_30 ?_
          refine W.eq (g2 := F0 m 31 ls (.ref r0 :: [])) (by rw [show fr (0 : Int32).toNatClampNeg = some r0 from hf0]; rfl) ?_
          refine lv_astore (lv' := [(7, .ref r0), (6, .ref r2), (0, .ref h0), (1, .int 2), (2, .int p1), (3, .int 0), (4, .int p3), (5, .int p4)]) hx hb dX6_paste_31 hl (by decide) rfl (fun ls hl => ?_)
          refine lv_aload hx hb dX6_paste_33 (lv_at hl 1 rfl) ?_
          refine va_get (D := (dC, dI)) (ci := 5) (v := .int 0) (C := RX5) (T := TX5) (N := 4) hx hb hts in_X6_paste_X5 hown hK hP 6 rfl rfl 0 (by decide) (hts _ wd_X6_paste_1) (fun _ h9 => h9) rfl dX6_paste_35 ?_
          refine lv_if_eq (tgt := 49) hx hb dX6_paste_38 (by decide) (fun _ => ?_) (fun h => absurd (by decide) h)
          refine lv_bipush (v := -6) hx hb dX6_paste_49 (by decide) ?_
          refine W.widen (k := 0) (n := 0) (by omega) (by omega) ?_
          exact W.iret (v := -6) hx hb hr (fun t ht hW => ⟨⟨(-6), (), rfl, (by first | rfl | ((repeat' split) <;> (first | rfl | (exfalso; omega)))), trivial⟩, hS.F ht⟩) hS.2.2 dX6_paste_51
        · refine lv_aload_n hx hb dX6_paste_25 rfl (lv_at hl 1 rfl) ?_
          refine va_get (D := (dC, dI)) (ci := 6) (v := .ref rw) (C := RX6) (T := TX6) (N := 11) hx hb hts in_X6_paste_X6 hown hK hP 0 rfl rfl 7 (by decide) (hts _ wd_X6_paste_0) (fun _ h9 => h9) rfl dX6_paste_26 ?_
          refine lv_iload_n hx hb dX6_paste_29 rfl (lv_at hl 4 rfl) ?_
          refine va_aldq hx hb hK hP 1 0 rfl rfl (vp_in_iff.mpr ⟨by decide, by decide⟩) dX6_paste_30 ?_
          refine W.eq (g2 := F0 m 31 ls (.ref r1 :: [])) (by rw [show fr (1 : Int32).toNatClampNeg = some r1 from hf1]; rfl) ?_
          refine lv_astore (lv' := [(7, .ref r1), (6, .ref r2), (0, .ref h0), (1, .int 2), (2, .int p1), (3, .int 1), (4, .int p3), (5, .int p4)]) hx hb dX6_paste_31 hl (by decide) rfl (fun ls hl => ?_)
          refine lv_aload hx hb dX6_paste_33 (lv_at hl 1 rfl) ?_
          refine va_get (D := (dC, dI)) (ci := 5) (v := .int 0) (C := RX5) (T := TX5) (N := 4) hx hb hts in_X6_paste_X5 hown hK hP 6 rfl rfl 0 (by decide) (hts _ wd_X6_paste_1) (fun _ h9 => h9) rfl dX6_paste_35 ?_
          refine lv_if_eq (tgt := 49) hx hb dX6_paste_38 (by decide) (fun _ => ?_) (fun h => absurd (by decide) h)
          refine lv_bipush (v := -6) hx hb dX6_paste_49 (by decide) ?_
          refine W.widen (k := 0) (n := 0) (by omega) (by omega) ?_
          exact W.iret (v := -6) hx hb hr (fun t ht hW => ⟨⟨(-6), (), rfl, (by first | rfl | ((repeat' split) <;> (first | rfl | (exfalso; omega)))), trivial⟩, hS.F ht⟩) hS.2.2 dX6_paste_51
        · refine lv_aload_n hx hb dX6_paste_25 rfl (lv_at hl 1 rfl) ?_
          refine va_get (D := (dC, dI)) (ci := 6) (v := .ref rw) (C := RX6) (T := TX6) (N := 11) hx hb hts in_X6_paste_X6 hown hK hP 0 rfl rfl 7 (by decide) (hts _ wd_X6_paste_0) (fun _ h9 => h9) rfl dX6_paste_26 ?_
          refine lv_iload_n hx hb dX6_paste_29 rfl (lv_at hl 4 rfl) ?_
          refine va_aldq hx hb hK hP 1 0 rfl rfl (vp_in_iff.mpr ⟨by decide, by decide⟩) dX6_paste_30 ?_
          refine W.eq (g2 := F0 m 31 ls (.ref r2 :: [])) (by rw [show fr (2 : Int32).toNatClampNeg = some r2 from hf2]; rfl) ?_
          refine lv_astore (lv' := [(7, .ref r2), (6, .ref r2), (0, .ref h0), (1, .int 2), (2, .int p1), (3, .int 2), (4, .int p3), (5, .int p4)]) hx hb dX6_paste_31 hl (by decide) rfl (fun ls hl => ?_)
          refine lv_aload hx hb dX6_paste_33 (lv_at hl 1 rfl) ?_
          refine va_get (D := (dC, dI)) (ci := 5) (v := .int 0) (C := RX5) (T := TX5) (N := 4) hx hb hts in_X6_paste_X5 hown hK hP 6 rfl rfl 0 (by decide) (hts _ wd_X6_paste_1) (fun _ h9 => h9) rfl dX6_paste_35 ?_
          refine lv_if_eq (tgt := 49) hx hb dX6_paste_38 (by decide) (fun _ => ?_) (fun h => absurd (by decide) h)
          refine lv_bipush (v := -6) hx hb dX6_paste_49 (by decide) ?_
          refine W.widen (k := 0) (n := 0) (by omega) (by omega) ?_
          exact W.iret (v := -6) hx hb hr (fun t ht hW => ⟨⟨(-6), (), rfl, (by first | rfl | ((repeat' split) <;> (first | rfl | (exfalso; omega)))), trivial⟩, hS.F ht⟩) hS.2.2 dX6_paste_51
        · refine lv_aload_n hx hb dX6_paste_25 rfl (lv_at hl 1 rfl) ?_
          refine va_get (D := (dC, dI)) (ci := 6) (v := .ref rw) (C := RX6) (T := TX6) (N := 11) hx hb hts in_X6_paste_X6 hown hK hP 0 rfl rfl 7 (by decide) (hts _ wd_X6_paste_0) (fun _ h9 => h9) rfl dX6_paste_26 ?_
          refine lv_iload_n hx hb dX6_paste_29 rfl (lv_at hl 4 rfl) ?_
          refine va_aldq hx hb hK hP 1 0 rfl rfl (vp_in_iff.mpr ⟨by decide, by decide⟩) dX6_paste_30 ?_
          refine W.eq (g2 := F0 m 31 ls (.ref r3 :: [])) (by rw [show fr (3 : Int32).toNatClampNeg = some r3 from hf3]; rfl) ?_
          refine lv_astore (lv' := [(7, .ref r3), (6, .ref r2), (0, .ref h0), (1, .int 2), (2, .int p1), (3, .int 3), (4, .int p3), (5, .int p4)]) hx hb dX6_paste_31 hl (by decide) rfl (fun ls hl => ?_)
          refine lv_aload hx hb dX6_paste_33 (lv_at hl 1 rfl) ?_
          refine va_get (D := (dC, dI)) (ci := 5) (v := .int 0) (C := RX5) (T := TX5) (N := 4) hx hb hts in_X6_paste_X5 hown hK hP 6 rfl rfl 0 (by decide) (hts _ wd_X6_paste_1) (fun _ h9 => h9) rfl dX6_paste_35 ?_
          refine lv_if_eq (tgt := 49) hx hb dX6_paste_38 (by decide) (fun _ => ?_) (fun h => absurd (by decide) h)
          refine lv_bipush (v := -6) hx hb dX6_paste_49 (by decide) ?_
          refine W.widen (k := 0) (n := 0) (by omega) (by omega) ?_
          exact W.iret (v := -6) hx hb hr (fun t ht hW => ⟨⟨(-6), (), rfl, (by first | rfl | ((repeat' split) <;> (first | rfl | (exfalso; omega)))), trivial⟩, hS.F ht⟩) hS.2.2 dX6_paste_51
      · refine lv_aload_n hx hb dX6_paste_17 rfl (lv_at hl 0 rfl) ?_
        refine va_get (D := (dC, dI)) (ci := 6) (v := .ref rw) (C := RX6) (T := TX6) (N := 11) hx hb hts in_X6_paste_X6 hown hK hP 0 rfl rfl 7 (by decide) (hts _ wd_X6_paste_0) (fun _ h9 => h9) rfl dX6_paste_18 ?_
        refine lv_iload_n hx hb dX6_paste_21 rfl (lv_at hl 1 rfl) ?_
        refine va_aldq hx hb hK hP 1 0 rfl rfl (vp_in_iff.mpr ⟨by decide, by decide⟩) dX6_paste_22 ?_
        refine W.eq (g2 := F0 m 23 ls (.ref r3 :: [])) (by rw [show fr (3 : Int32).toNatClampNeg = some r3 from hf3]; rfl) ?_
        refine lv_astore (lv' := [(6, .ref r3), (0, .ref h0), (1, .int 3), (2, .int p1), (3, .int p2), (4, .int p3), (5, .int p4)]) hx hb dX6_paste_23 hl (by decide) rfl (fun ls hl => ?_)
        rcases (i_four (a := p2) (by omega) (by omega) : p2 = 0 ∨ p2 = 1 ∨ p2 = 2 ∨ p2 = 3) with rfl | rfl | rfl | rfl
        · refine lv_aload_n hx hb dX6_paste_25 rfl (lv_at hl 1 rfl) ?_
          refine va_get (D := (dC, dI)) (ci := 6) (v := .ref rw) (C := RX6) (T := TX6) (N := 11) hx hb hts in_X6_paste_X6 hown hK hP 0 rfl rfl 7 (by decide) (hts _ wd_X6_paste_0) (fun _ h9 => h9) rfl dX6_paste_26 ?_
          refine lv_iload_n hx hb dX6_paste_29 rfl (lv_at hl 4 rfl) ?_
          refine va_aldq hx hb hK hP 1 0 rfl rfl (vp_in_iff.mpr ⟨by decide, by decide⟩) dX6_paste_30 ?_
          refine W.eq (g2 := F0 m 31 ls (.ref r0 :: [])) (by rw [show fr (0 : Int32).toNatClampNeg = some r0 from hf0]; rfl) ?_
          refine lv_astore (lv' := [(7, .ref r0), (6, .ref r3), (0, .ref h0), (1, .int 3), (2, .int p1), (3, .int 0), (4, .int p3), (5, .int p4)]) hx hb dX6_paste_31 hl (by decide) rfl (fun ls hl => ?_)
          refine lv_aload hx hb dX6_paste_33 (lv_at hl 1 rfl) ?_
          refine va_get (D := (dC, dI)) (ci := 5) (v := .int 0) (C := RX5) (T := TX5) (N := 4) hx hb hts in_X6_paste_X5 hown hK hP 8 rfl rfl 0 (by decide) (hts _ wd_X6_paste_1) (fun _ h9 => h9) rfl dX6_paste_35 ?_
          refine lv_if_eq (tgt := 49) hx hb dX6_paste_38 (by decide) (fun _ => ?_) (fun h => absurd (by decide) h)
          refine lv_bipush (v := -6) hx hb dX6_paste_49 (by decide) ?_
          refine W.widen (k := 0) (n := 0) (by omega) (by omega) ?_
          exact W.iret (v := -6) hx hb hr (fun t ht hW => ⟨⟨(-6), (), rfl, (by first | rfl | ((repeat' split) <;> (first | rfl | (exfalso; omega)))), trivial⟩, hS.F ht⟩) hS.2.2 dX6_paste_51
        · refine lv_aload_n hx hb dX6_paste_25 rfl (lv_at hl 1 rfl) ?_
          refine va_get (D := (dC, dI)) (ci := 6) (v := .ref rw) (C := RX6) (T := TX6) (N := 11) hx hb hts in_X6_paste_X6 hown hK hP 0 rfl rfl 7 (by decide) (hts _ wd_X6_paste_0) (fun _ h9 => h9) rfl dX6_paste_26 ?_
          refine lv_iload_n hx hb dX6_paste_29 rfl (lv_at hl 4 rfl) ?_
          refine va_aldq hx hb hK hP 1 0 rfl rfl (vp_in_iff.mpr ⟨by decide, by decide⟩) dX6_paste_30 ?_
          refine W.eq (g2 := F0 m 31 ls (.ref r1 :: [])) (by rw [show fr (1 : Int32).toNatClampNeg = some r1 from hf1]; rfl) ?_
          refine lv_astore (lv' := [(7, .ref r1), (6, .ref r3), (0, .ref h0), (1, .int 3), (2, .int p1), (3, .int 1), (4, .int p3), (5, .int p4)]) hx hb dX6_paste_31 hl (by decide) rfl (fun ls hl => ?_)
          refine lv_aload hx hb dX6_paste_33 (lv_at hl 1 rfl) ?_
          refine va_get (D := (dC, dI)) (ci := 5) (v := .int 0) (C := RX5) (T := TX5) (N := 4) hx hb hts in_X6_paste_X5 hown hK hP 8 rfl rfl 0 (by decide) (hts _ wd_X6_paste_1) (fun _ h9 => h9) rfl dX6_paste_35 ?_
          refine lv_if_eq (tgt := 49) hx hb dX6_paste_38 (by decide) (fun _ => ?_) (fun h => absurd (by decide) h)
          refine lv_bipush (v := -6) hx hb dX6_paste_49 (by decide) ?_
          refine W.widen (k := 0) (n := 0) (by omega) (by omega) ?_
          exact W.iret (v := -6) hx hb hr (fun t ht hW => ⟨⟨(-6), (), rfl, (by first | rfl | ((repeat' split) <;> (first | rfl | (exfalso; omega)))), trivial⟩, hS.F ht⟩) hS.2.2 dX6_paste_51
        · refine lv_aload_n hx hb dX6_paste_25 rfl (lv_at hl 1 rfl) ?_
          refine va_get (D := (dC, dI)) (ci := 6) (v := .ref rw) (C := RX6) (T := TX6) (N := 11) hx hb hts in_X6_paste_X6 hown hK hP 0 rfl rfl 7 (by decide) (hts _ wd_X6_paste_0) (fun _ h9 => h9) rfl dX6_paste_26 ?_
          refine lv_iload_n hx hb dX6_paste_29 rfl (lv_at hl 4 rfl) ?_
          refine va_aldq hx hb hK hP 1 0 rfl rfl (vp_in_iff.mpr ⟨by decide, by decide⟩) dX6_paste_30 ?_
          refine W.eq (g2 := F0 m 31 ls (.ref r2 :: [])) (by rw [show fr (2 : Int32).toNatClampNeg = some r2 from hf2]; rfl) ?_
          refine lv_astore (lv' := [(7, .ref r2), (6, .ref r3), (0, .ref h0), (1, .int 3), (2, .int p1), (3, .int 2), (4, .int p3), (5, .int p4)]) hx hb dX6_paste_31 hl (by decide) rfl (fun ls hl => ?_)
          refine lv_aload hx hb dX6_paste_33 (lv_at hl 1 rfl) ?_
          refine va_get (D := (dC, dI)) (ci := 5) (v := .int 0) (C := RX5) (T := TX5) (N := 4) hx hb hts in_X6_paste_X5 hown hK hP 8 rfl rfl 0 (by decide) (hts _ wd_X6_paste_1) (fun _ h9 => h9) rfl dX6_paste_35 ?_
          refine lv_if_eq (tgt := 49) hx hb dX6_paste_38 (by decide) (fun _ => ?_) (fun h => absurd (by decide) h)
          refine lv_bipush (v := -6) hx hb dX6_paste_49 (by decide) ?_
          refine W.widen (k := 0) (n := 0) (by omega) (by omega) ?_
          exact W.iret (v := -6) hx hb hr (fun t ht hW => ⟨⟨(-6), (), rfl, (by first | rfl | ((repeat' split) <;> (first | rfl | (exfalso; omega)))), trivial⟩, hS.F ht⟩) hS.2.2 dX6_paste_51
        · refine lv_aload_n hx hb dX6_paste_25 rfl (lv_at hl 1 rfl) ?_
          refine va_get (D := (dC, dI)) (ci := 6) (v := .ref rw) (C := RX6) (T := TX6) (N := 11) hx hb hts in_X6_paste_X6 hown hK hP 0 rfl rfl 7 (by decide) (hts _ wd_X6_paste_0) (fun _ h9 => h9) rfl dX6_paste_26 ?_
          refine lv_iload_n hx hb dX6_paste_29 rfl (lv_at hl 4 rfl) ?_
          refine va_aldq hx hb hK hP 1 0 rfl rfl (vp_in_iff.mpr ⟨by decide, by decide⟩) dX6_paste_30 ?_
          refine W.eq (g2 := F0 m 31 ls (.ref r3 :: [])) (by rw [show fr (3 : Int32).toNatClampNeg = some r3 from hf3]; rfl) ?_
          refine lv_astore (lv' := [(7, .ref r3), (6, .ref r3), (0, .ref h0), (1, .int 3), (2, .int p1), (3, .int 3), (4, .int p3), (5, .int p4)]) hx hb dX6_paste_31 hl (by decide) rfl (fun ls hl => ?_)
          refine lv_aload hx hb dX6_paste_33 (lv_at hl 1 rfl) ?_
          refine va_get (D := (dC, dI)) (ci := 5) (v := .int 0) (C := RX5) (T := TX5) (N := 4) hx hb hts in_X6_paste_X5 hown hK hP 8 rfl rfl 0 (by decide) (hts _ wd_X6_paste_1) (fun _ h9 => h9) rfl dX6_paste_35 ?_
          refine lv_if_eq (tgt := 49) hx hb dX6_paste_38 (by decide) (fun _ => ?_) (fun h => absurd (by decide) h)
          refine lv_bipush (v := -6) hx hb dX6_paste_49 (by decide) ?_
          refine W.widen (k := 0) (n := 0) (by omega) (by omega) ?_
          exact W.iret (v := -6) hx hb hr (fun t ht hW => ⟨⟨(-6), (), rfl, (by first | rfl | ((repeat' split) <;> (first | rfl | (exfalso; omega)))), trivial⟩, hS.F ht⟩) hS.2.2 dX6_paste_51
    · obtain rfl : r_5 = 0 := r_59
      have hC_25 := hC
      refine lv_if_ne (tgt := 17) hx hb dX6_paste_11 (by decide) (fun h => absurd (by decide) h) (fun _ => ?_)
      refine lv_bipush (v := -2) hx hb dX6_paste_14 (by decide) ?_
      refine W.widen (k := 0) (n := 0) (by omega) (by omega) ?_
      exact W.iret (v := -2) hx hb hr (fun t ht hW => ⟨⟨(-2), (), rfl, (by first | rfl | ((repeat' split) <;> (first | rfl | (exfalso; omega)))), trivial⟩, hS.F ht⟩) hS.2.2 dX6_paste_16
  · obtain rfl : r_1 = 0 := r_19
    have hC_27 := hC
    refine lv_if_eq (tgt := 14) hx hb dX6_paste_4 (by decide) (fun _ => ?_) (fun h => absurd (by decide) h)
    refine lv_bipush (v := -2) hx hb dX6_paste_14 (by decide) ?_
    refine W.widen (k := 0) (n := 0) (by omega) (by omega) ?_
    exact W.iret (v := -2) hx hb hr (fun t ht hW => ⟨⟨(-2), (), rfl, (by first | rfl | ((repeat' split) <;> (first | rfl | (exfalso; omega)))), trivial⟩, hS.F ht⟩) hS.2.2 dX6_paste_16

