theorem dX6_end_0 : decode cX6_end 0 = .ok (.iload_n 1, 1) := by decide +kernel
theorem dX6_end_1 : decode cX6_end 1 = .ok (.ifCond .lt 11, 3) := by decide +kernel
theorem dX6_end_4 : decode cX6_end 4 = .ok (.iload_n 1, 1) := by decide +kernel
theorem dX6_end_5 : decode cX6_end 5 = .ok (.aload_n 0, 1) := by decide +kernel
theorem dX6_end_6 : decode cX6_end 6 = .ok (.getfield 13, 3) := by decide +kernel
theorem dX6_end_9 : decode cX6_end 9 = .ok (.if_icmp .le 5, 3) := by decide +kernel
theorem dX6_end_12 : decode cX6_end 12 = .ok (.iconst (-1), 1) := by decide +kernel
theorem dX6_end_13 : decode cX6_end 13 = .ok (.ireturn, 1) := by decide +kernel
theorem dX6_end_14 : decode cX6_end 14 = .ok (.aload_n 0, 1) := by decide +kernel
theorem dX6_end_15 : decode cX6_end 15 = .ok (.iload_n 1, 1) := by decide +kernel
theorem dX6_end_16 : decode cX6_end 16 = .ok (.putfield 13, 3) := by decide +kernel
theorem dX6_end_19 : decode cX6_end 19 = .ok (.iload_n 1, 1) := by decide +kernel
theorem dX6_end_20 : decode cX6_end 20 = .ok (.ireturn, 1) := by decide +kernel
def wz_X6_end : List Cond := .code yX6_end cX6_end 2 (some .int) :: ([Cond.fieldLink RX6 13 "HedgeMaze" "tapeSize" "I"] ++ wsX60)
theorem wd_X6_end_0 : Cond.fieldLink RX6 13 "HedgeMaze" "tapeSize" "I" ∈ wz_X6_end := List.mem_of_getElem? (i := 1) rfl
theorem in_X6_end_X6 : ∀ w ∈ wsX60, w ∈ wz_X6_end := fun _ h => List.mem_cons_of_mem _ (List.mem_append_right _ h)
set_option maxHeartbeats 4000000 in
set_option maxRecDepth 100000 in
theorem c_X6_end (l : Launch) (dC : Nat → ClassId) (dI : Nat → Nat → Nat) (sz : Nat) (h0 : Nat) (tp : Nat) (ts : Int32) (fn : Int32) (fp : Int32) (rd : Nat) (gd : Nat) (im : Nat) (rw : Nat) (gn : Nat) (ho : Nat) (sq : Nat) (p0 : Int32) (h_ts : 0 ≤ ts.toInt ∧ ts.toInt ≤ 1600) : Met l yX6_end wz_X6_end ({ frames := 0, cells := 0, slots := 0, locals := 0 }) (va_Pc [.ref h0, .int p0] (fun U => U.heap.size = sz ∧ va_P (dC, dI) vwCl [(h0, .inr (6, [.ref tp, .int ts, .int fn, .int fp, .ref rd, .ref gd, .ref im, .ref rw, .ref gn, .ref ho, .ref sq]))] U.heap ∧ va_K (dC, dI) vwCl [] U ∧ va_D (fun _ => True) [(h0, .inr (6, [.ref tp, .int ts, .int fn, .int fp, .ref rd, .ref gd, .ref im, .ref rw, .ref gn, .ref ho, .ref sq]))])) (va_Qi (fun (r : Int32) (u : Int32) => (0 ≤ u.toInt ∧ u.toInt ≤ 1600)) (fun (u : Int32) (t : State) => va_P (dC, dI) vwCl [(h0, .inr (6, [.ref tp, .int u, .int fn, .int fp, .ref rd, .ref gd, .ref im, .ref rw, .ref gn, .ref ho, .ref sq]))] t.heap ∧ va_K (dC, dI) vwCl [] t ∧ va_D (va_A [(h0, .inr (6, [.ref tp, .int ts, .int fn, .int fp, .ref rd, .ref gd, .ref im, .ref rw, .ref gn, .ref ho, .ref sq]))] sz) [(h0, .inr (6, [.ref tp, .int u, .int fn, .int fp, .ref rd, .ref gd, .ref im, .ref rw, .ref gn, .ref ho, .ref sq]))]) (va_A [(h0, .inr (6, [.ref tp, .int ts, .int fn, .int fp, .ref rd, .ref gd, .ref im, .ref rw, .ref gn, .ref ho, .ref sq]))] sz)) 0 0 (va_A [(h0, .inr (6, [.ref tp, .int ts, .int fn, .int fp, .ref rd, .ref gd, .ref im, .ref rw, .ref gn, .ref ho, .ref sq]))] sz) := by
  refine Met.ofW (cc := cX6_end) (maxL := 2) (ret := (some .int)) (by decide) rfl ?_
  intro p e s m args below meth c s₁ B hml hv
  obtain ⟨rfl, hsz, hP, hK, hD0⟩ := hv
  have hx := B.exec
  have hb := B.bytes
  have hr := B.returns
  have hts := atoms_spec (ws := wz_X6_end) B.pre
  have hown : s.vm.findClass RX6 = some m.cls := findClass_of_methodNamed B.named
  have hlocks := B.notSynchronized
  subst hsz
  have hD := hD0.self (sz := s.heap.size)
  generalize hAe : va_A [(h0, .inr (6, [.ref tp, .int ts, .int fn, .int fp, .ref rd, .ref gd, .ref im, .ref rw, .ref gn, .ref ho, .ref sq]))] s.heap.size = A at hD ⊢
  have hA : ∀ q : Nat, s.heap.size ≤ q → A q := fun q h => by rw [← hAe]; exact Or.inr h
  have hS : va_S A s.heap s.heap [] := va_S.rf
  have hP : va_P (dC, dI) vwCl [(h0, .inr (6, [.ref tp, .int ts, .int fn, .int fp, .ref rd, .ref gd, .ref im, .ref rw, .ref gn, .ref ho, .ref sq]))] s.heap := hP
  have hl := lv_entry ([.ref h0, .int p0]) (n := 2) (Nat.le_of_ble_eq_true rfl)
  rw [lg_entry_eq]
  generalize (lg_sl ([.ref h0, .int p0]) ++ List.replicate (2 - (lg_sl ([.ref h0, .int p0])).length) Slot.unset).toArray = ls at hl ⊢
  have hl : lv_has ls 2 [(0, .ref h0), (1, .int p0)] := hl
  refine lv_iload_n hx hb dX6_end_0 rfl (lv_at hl 1 rfl) ?_
  refine lv_if_lt (tgt := 12) hx hb dX6_end_1 (by decide) (fun c_1 => ?_) (fun c_1 => ?_)
  · have c_1 : p0.toInt < 0 := i_lt (a := p0) (b := 0) rfl (by decide) c_1
    refine lv_iconst (v := -1) hx hb dX6_end_12 (by decide) ?_
    have hP9 := hP.sub (ws' := [(h0, .inr (6, [.ref tp, .int ts, .int fn, .int fp, .ref rd, .ref gd, .ref im, .ref rw, .ref gn, .ref ho, .ref sq]))]) [0] rfl
    have hD9 := hD.sub (ws' := [(h0, .inr (6, [.ref tp, .int ts, .int fn, .int fp, .ref rd, .ref gd, .ref im, .ref rw, .ref gn, .ref ho, .ref sq]))]) [0] (by decide) rfl
    have hK9 := hK.sub (tys' := []) [] rfl
    refine W.widen (k := 0) (n := 0) (by omega) (by omega) ?_
    exact W.iret (v := -1) hx hb hr (fun t ht hW => ⟨⟨(-1), (ts), rfl, (by have k0 : (-1 : Int32).toInt = -1 := (by decide); first | rfl | trivial | (dsimp only; omega) | omega | (left; rfl) | (right; rfl) | (dsimp only; first | (left; rfl) | (right; rfl))), by rw [ht]; exact hP9, va_K.moved hW.alike hK9, hD9⟩, hS.F ht⟩) hS.2.2 dX6_end_13
  · have c_1 : 0 ≤ p0.toInt := i_nlt (a := p0) (b := 0) rfl (by decide) c_1
    refine lv_iload_n hx hb dX6_end_4 rfl (lv_at hl 1 rfl) ?_
    refine lv_aload_n hx hb dX6_end_5 rfl (lv_at hl 0 rfl) ?_
    refine va_get (D := (dC, dI)) (ci := 6) (v := .int ts) (C := RX6) (T := TX6) (N := 11) hx hb hts in_X6_end_X6 hown hK hP 0 rfl rfl 1 (by decide) (hts _ wd_X6_end_0) (fun _ h9 => h9) rfl dX6_end_6 ?_
    refine lv_icmp_le (tgt := 14) hx hb dX6_end_9 (by decide) (fun c_2 => ?_) (fun c_2 => ?_)
    · have c_2 : p0.toInt ≤ ts.toInt := i_le (a := p0) (b := ts) rfl rfl c_2
      refine lv_aload_n hx hb dX6_end_14 rfl (lv_at hl 0 rfl) ?_
      refine lv_iload_n hx hb dX6_end_15 rfl (lv_at hl 1 rfl) ?_
      refine va_put (D := (dC, dI)) (ci := 6) (v := .int p0) (ty := .int) (C := RX6) (T := TX6) (N := 11) hx hb hts in_X6_end_X6 tyX6 tyX6_ok nmX6 hown hK hP hD hS 0 rfl rfl 1 (by decide) (hts _ wd_X6_end_0) (fun _ h9 => h9) rfl (by decide +kernel) rfl rfl (Nat.le_of_ble_eq_true rfl) dX6_end_16 (fun H locs hP hD hS => ?_)
      have hP : va_P (dC, dI) vwCl [(h0, .inr (6, [.ref tp, .int p0, .int fn, .int fp, .ref rd, .ref gd, .ref im, .ref rw, .ref gn, .ref ho, .ref sq]))] H := hP
      have hD : va_D A [(h0, .inr (6, [.ref tp, .int p0, .int fn, .int fp, .ref rd, .ref gd, .ref im, .ref rw, .ref gn, .ref ho, .ref sq]))] := hD
      refine lv_iload_n hx hb dX6_end_19 rfl (lv_at hl 1 rfl) ?_
      have hP9 := hP.sub (ws' := [(h0, .inr (6, [.ref tp, .int p0, .int fn, .int fp, .ref rd, .ref gd, .ref im, .ref rw, .ref gn, .ref ho, .ref sq]))]) [0] rfl
      have hD9 := hD.sub (ws' := [(h0, .inr (6, [.ref tp, .int p0, .int fn, .int fp, .ref rd, .ref gd, .ref im, .ref rw, .ref gn, .ref ho, .ref sq]))]) [0] (by decide) rfl
      have hK9 := hK.sub (tys' := []) [] rfl
      refine W.widen (k := 0) (n := 0) (by omega) (by omega) ?_
      exact W.iret (v := p0) hx hb hr (fun t ht hW => ⟨⟨p0, (p0), rfl, (by first | rfl | trivial | (dsimp only; omega) | omega | (left; rfl) | (right; rfl) | (dsimp only; first | (left; rfl) | (right; rfl))), by rw [ht]; exact hP9, va_K.moved hW.alike hK9, hD9⟩, hS.F ht⟩) hS.2.2 dX6_end_20
    · have c_2 : ts.toInt < p0.toInt := i_nle (a := p0) (b := ts) rfl rfl c_2
      refine lv_iconst (v := -1) hx hb dX6_end_12 (by decide) ?_
      have hP9 := hP.sub (ws' := [(h0, .inr (6, [.ref tp, .int ts, .int fn, .int fp, .ref rd, .ref gd, .ref im, .ref rw, .ref gn, .ref ho, .ref sq]))]) [0] rfl
      have hD9 := hD.sub (ws' := [(h0, .inr (6, [.ref tp, .int ts, .int fn, .int fp, .ref rd, .ref gd, .ref im, .ref rw, .ref gn, .ref ho, .ref sq]))]) [0] (by decide) rfl
      have hK9 := hK.sub (tys' := []) [] rfl
      refine W.widen (k := 0) (n := 0) (by omega) (by omega) ?_
      exact W.iret (v := -1) hx hb hr (fun t ht hW => ⟨⟨(-1), (ts), rfl, (by have k0 : (-1 : Int32).toInt = -1 := (by decide); first | rfl | trivial | (dsimp only; omega) | omega | (left; rfl) | (right; rfl) | (dsimp only; first | (left; rfl) | (right; rfl))), by rw [ht]; exact hP9, va_K.moved hW.alike hK9, hD9⟩, hS.F ht⟩) hS.2.2 dX6_end_13

theorem dX6_fault_0 : decode cX6_fault 0 = .ok (.iload_n 1, 1) := by decide +kernel
theorem dX6_fault_1 : decode cX6_fault 1 = .ok (.ifCond .ne 8, 3) := by decide +kernel
theorem dX6_fault_4 : decode cX6_fault 4 = .ok (.aload_n 0, 1) := by decide +kernel
theorem dX6_fault_5 : decode cX6_fault 5 = .ok (.getfield 17, 3) := by decide +kernel
theorem dX6_fault_8 : decode cX6_fault 8 = .ok (.ireturn, 1) := by decide +kernel
theorem dX6_fault_9 : decode cX6_fault 9 = .ok (.iload_n 1, 1) := by decide +kernel
theorem dX6_fault_10 : decode cX6_fault 10 = .ok (.iconst 1, 1) := by decide +kernel
theorem dX6_fault_11 : decode cX6_fault 11 = .ok (.if_icmp .ne 10, 3) := by decide +kernel
theorem dX6_fault_14 : decode cX6_fault 14 = .ok (.aload_n 0, 1) := by decide +kernel
theorem dX6_fault_15 : decode cX6_fault 15 = .ok (.getfield 20, 3) := by decide +kernel
theorem dX6_fault_18 : decode cX6_fault 18 = .ok (.goto 4, 3) := by decide +kernel
theorem dX6_fault_21 : decode cX6_fault 21 = .ok (.iconst (-1), 1) := by decide +kernel
theorem dX6_fault_22 : decode cX6_fault 22 = .ok (.ireturn, 1) := by decide +kernel
def wz_X6_fault : List Cond := .code yX6_fault cX6_fault 2 (some .int) :: ([Cond.fieldLink RX6 20 "HedgeMaze" "faultPlace" "I", Cond.fieldLink RX6 17 "HedgeMaze" "faultNumber" "I"] ++ wsX60)
theorem wd_X6_fault_0 : Cond.fieldLink RX6 20 "HedgeMaze" "faultPlace" "I" ∈ wz_X6_fault := List.mem_of_getElem? (i := 1) rfl
theorem wd_X6_fault_1 : Cond.fieldLink RX6 17 "HedgeMaze" "faultNumber" "I" ∈ wz_X6_fault := List.mem_of_getElem? (i := 2) rfl
theorem in_X6_fault_X6 : ∀ w ∈ wsX60, w ∈ wz_X6_fault := fun _ h => List.mem_cons_of_mem _ (List.mem_append_right _ h)
set_option maxHeartbeats 4000000 in
set_option maxRecDepth 100000 in
theorem c_X6_fault (l : Launch) (dC : Nat → ClassId) (dI : Nat → Nat → Nat) (sz : Nat) (h0 : Nat) (tp : Nat) (ts : Int32) (fn : Int32) (fp : Int32) (rd : Nat) (gd : Nat) (im : Nat) (rw : Nat) (gn : Nat) (ho : Nat) (sq : Nat) (p0 : Int32)  : Met l yX6_fault wz_X6_fault ({ frames := 0, cells := 0, slots := 0, locals := 0 }) (va_Pc [.ref h0, .int p0] (fun U => U.heap.size = sz ∧ va_P (dC, dI) vwCl [(h0, .inr (6, [.ref tp, .int ts, .int fn, .int fp, .ref rd, .ref gd, .ref im, .ref rw, .ref gn, .ref ho, .ref sq]))] U.heap ∧ va_K (dC, dI) vwCl [] U ∧ va_D (fun _ => True) [(h0, .inr (6, [.ref tp, .int ts, .int fn, .int fp, .ref rd, .ref gd, .ref im, .ref rw, .ref gn, .ref ho, .ref sq]))])) (va_Qi (fun (r : Int32) (u : Unit) => True) (fun (u : Unit) (t : State) => va_P (dC, dI) vwCl [(h0, .inr (6, [.ref tp, .int ts, .int fn, .int fp, .ref rd, .ref gd, .ref im, .ref rw, .ref gn, .ref ho, .ref sq]))] t.heap ∧ va_K (dC, dI) vwCl [] t ∧ va_D (va_A [(h0, .inr (6, [.ref tp, .int ts, .int fn, .int fp, .ref rd, .ref gd, .ref im, .ref rw, .ref gn, .ref ho, .ref sq]))] sz) [(h0, .inr (6, [.ref tp, .int ts, .int fn, .int fp, .ref rd, .ref gd, .ref im, .ref rw, .ref gn, .ref ho, .ref sq]))]) (va_A [(h0, .inr (6, [.ref tp, .int ts, .int fn, .int fp, .ref rd, .ref gd, .ref im, .ref rw, .ref gn, .ref ho, .ref sq]))] sz)) 0 0 (va_A [(h0, .inr (6, [.ref tp, .int ts, .int fn, .int fp, .ref rd, .ref gd, .ref im, .ref rw, .ref gn, .ref ho, .ref sq]))] sz) := by
  refine Met.ofW (cc := cX6_fault) (maxL := 2) (ret := (some .int)) (by decide) rfl ?_
  intro p e s m args below meth c s₁ B hml hv
  obtain ⟨rfl, hsz, hP, hK, hD0⟩ := hv
  have hx := B.exec
  have hb := B.bytes
  have hr := B.returns
  have hts := atoms_spec (ws := wz_X6_fault) B.pre
  have hown : s.vm.findClass RX6 = some m.cls := findClass_of_methodNamed B.named
  have hlocks := B.notSynchronized
  subst hsz
  have hD := hD0.self (sz := s.heap.size)
  generalize hAe : va_A [(h0, .inr (6, [.ref tp, .int ts, .int fn, .int fp, .ref rd, .ref gd, .ref im, .ref rw, .ref gn, .ref ho, .ref sq]))] s.heap.size = A at hD ⊢
  have hA : ∀ q : Nat, s.heap.size ≤ q → A q := fun q h => by rw [← hAe]; exact Or.inr h
  have hS : va_S A s.heap s.heap [] := va_S.rf
  have hP : va_P (dC, dI) vwCl [(h0, .inr (6, [.ref tp, .int ts, .int fn, .int fp, .ref rd, .ref gd, .ref im, .ref rw, .ref gn, .ref ho, .ref sq]))] s.heap := hP
  have hl := lv_entry ([.ref h0, .int p0]) (n := 2) (Nat.le_of_ble_eq_true rfl)
  rw [lg_entry_eq]
  generalize (lg_sl ([.ref h0, .int p0]) ++ List.replicate (2 - (lg_sl ([.ref h0, .int p0])).length) Slot.unset).toArray = ls at hl ⊢
  have hl : lv_has ls 2 [(0, .ref h0), (1, .int p0)] := hl
  refine lv_iload_n hx hb dX6_fault_0 rfl (lv_at hl 1 rfl) ?_
  refine lv_if_ne (tgt := 9) hx hb dX6_fault_1 (by decide) (fun c_1 => ?_) (fun c_1 => ?_)
  · have c_1 : p0.toInt ≠ 0 := i_ne (a := p0) (b := 0) rfl (by decide) c_1
    refine lv_iload_n hx hb dX6_fault_9 rfl (lv_at hl 1 rfl) ?_
    refine lv_iconst (v := 1) hx hb dX6_fault_10 (by decide) ?_
    refine lv_icmp_ne (tgt := 21) hx hb dX6_fault_11 (by decide) (fun c_2 => ?_) (fun c_2 => ?_)
    · have c_2 : p0.toInt ≠ 1 := i_ne (a := p0) (b := 1) rfl (by decide) c_2
      refine lv_iconst (v := -1) hx hb dX6_fault_21 (by decide) ?_
      have hP9 := hP.sub (ws' := [(h0, .inr (6, [.ref tp, .int ts, .int fn, .int fp, .ref rd, .ref gd, .ref im, .ref rw, .ref gn, .ref ho, .ref sq]))]) [0] rfl
      have hD9 := hD.sub (ws' := [(h0, .inr (6, [.ref tp, .int ts, .int fn, .int fp, .ref rd, .ref gd, .ref im, .ref rw, .ref gn, .ref ho, .ref sq]))]) [0] (by decide) rfl
      have hK9 := hK.sub (tys' := []) [] rfl
      refine W.widen (k := 0) (n := 0) (by omega) (by omega) ?_
      exact W.iret (v := -1) hx hb hr (fun t ht hW => ⟨⟨(-1), (), rfl, trivial, by rw [ht]; exact hP9, va_K.moved hW.alike hK9, hD9⟩, hS.F ht⟩) hS.2.2 dX6_fault_22
    · have c_2 : p0.toInt = 1 := i_eq (a := p0) (b := 1) rfl (by decide) c_2
      refine lv_aload_n hx hb dX6_fault_14 rfl (lv_at hl 0 rfl) ?_
      refine va_get (D := (dC, dI)) (ci := 6) (v := .int fp) (C := RX6) (T := TX6) (N := 11) hx hb hts in_X6_fault_X6 hown hK hP 0 rfl rfl 3 (by decide) (hts _ wd_X6_fault_0) (fun _ h9 => h9) rfl dX6_fault_15 ?_
      refine lv_goto (tgt := 22) hx hb dX6_fault_18 (by decide) ?_
      have hP9 := hP.sub (ws' := [(h0, .inr (6, [.ref tp, .int ts, .int fn, .int fp, .ref rd, .ref gd, .ref im, .ref rw, .ref gn, .ref ho, .ref sq]))]) [0] rfl
      have hD9 := hD.sub (ws' := [(h0, .inr (6, [.ref tp, .int ts, .int fn, .int fp, .ref rd, .ref gd, .ref im, .ref rw, .ref gn, .ref ho, .ref sq]))]) [0] (by decide) rfl
      have hK9 := hK.sub (tys' := []) [] rfl
      refine W.widen (k := 0) (n := 0) (by omega) (by omega) ?_
      exact W.iret (v := fp) hx hb hr (fun t ht hW => ⟨⟨fp, (), rfl, trivial, by rw [ht]; exact hP9, va_K.moved hW.alike hK9, hD9⟩, hS.F ht⟩) hS.2.2 dX6_fault_22
  · have c_1 : p0.toInt = 0 := i_eq (a := p0) (b := 0) rfl (by decide) c_1
    refine lv_aload_n hx hb dX6_fault_4 rfl (lv_at hl 0 rfl) ?_
    refine va_get (D := (dC, dI)) (ci := 6) (v := .int fn) (C := RX6) (T := TX6) (N := 11) hx hb hts in_X6_fault_X6 hown hK hP 0 rfl rfl 2 (by decide) (hts _ wd_X6_fault_1) (fun _ h9 => h9) rfl dX6_fault_5 ?_
    have hP9 := hP.sub (ws' := [(h0, .inr (6, [.ref tp, .int ts, .int fn, .int fp, .ref rd, .ref gd, .ref im, .ref rw, .ref gn, .ref ho, .ref sq]))]) [0] rfl
    have hD9 := hD.sub (ws' := [(h0, .inr (6, [.ref tp, .int ts, .int fn, .int fp, .ref rd, .ref gd, .ref im, .ref rw, .ref gn, .ref ho, .ref sq]))]) [0] (by decide) rfl
    have hK9 := hK.sub (tys' := []) [] rfl
    refine W.widen (k := 0) (n := 0) (by omega) (by omega) ?_
    exact W.iret (v := fn) hx hb hr (fun t ht hW => ⟨⟨fn, (), rfl, trivial, by rw [ht]; exact hP9, va_K.moved hW.alike hK9, hD9⟩, hS.F ht⟩) hS.2.2 dX6_fault_8

theorem dX6_sides_0 : decode cX6_sides 0 = .ok (.aload_n 0, 1) := by decide +kernel
theorem dX6_sides_1 : decode cX6_sides 1 = .ok (.invokevirtual 86, 3) := by decide +kernel
theorem dX6_sides_4 : decode cX6_sides 4 = .ok (.ifCond .eq 16, 3) := by decide +kernel
theorem dX6_sides_7 : decode cX6_sides 7 = .ok (.aload_n 0, 1) := by decide +kernel
theorem dX6_sides_8 : decode cX6_sides 8 = .ok (.getfield 33, 3) := by decide +kernel
theorem dX6_sides_11 : decode cX6_sides 11 = .ok (.getfield 90, 3) := by decide +kernel
theorem dX6_sides_14 : decode cX6_sides 14 = .ok (.getfield 94, 3) := by decide +kernel
theorem dX6_sides_17 : decode cX6_sides 17 = .ok (.goto 5, 3) := by decide +kernel
theorem dX6_sides_20 : decode cX6_sides 20 = .ok (.bipush (-2), 2) := by decide +kernel
theorem dX6_sides_22 : decode cX6_sides 22 = .ok (.ireturn, 1) := by decide +kernel
def wz_X6_sides : List Cond := .code yX6_sides cX6_sides 1 (some .int) :: ([Cond.fieldLink RX6 33 "HedgeMaze" "garden" "LHedgeMaze$Garden;", Cond.fieldLink RX6 90 "HedgeMaze$Garden" "plan" "LHedgeMaze$Plan;", Cond.fieldLink RX6 94 "HedgeMaze$Plan" "sideCount" "I", Cond.methodLink RX6 86 yX6_hasMaze, Cond.instanceMethod yX6_hasMaze, Cond.selects RX6 yX6_hasMaze yX6_hasMaze, Cond.initialized RX6, Cond.code yX6_hasMaze cX6_hasMaze 1 (some .boolean), Cond.fieldLink RX6 83 "HedgeMaze$Garden" "lines" "I"] ++ wsX60 ++ wsX00 ++ wsX30)
theorem wd_X6_sides_0 : Cond.fieldLink RX6 33 "HedgeMaze" "garden" "LHedgeMaze$Garden;" ∈ wz_X6_sides := List.mem_of_getElem? (i := 1) rfl
theorem wd_X6_sides_1 : Cond.fieldLink RX6 90 "HedgeMaze$Garden" "plan" "LHedgeMaze$Plan;" ∈ wz_X6_sides := List.mem_of_getElem? (i := 2) rfl
theorem wd_X6_sides_2 : Cond.fieldLink RX6 94 "HedgeMaze$Plan" "sideCount" "I" ∈ wz_X6_sides := List.mem_of_getElem? (i := 3) rfl
theorem in_X6_sides_X6 : ∀ w ∈ wsX60, w ∈ wz_X6_sides := fun _ h => List.mem_cons_of_mem _ (List.mem_append_left _ (List.mem_append_left _ (List.mem_append_right _ h)))
theorem in_X6_sides_X0 : ∀ w ∈ wsX00, w ∈ wz_X6_sides := fun _ h => List.mem_cons_of_mem _ (List.mem_append_left _ (List.mem_append_right _ h))
theorem in_X6_sides_X3 : ∀ w ∈ wsX30, w ∈ wz_X6_sides := fun _ h => List.mem_cons_of_mem _ (List.mem_append_right _ h)
set_option maxRecDepth 20000 in
theorem g_X6_sides_X6_hasMaze : GoodIn wz_X6_sides (wsV RX6 86 RX6 yX6_hasMaze wz_X6_hasMaze) := goodIn_r _ [4, 5, 6, 7, 8, 1, 9, 10, 11, 12, 13, 14, 15, 16, 17, 18, 19, 20, 21, 22, 23, 24, 25, 26, 27, 28, 29, 30, 31, 32] rfl (by decide +kernel)
set_option maxHeartbeats 4000000 in
set_option maxRecDepth 100000 in
theorem c_X6_sides (l : Launch) (dC : Nat → ClassId) (dI : Nat → Nat → Nat) (sz : Nat) (h0 : Nat) (tp : Nat) (ts : Int32) (fn : Int32) (fp : Int32) (rd : Nat) (gd : Nat) (im : Nat) (rw : Nat) (gn : Nat) (ho : Nat) (sq : Nat) (gdl : Int32) (gdh : Int64) (gdw : Int64) (gdi : Int32) (gde : Int32) (gdc : Int32) (gdt : Nat) (gdg : Int32) (gdu : Nat) (gdn : Int32) (gdx : Nat) (pl : Nat) (plw : Int32) (pld : Int32) (plc : Int32) (pls : Int32) (plm : Int64) (plf : Nat) (plo : Nat) (plb : Nat) (pla : Nat)  : Met l yX6_sides wz_X6_sides ({ frames := 1, cells := 0, slots := 0, locals := 20 }) (va_Pc [.ref h0] (fun U => U.heap.size = sz ∧ va_P (dC, dI) vwCl [(h0, .inr (6, [.ref tp, .int ts, .int fn, .int fp, .ref rd, .ref gd, .ref im, .ref rw, .ref gn, .ref ho, .ref sq])), (gd, .inr (0, [.ref pl, .int gdl, .long gdh, .long gdw, .int gdi, .int gde, .int gdc, .ref gdt, .int gdg, .ref gdu, .int gdn, .ref gdx])), (pl, .inr (3, [.int plw, .int pld, .int plc, .int pls, .long plm, .ref plf, .ref plo, .ref plb, .ref pla]))] U.heap ∧ va_K (dC, dI) vwCl [] U ∧ va_D (fun _ => True) [(h0, .inr (6, [.ref tp, .int ts, .int fn, .int fp, .ref rd, .ref gd, .ref im, .ref rw, .ref gn, .ref ho, .ref sq])), (gd, .inr (0, [.ref pl, .int gdl, .long gdh, .long gdw, .int gdi, .int gde, .int gdc, .ref gdt, .int gdg, .ref gdu, .int gdn, .ref gdx])), (pl, .inr (3, [.int plw, .int pld, .int plc, .int pls, .long plm, .ref plf, .ref plo, .ref plb, .ref pla]))])) (va_Qi (fun (r : Int32) (u : Unit) => True) (fun (u : Unit) (t : State) => va_P (dC, dI) vwCl [(h0, .inr (6, [.ref tp, .int ts, .int fn, .int fp, .ref rd, .ref gd, .ref im, .ref rw, .ref gn, .ref ho, .ref sq])), (gd, .inr (0, [.ref pl, .int gdl, .long gdh, .long gdw, .int gdi, .int gde, .int gdc, .ref gdt, .int gdg, .ref gdu, .int gdn, .ref gdx])), (pl, .inr (3, [.int plw, .int pld, .int plc, .int pls, .long plm, .ref plf, .ref plo, .ref plb, .ref pla]))] t.heap ∧ va_K (dC, dI) vwCl [] t ∧ va_D (va_A [(h0, .inr (6, [.ref tp, .int ts, .int fn, .int fp, .ref rd, .ref gd, .ref im, .ref rw, .ref gn, .ref ho, .ref sq])), (gd, .inr (0, [.ref pl, .int gdl, .long gdh, .long gdw, .int gdi, .int gde, .int gdc, .ref gdt, .int gdg, .ref gdu, .int gdn, .ref gdx])), (pl, .inr (3, [.int plw, .int pld, .int plc, .int pls, .long plm, .ref plf, .ref plo, .ref plb, .ref pla]))] sz) [(h0, .inr (6, [.ref tp, .int ts, .int fn, .int fp, .ref rd, .ref gd, .ref im, .ref rw, .ref gn, .ref ho, .ref sq])), (gd, .inr (0, [.ref pl, .int gdl, .long gdh, .long gdw, .int gdi, .int gde, .int gdc, .ref gdt, .int gdg, .ref gdu, .int gdn, .ref gdx])), (pl, .inr (3, [.int plw, .int pld, .int plc, .int pls, .long plm, .ref plf, .ref plo, .ref plb, .ref pla]))]) (va_A [(h0, .inr (6, [.ref tp, .int ts, .int fn, .int fp, .ref rd, .ref gd, .ref im, .ref rw, .ref gn, .ref ho, .ref sq])), (gd, .inr (0, [.ref pl, .int gdl, .long gdh, .long gdw, .int gdi, .int gde, .int gdc, .ref gdt, .int gdg, .ref gdu, .int gdn, .ref gdx])), (pl, .inr (3, [.int plw, .int pld, .int plc, .int pls, .long plm, .ref plf, .ref plo, .ref plb, .ref pla]))] sz)) 0 0 (va_A [(h0, .inr (6, [.ref tp, .int ts, .int fn, .int fp, .ref rd, .ref gd, .ref im, .ref rw, .ref gn, .ref ho, .ref sq])), (gd, .inr (0, [.ref pl, .int gdl, .long gdh, .long gdw, .int gdi, .int gde, .int gdc, .ref gdt, .int gdg, .ref gdu, .int gdn, .ref gdx])), (pl, .inr (3, [.int plw, .int pld, .int plc, .int pls, .long plm, .ref plf, .ref plo, .ref plb, .ref pla]))] sz) := by
  refine Met.ofW (cc := cX6_sides) (maxL := 1) (ret := (some .int)) (by decide) rfl ?_
  intro p e s m args below meth c s₁ B hml hv
  obtain ⟨rfl, hsz, hP, hK, hD0⟩ := hv
  have hx := B.exec
  have hb := B.bytes
  have hr := B.returns
  have hts := atoms_spec (ws := wz_X6_sides) B.pre
  have hown : s.vm.findClass RX6 = some m.cls := findClass_of_methodNamed B.named
  have hlocks := B.notSynchronized
  subst hsz
  have hD := hD0.self (sz := s.heap.size)
  generalize hAe : va_A [(h0, .inr (6, [.ref tp, .int ts, .int fn, .int fp, .ref rd, .ref gd, .ref im, .ref rw, .ref gn, .ref ho, .ref sq])), (gd, .inr (0, [.ref pl, .int gdl, .long gdh, .long gdw, .int gdi, .int gde, .int gdc, .ref gdt, .int gdg, .ref gdu, .int gdn, .ref gdx])), (pl, .inr (3, [.int plw, .int pld, .int plc, .int pls, .long plm, .ref plf, .ref plo, .ref plb, .ref pla]))] s.heap.size = A at hD ⊢
  have hA : ∀ q : Nat, s.heap.size ≤ q → A q := fun q h => by rw [← hAe]; exact Or.inr h
  have hS : va_S A s.heap s.heap [] := va_S.rf
  have hP : va_P (dC, dI) vwCl [(h0, .inr (6, [.ref tp, .int ts, .int fn, .int fp, .ref rd, .ref gd, .ref im, .ref rw, .ref gn, .ref ho, .ref sq])), (gd, .inr (0, [.ref pl, .int gdl, .long gdh, .long gdw, .int gdi, .int gde, .int gdc, .ref gdt, .int gdg, .ref gdu, .int gdn, .ref gdx])), (pl, .inr (3, [.int plw, .int pld, .int plc, .int pls, .long plm, .ref plf, .ref plo, .ref plb, .ref pla]))] s.heap := hP
  have hl := lv_entry ([.ref h0]) (n := 1) (Nat.le_of_ble_eq_true rfl)
  rw [lg_entry_eq]
  generalize (lg_sl ([.ref h0]) ++ List.replicate (1 - (lg_sl ([.ref h0])).length) Slot.unset).toArray = ls at hl ⊢
  have hl : lv_has ls 1 [(0, .ref h0)] := hl
  refine lv_aload_n hx hb dX6_sides_0 rfl (lv_at hl 0 rfl) ?_
  have hPc := hP.sub (ws' := [(h0, .inr (6, [.ref tp, .int ts, .int fn, .int fp, .ref rd, .ref gd, .ref im, .ref rw, .ref gn, .ref ho, .ref sq])), (gd, .inr (0, [.ref pl, .int gdl, .long gdh, .long gdw, .int gdi, .int gde, .int gdc, .ref gdt, .int gdg, .ref gdu, .int gdn, .ref gdx]))]) [0, 1] rfl
  have hDc := hD.sub (ws' := [(h0, .inr (6, [.ref tp, .int ts, .int fn, .int fp, .ref rd, .ref gd, .ref im, .ref rw, .ref gn, .ref ho, .ref sq])), (gd, .inr (0, [.ref pl, .int gdl, .long gdh, .long gdw, .int gdi, .int gde, .int gdc, .ref gdt, .int gdg, .ref gdu, .int gdn, .ref gdx]))]) [0, 1] (by decide) rfl
  have hKc := hK.sub (tys' := []) [] rfl
  have hFc := va_free (wc := [(h0, .inr (6, [.ref tp, .int ts, .int fn, .int fp, .ref rd, .ref gd, .ref im, .ref rw, .ref gn, .ref ho, .ref sq])), (gd, .inr (0, [.ref pl, .int gdl, .long gdh, .long gdw, .int gdi, .int gde, .int gdc, .ref gdt, .int gdg, .ref gdu, .int gdn, .ref gdx]))]) hD hS hA [0, 1] rfl
  refine va_calli (va_runV (As := []) (rest := []) ⟨hx, hb, hml, hown, hts⟩ (c_X6_hasMaze l dC dI s.heap.size h0 tp ts fn fp rd gd im rw gn ho sq gdl gdh gdw gdi gde gdc gdt gdg gdu gdn gdx pl ) (cwV 0 hts g_X6_sides_X6_hasMaze rfl rfl rfl (by decide +kernel) ⟨Nat.le_of_ble_eq_true rfl, Nat.le_of_ble_eq_true rfl⟩) ⟨fun a U g mk q => by obtain ⟨q0, q1, qP, qK, qD⟩ := q; exact ⟨q0, q1, qP, va_K.moved (u := U) (U := U.calling g mk a) (Vm.Alike.refl U.vm) qK, qD⟩, va_recv hKc hPc (ci := 6) (q0 := 0) rfl rfl, fun U hU hW => ⟨rfl, by rw [hU], by rw [hU]; exact hPc, va_K.moved hW.alike hKc, hDc.weaken (fun _ _ _ _ => trivial)⟩⟩ rfl rfl hl.1 rfl (lv_room (Nat.le_of_ble_eq_true rfl)) dX6_sides_1 ⟨Nat.le_of_ble_eq_true rfl, Nat.le_of_ble_eq_true rfl⟩) hS (fun q _ h => hFc q h) hFc (fun r_1 u t H1 locs ht hvm hw_2 hB hz1 hk1 hS => ?_)
  obtain ⟨hP1, hK1, hD1⟩ := hB
  have hP1 : va_P (dC, dI) vwCl [(h0, .inr (6, [.ref tp, .int ts, .int fn, .int fp, .ref rd, .ref gd, .ref im, .ref rw, .ref gn, .ref ho, .ref sq])), (gd, .inr (0, [.ref pl, .int gdl, .long gdh, .long gdw, .int gdi, .int gde, .int gdc, .ref gdt, .int gdg, .ref gdu, .int gdn, .ref gdx]))] t.heap := hP1
  rw [ht] at hP1
  try dsimp only at hw_2
  obtain ⟨hP, hD⟩ := va_join (wr := [(pl, .inr (3, [.int plw, .int pld, .int plc, .int pls, .long plm, .ref plf, .ref plo, .ref plb, .ref pla]))]) (w1 := [(h0, .inr (6, [.ref tp, .int ts, .int fn, .int fp, .ref rd, .ref gd, .ref im, .ref rw, .ref gn, .ref ho, .ref sq])), (gd, .inr (0, [.ref pl, .int gdl, .long gdh, .long gdw, .int gdi, .int gde, .int gdc, .ref gdt, .int gdg, .ref gdu, .int gdn, .ref gdx]))]) hP hD [0, 1] [2] rfl rfl (by decide) (by decide) hk1 hFc hP1 hD1
  generalize H1 = H at hP hS ⊢
  have hP : va_P (dC, dI) vwCl [(pl, .inr (3, [.int plw, .int pld, .int plc, .int pls, .long plm, .ref plf, .ref plo, .ref plb, .ref pla])), (h0, .inr (6, [.ref tp, .int ts, .int fn, .int fp, .ref rd, .ref gd, .ref im, .ref rw, .ref gn, .ref ho, .ref sq])), (gd, .inr (0, [.ref pl, .int gdl, .long gdh, .long gdw, .int gdi, .int gde, .int gdc, .ref gdt, .int gdg, .ref gdu, .int gdn, .ref gdx]))] H := hP
  have hD : va_D A [(pl, .inr (3, [.int plw, .int pld, .int plc, .int pls, .long plm, .ref plf, .ref plo, .ref plb, .ref pla])), (h0, .inr (6, [.ref tp, .int ts, .int fn, .int fp, .ref rd, .ref gd, .ref im, .ref rw, .ref gn, .ref ho, .ref sq])), (gd, .inr (0, [.ref pl, .int gdl, .long gdh, .long gdw, .int gdi, .int gde, .int gdc, .ref gdt, .int gdg, .ref gdu, .int gdn, .ref gdx]))] := hD
  rcases i_bool hw_2 with ⟨r_19, hC⟩ | ⟨r_19, hC⟩
  · obtain rfl : r_1 = 1 := r_19
    have hC_3 := hC
    refine lv_if_eq (tgt := 20) hx hb dX6_sides_4 (by decide) (fun h => absurd h (by decide)) (fun _ => ?_)
    refine lv_aload_n hx hb dX6_sides_7 rfl (lv_at hl 0 rfl) ?_
    refine va_get (D := (dC, dI)) (ci := 6) (v := .ref gd) (C := RX6) (T := TX6) (N := 11) hx hb hts in_X6_sides_X6 hown hK hP 1 rfl rfl 5 (by decide) (hts _ wd_X6_sides_0) (fun _ h9 => h9) rfl dX6_sides_8 ?_
    refine va_get (D := (dC, dI)) (ci := 0) (v := .ref pl) (C := RX0) (T := TX0) (N := 12) hx hb hts in_X6_sides_X0 hown hK hP 2 rfl rfl 0 (by decide) (hts _ wd_X6_sides_1) (fun _ h9 => h9) rfl dX6_sides_11 ?_
    refine va_get (D := (dC, dI)) (ci := 3) (v := .int pls) (C := RX3) (T := TX3) (N := 9) hx hb hts in_X6_sides_X3 hown hK hP 0 rfl rfl 3 (by decide) (hts _ wd_X6_sides_2) (fun _ h9 => h9) rfl dX6_sides_14 ?_
    refine lv_goto (tgt := 22) hx hb dX6_sides_17 (by decide) ?_
    have hP9 := hP.sub (ws' := [(h0, .inr (6, [.ref tp, .int ts, .int fn, .int fp, .ref rd, .ref gd, .ref im, .ref rw, .ref gn, .ref ho, .ref sq])), (gd, .inr (0, [.ref pl, .int gdl, .long gdh, .long gdw, .int gdi, .int gde, .int gdc, .ref gdt, .int gdg, .ref gdu, .int gdn, .ref gdx])), (pl, .inr (3, [.int plw, .int pld, .int plc, .int pls, .long plm, .ref plf, .ref plo, .ref plb, .ref pla]))]) [1, 2, 0] rfl
    have hD9 := hD.sub (ws' := [(h0, .inr (6, [.ref tp, .int ts, .int fn, .int fp, .ref rd, .ref gd, .ref im, .ref rw, .ref gn, .ref ho, .ref sq])), (gd, .inr (0, [.ref pl, .int gdl, .long gdh, .long gdw, .int gdi, .int gde, .int gdc, .ref gdt, .int gdg, .ref gdu, .int gdn, .ref gdx])), (pl, .inr (3, [.int plw, .int pld, .int plc, .int pls, .long plm, .ref plf, .ref plo, .ref plb, .ref pla]))]) [1, 2, 0] (by decide) rfl
    have hK9 := hK.sub (tys' := []) [] rfl
    refine W.widen (k := 0) (n := 0) (by omega) (by omega) ?_
    exact W.iret (v := pls) hx hb hr (fun t ht hW => ⟨⟨pls, (), rfl, trivial, by rw [ht]; exact hP9, va_K.moved hW.alike hK9, hD9⟩, hS.F ht⟩) hS.2.2 dX6_sides_22
  · obtain rfl : r_1 = 0 := r_19
    have hC_5 := hC
    refine lv_if_eq (tgt := 20) hx hb dX6_sides_4 (by decide) (fun _ => ?_) (fun h => absurd (by decide) h)
    refine lv_bipush (v := -2) hx hb dX6_sides_20 (by decide) ?_
    have hP9 := hP.sub (ws' := [(h0, .inr (6, [.ref tp, .int ts, .int fn, .int fp, .ref rd, .ref gd, .ref im, .ref rw, .ref gn, .ref ho, .ref sq])), (gd, .inr (0, [.ref pl, .int gdl, .long gdh, .long gdw, .int gdi, .int gde, .int gdc, .ref gdt, .int gdg, .ref gdu, .int gdn, .ref gdx])), (pl, .inr (3, [.int plw, .int pld, .int plc, .int pls, .long plm, .ref plf, .ref plo, .ref plb, .ref pla]))]) [1, 2, 0] rfl
    have hD9 := hD.sub (ws' := [(h0, .inr (6, [.ref tp, .int ts, .int fn, .int fp, .ref rd, .ref gd, .ref im, .ref rw, .ref gn, .ref ho, .ref sq])), (gd, .inr (0, [.ref pl, .int gdl, .long gdh, .long gdw, .int gdi, .int gde, .int gdc, .ref gdt, .int gdg, .ref gdu, .int gdn, .ref gdx])), (pl, .inr (3, [.int plw, .int pld, .int plc, .int pls, .long plm, .ref plf, .ref plo, .ref plb, .ref pla]))]) [1, 2, 0] (by decide) rfl
    have hK9 := hK.sub (tys' := []) [] rfl
    refine W.widen (k := 0) (n := 0) (by omega) (by omega) ?_
    exact W.iret (v := -2) hx hb hr (fun t ht hW => ⟨⟨(-2), (), rfl, trivial, by rw [ht]; exact hP9, va_K.moved hW.alike hK9, hD9⟩, hS.F ht⟩) hS.2.2 dX6_sides_22

theorem dX6_side_0 : decode cX6_side 0 = .ok (.aload_n 0, 1) := by decide +kernel
theorem dX6_side_1 : decode cX6_side 1 = .ok (.iload_n 1, 1) := by decide +kernel
theorem dX6_side_2 : decode cX6_side 2 = .ok (.invokevirtual 99, 3) := by decide +kernel
theorem dX6_side_5 : decode cX6_side 5 = .ok (.ifCond .eq 12, 3) := by decide +kernel
theorem dX6_side_8 : decode cX6_side 8 = .ok (.iload_n 2, 1) := by decide +kernel
theorem dX6_side_9 : decode cX6_side 9 = .ok (.ifCond .lt 8, 3) := by decide +kernel
theorem dX6_side_12 : decode cX6_side 12 = .ok (.iload_n 2, 1) := by decide +kernel
theorem dX6_side_13 : decode cX6_side 13 = .ok (.iconst 4, 1) := by decide +kernel
theorem dX6_side_14 : decode cX6_side 14 = .ok (.if_icmp .lt 6, 3) := by decide +kernel
theorem dX6_side_17 : decode cX6_side 17 = .ok (.bipush (-2), 2) := by decide +kernel
theorem dX6_side_19 : decode cX6_side 19 = .ok (.ireturn, 1) := by decide +kernel
theorem dX6_side_20 : decode cX6_side 20 = .ok (.aload_n 0, 1) := by decide +kernel
theorem dX6_side_21 : decode cX6_side 21 = .ok (.getfield 33, 3) := by decide +kernel
theorem dX6_side_24 : decode cX6_side 24 = .ok (.getfield 90, 3) := by decide +kernel
theorem dX6_side_27 : decode cX6_side 27 = .ok (.iload_n 1, 1) := by decide +kernel
theorem dX6_side_28 : decode cX6_side 28 = .ok (.iload_n 2, 1) := by decide +kernel
theorem dX6_side_29 : decode cX6_side 29 = .ok (.invokevirtual 103, 3) := by decide +kernel
theorem dX6_side_32 : decode cX6_side 32 = .ok (.ireturn, 1) := by decide +kernel
def wz_X6_side : List Cond := .code yX6_side cX6_side 3 (some .int) :: ([Cond.fieldLink RX6 33 "HedgeMaze" "garden" "LHedgeMaze$Garden;", Cond.fieldLink RX6 90 "HedgeMaze$Garden" "plan" "LHedgeMaze$Plan;", Cond.methodLink RX6 99 yX6_isCell, Cond.instanceMethod yX6_isCell, Cond.selects RX6 yX6_isCell yX6_isCell, Cond.initialized RX6, Cond.code yX6_isCell cX6_isCell 2 (some .boolean), Cond.fieldLink RX6 169 "HedgeMaze$Plan" "cellCount" "I", Cond.methodLink RX6 103 yX3_sideAt, Cond.instanceMethod yX3_sideAt, Cond.selects RX3 yX3_sideAt yX3_sideAt, Cond.initialized RX3, Cond.code yX3_sideAt cX3_sideAt 4 (some .int), Cond.fieldLink RX3 39 "HedgeMaze$Plan" "around" "[I"] ++ wsX60 ++ wsX00 ++ wsX30)
theorem wd_X6_side_0 : Cond.fieldLink RX6 33 "HedgeMaze" "garden" "LHedgeMaze$Garden;" ∈ wz_X6_side := List.mem_of_getElem? (i := 1) rfl
theorem wd_X6_side_1 : Cond.fieldLink RX6 90 "HedgeMaze$Garden" "plan" "LHedgeMaze$Plan;" ∈ wz_X6_side := List.mem_of_getElem? (i := 2) rfl
theorem in_X6_side_X6 : ∀ w ∈ wsX60, w ∈ wz_X6_side := fun _ h => List.mem_cons_of_mem _ (List.mem_append_left _ (List.mem_append_left _ (List.mem_append_right _ h)))
theorem in_X6_side_X0 : ∀ w ∈ wsX00, w ∈ wz_X6_side := fun _ h => List.mem_cons_of_mem _ (List.mem_append_left _ (List.mem_append_right _ h))
set_option maxRecDepth 20000 in
theorem g_X6_side_X6_isCell : GoodIn wz_X6_side (wsV RX6 99 RX6 yX6_isCell wz_X6_isCell) := goodIn_r _ [3, 4, 5, 6, 7, 1, 2, 8, 15, 16, 17, 18, 19, 20, 21, 22, 23, 24, 25, 26, 27, 28, 29, 30, 31, 32, 33, 34, 35, 36, 37, 38, 39, 40, 41, 42, 43, 44, 45, 46] rfl (by decide +kernel)
set_option maxRecDepth 20000 in
theorem g_X6_side_X3_sideAt : GoodIn wz_X6_side (wsV RX6 103 RX3 yX3_sideAt wz_X3_sideAt) := goodIn_r _ [9, 10, 11, 12, 13, 14, 38, 39, 40, 41, 42, 43, 44, 45, 46] rfl (by decide +kernel)
set_option maxHeartbeats 4000000 in
set_option maxRecDepth 100000 in
theorem c_X6_side (l : Launch) (dC : Nat → ClassId) (dI : Nat → Nat → Nat) (sz : Nat) (h0 : Nat) (tp : Nat) (ts : Int32) (fn : Int32) (fp : Int32) (rd : Nat) (gd : Nat) (im : Nat) (rw : Nat) (gn : Nat) (ho : Nat) (sq : Nat) (gdl : Int32) (gdh : Int64) (gdw : Int64) (gdi : Int32) (gde : Int32) (gdc : Int32) (gdt : Nat) (gdg : Int32) (gdu : Nat) (gdn : Int32) (gdx : Nat) (pl : Nat) (plw : Int32) (pld : Int32) (plc : Int32) (pls : Int32) (plm : Int64) (plf : Nat) (plo : Nat) (plb : Nat) (pla : Nat) (plka : ClassId) (plA : Nat → Int32) (p0 : Int32) (p1 : Int32)  : Met l yX6_side wz_X6_side ({ frames := 1, cells := 0, slots := 0, locals := 23 }) (va_Pc [.ref h0, .int p0, .int p1] (fun U => U.heap.size = sz ∧ va_P (dC, dI) vwCl [(h0, .inr (6, [.ref tp, .int ts, .int fn, .int fp, .ref rd, .ref gd, .ref im, .ref rw, .ref gn, .ref ho, .ref sq])), (gd, .inr (0, [.ref pl, .int gdl, .long gdh, .long gdw, .int gdi, .int gde, .int gdc, .ref gdt, .int gdg, .ref gdu, .int gdn, .ref gdx])), (pl, .inr (3, [.int plw, .int pld, .int plc, .int pls, .long plm, .ref plf, .ref plo, .ref plb, .ref pla])), (pla, .inl (plka, 100, .inl plA))] U.heap ∧ va_K (dC, dI) vwCl [(plka, .int)] U ∧ va_D (fun _ => True) [(h0, .inr (6, [.ref tp, .int ts, .int fn, .int fp, .ref rd, .ref gd, .ref im, .ref rw, .ref gn, .ref ho, .ref sq])), (gd, .inr (0, [.ref pl, .int gdl, .long gdh, .long gdw, .int gdi, .int gde, .int gdc, .ref gdt, .int gdg, .ref gdu, .int gdn, .ref gdx])), (pl, .inr (3, [.int plw, .int pld, .int plc, .int pls, .long plm, .ref plf, .ref plo, .ref plb, .ref pla])), (pla, .inl (plka, 100, .inl plA))])) (va_Qi (fun (r : Int32) (u : Unit) => True) (fun (u : Unit) (t : State) => va_P (dC, dI) vwCl [(h0, .inr (6, [.ref tp, .int ts, .int fn, .int fp, .ref rd, .ref gd, .ref im, .ref rw, .ref gn, .ref ho, .ref sq])), (gd, .inr (0, [.ref pl, .int gdl, .long gdh, .long gdw, .int gdi, .int gde, .int gdc, .ref gdt, .int gdg, .ref gdu, .int gdn, .ref gdx])), (pl, .inr (3, [.int plw, .int pld, .int plc, .int pls, .long plm, .ref plf, .ref plo, .ref plb, .ref pla])), (pla, .inl (plka, 100, .inl plA))] t.heap ∧ va_K (dC, dI) vwCl [] t ∧ va_D (va_A [(h0, .inr (6, [.ref tp, .int ts, .int fn, .int fp, .ref rd, .ref gd, .ref im, .ref rw, .ref gn, .ref ho, .ref sq])), (gd, .inr (0, [.ref pl, .int gdl, .long gdh, .long gdw, .int gdi, .int gde, .int gdc, .ref gdt, .int gdg, .ref gdu, .int gdn, .ref gdx])), (pl, .inr (3, [.int plw, .int pld, .int plc, .int pls, .long plm, .ref plf, .ref plo, .ref plb, .ref pla])), (pla, .inl (plka, 100, .inl plA))] sz) [(h0, .inr (6, [.ref tp, .int ts, .int fn, .int fp, .ref rd, .ref gd, .ref im, .ref rw, .ref gn, .ref ho, .ref sq])), (gd, .inr (0, [.ref pl, .int gdl, .long gdh, .long gdw, .int gdi, .int gde, .int gdc, .ref gdt, .int gdg, .ref gdu, .int gdn, .ref gdx])), (pl, .inr (3, [.int plw, .int pld, .int plc, .int pls, .long plm, .ref plf, .ref plo, .ref plb, .ref pla])), (pla, .inl (plka, 100, .inl plA))]) (va_A [(h0, .inr (6, [.ref tp, .int ts, .int fn, .int fp, .ref rd, .ref gd, .ref im, .ref rw, .ref gn, .ref ho, .ref sq])), (gd, .inr (0, [.ref pl, .int gdl, .long gdh, .long gdw, .int gdi, .int gde, .int gdc, .ref gdt, .int gdg, .ref gdu, .int gdn, .ref gdx])), (pl, .inr (3, [.int plw, .int pld, .int plc, .int pls, .long plm, .ref plf, .ref plo, .ref plb, .ref pla])), (pla, .inl (plka, 100, .inl plA))] sz)) 0 0 (va_A [(h0, .inr (6, [.ref tp, .int ts, .int fn, .int fp, .ref rd, .ref gd, .ref im, .ref rw, .ref gn, .ref ho, .ref sq])), (gd, .inr (0, [.ref pl, .int gdl, .long gdh, .long gdw, .int gdi, .int gde, .int gdc, .ref gdt, .int gdg, .ref gdu, .int gdn, .ref gdx])), (pl, .inr (3, [.int plw, .int pld, .int plc, .int pls, .long plm, .ref plf, .ref plo, .ref plb, .ref pla])), (pla, .inl (plka, 100, .inl plA))] sz) := by
  refine Met.ofW (cc := cX6_side) (maxL := 3) (ret := (some .int)) (by decide) rfl ?_
  intro p e s m args below meth c s₁ B hml hv
  obtain ⟨rfl, hsz, hP, hK, hD0⟩ := hv
  have hx := B.exec
  have hb := B.bytes
  have hr := B.returns
  have hts := atoms_spec (ws := wz_X6_side) B.pre
  have hown : s.vm.findClass RX6 = some m.cls := findClass_of_methodNamed B.named
  have hlocks := B.notSynchronized
  subst hsz
  have hD := hD0.self (sz := s.heap.size)
  generalize hAe : va_A [(h0, .inr (6, [.ref tp, .int ts, .int fn, .int fp, .ref rd, .ref gd, .ref im, .ref rw, .ref gn, .ref ho, .ref sq])), (gd, .inr (0, [.ref pl, .int gdl, .long gdh, .long gdw, .int gdi, .int gde, .int gdc, .ref gdt, .int gdg, .ref gdu, .int gdn, .ref gdx])), (pl, .inr (3, [.int plw, .int pld, .int plc, .int pls, .long plm, .ref plf, .ref plo, .ref plb, .ref pla])), (pla, .inl (plka, 100, .inl plA))] s.heap.size = A at hD ⊢
  have hA : ∀ q : Nat, s.heap.size ≤ q → A q := fun q h => by rw [← hAe]; exact Or.inr h
  have hS : va_S A s.heap s.heap [] := va_S.rf
  have hP : va_P (dC, dI) vwCl [(h0, .inr (6, [.ref tp, .int ts, .int fn, .int fp, .ref rd, .ref gd, .ref im, .ref rw, .ref gn, .ref ho, .ref sq])), (gd, .inr (0, [.ref pl, .int gdl, .long gdh, .long gdw, .int gdi, .int gde, .int gdc, .ref gdt, .int gdg, .ref gdu, .int gdn, .ref gdx])), (pl, .inr (3, [.int plw, .int pld, .int plc, .int pls, .long plm, .ref plf, .ref plo, .ref plb, .ref pla])), (pla, .inl (plka, 100, .inl plA))] s.heap := hP
  have hl := lv_entry ([.ref h0, .int p0, .int p1]) (n := 3) (Nat.le_of_ble_eq_true rfl)
  rw [lg_entry_eq]
  generalize (lg_sl ([.ref h0, .int p0, .int p1]) ++ List.replicate (3 - (lg_sl ([.ref h0, .int p0, .int p1])).length) Slot.unset).toArray = ls at hl ⊢
  have hl : lv_has ls 3 [(0, .ref h0), (1, .int p0), (2, .int p1)] := hl
  refine lv_aload_n hx hb dX6_side_0 rfl (lv_at hl 0 rfl) ?_
  refine lv_iload_n hx hb dX6_side_1 rfl (lv_at hl 1 rfl) ?_
  have hPc := hP.sub (ws' := [(h0, .inr (6, [.ref tp, .int ts, .int fn, .int fp, .ref rd, .ref gd, .ref im, .ref rw, .ref gn, .ref ho, .ref sq])), (gd, .inr (0, [.ref pl, .int gdl, .long gdh, .long gdw, .int gdi, .int gde, .int gdc, .ref gdt, .int gdg, .ref gdu, .int gdn, .ref gdx])), (pl, .inr (3, [.int plw, .int pld, .int plc, .int pls, .long plm, .ref plf, .ref plo, .ref plb, .ref pla]))]) [0, 1, 2] rfl
  have hDc := hD.sub (ws' := [(h0, .inr (6, [.ref tp, .int ts, .int fn, .int fp, .ref rd, .ref gd, .ref im, .ref rw, .ref gn, .ref ho, .ref sq])), (gd, .inr (0, [.ref pl, .int gdl, .long gdh, .long gdw, .int gdi, .int gde, .int gdc, .ref gdt, .int gdg, .ref gdu, .int gdn, .ref gdx])), (pl, .inr (3, [.int plw, .int pld, .int plc, .int pls, .long plm, .ref plf, .ref plo, .ref plb, .ref pla]))]) [0, 1, 2] (by decide) rfl
  have hKc := hK.sub (tys' := []) [] rfl
  have hFc := va_free (wc := [(h0, .inr (6, [.ref tp, .int ts, .int fn, .int fp, .ref rd, .ref gd, .ref im, .ref rw, .ref gn, .ref ho, .ref sq])), (gd, .inr (0, [.ref pl, .int gdl, .long gdh, .long gdw, .int gdi, .int gde, .int gdc, .ref gdt, .int gdg, .ref gdu, .int gdn, .ref gdx])), (pl, .inr (3, [.int plw, .int pld, .int plc, .int pls, .long plm, .ref plf, .ref plo, .ref plb, .ref pla]))]) hD hS hA [0, 1, 2] rfl
  refine va_calli (va_runV (As := [.int p0]) (rest := []) ⟨hx, hb, hml, hown, hts⟩ (c_X6_isCell l dC dI s.heap.size h0 tp ts fn fp rd gd im rw gn ho sq gdl gdh gdw gdi gde gdc gdt gdg gdu gdn gdx pl plw pld plc pls plm plf plo plb pla p0 ) (cwV 1 hts g_X6_side_X6_isCell rfl rfl rfl (by decide +kernel) ⟨Nat.le_of_ble_eq_true rfl, Nat.le_of_ble_eq_true rfl⟩) ⟨fun a U g mk q => by obtain ⟨q0, q1, qP, qK, qD⟩ := q; exact ⟨q0, q1, qP, va_K.moved (u := U) (U := U.calling g mk a) (Vm.Alike.refl U.vm) qK, qD⟩, va_recv hKc hPc (ci := 6) (q0 := 0) rfl rfl, fun U hU hW => ⟨rfl, by rw [hU], by rw [hU]; exact hPc, va_K.moved hW.alike hKc, hDc.weaken (fun _ _ _ _ => trivial)⟩⟩ rfl rfl hl.1 rfl (lv_room (Nat.le_of_ble_eq_true rfl)) dX6_side_2 ⟨Nat.le_of_ble_eq_true rfl, Nat.le_of_ble_eq_true rfl⟩) hS (fun q _ h => hFc q h) hFc (fun r_1 u t H1 locs ht hvm hw_2 hB hz1 hk1 hS => ?_)
  obtain ⟨hP1, hK1, hD1⟩ := hB
  have hP1 : va_P (dC, dI) vwCl [(h0, .inr (6, [.ref tp, .int ts, .int fn, .int fp, .ref rd, .ref gd, .ref im, .ref rw, .ref gn, .ref ho, .ref sq])), (gd, .inr (0, [.ref pl, .int gdl, .long gdh, .long gdw, .int gdi, .int gde, .int gdc, .ref gdt, .int gdg, .ref gdu, .int gdn, .ref gdx])), (pl, .inr (3, [.int plw, .int pld, .int plc, .int pls, .long plm, .ref plf, .ref plo, .ref plb, .ref pla]))] t.heap := hP1
  rw [ht] at hP1
  try dsimp only at hw_2
  obtain ⟨hP, hD⟩ := va_join (wr := [(pla, .inl (plka, 100, .inl plA))]) (w1 := [(h0, .inr (6, [.ref tp, .int ts, .int fn, .int fp, .ref rd, .ref gd, .ref im, .ref rw, .ref gn, .ref ho, .ref sq])), (gd, .inr (0, [.ref pl, .int gdl, .long gdh, .long gdw, .int gdi, .int gde, .int gdc, .ref gdt, .int gdg, .ref gdu, .int gdn, .ref gdx])), (pl, .inr (3, [.int plw, .int pld, .int plc, .int pls, .long plm, .ref plf, .ref plo, .ref plb, .ref pla]))]) hP hD [0, 1, 2] [3] rfl rfl (by decide) (by decide) hk1 hFc hP1 hD1
  generalize H1 = H at hP hS ⊢
  have hP : va_P (dC, dI) vwCl [(pla, .inl (plka, 100, .inl plA)), (h0, .inr (6, [.ref tp, .int ts, .int fn, .int fp, .ref rd, .ref gd, .ref im, .ref rw, .ref gn, .ref ho, .ref sq])), (gd, .inr (0, [.ref pl, .int gdl, .long gdh, .long gdw, .int gdi, .int gde, .int gdc, .ref gdt, .int gdg, .ref gdu, .int gdn, .ref gdx])), (pl, .inr (3, [.int plw, .int pld, .int plc, .int pls, .long plm, .ref plf, .ref plo, .ref plb, .ref pla]))] H := hP
  have hD : va_D A [(pla, .inl (plka, 100, .inl plA)), (h0, .inr (6, [.ref tp, .int ts, .int fn, .int fp, .ref rd, .ref gd, .ref im, .ref rw, .ref gn, .ref ho, .ref sq])), (gd, .inr (0, [.ref pl, .int gdl, .long gdh, .long gdw, .int gdi, .int gde, .int gdc, .ref gdt, .int gdg, .ref gdu, .int gdn, .ref gdx])), (pl, .inr (3, [.int plw, .int pld, .int plc, .int pls, .long plm, .ref plf, .ref plo, .ref plb, .ref pla]))] := hD
  rcases i_bool hw_2 with ⟨r_19, hC⟩ | ⟨r_19, hC⟩
  · obtain rfl : r_1 = 1 := r_19
    have hC_3 := hC
    refine lv_if_eq (tgt := 17) hx hb dX6_side_5 (by decide) (fun h => absurd h (by decide)) (fun _ => ?_)
    refine lv_iload_n hx hb dX6_side_8 rfl (lv_at hl 2 rfl) ?_
    refine lv_if_lt (tgt := 17) hx hb dX6_side_9 (by decide) (fun c_5 => ?_) (fun c_5 => ?_)
    · have c_5 : p1.toInt < 0 := i_lt (a := p1) (b := 0) rfl (by decide) c_5
      refine lv_bipush (v := -2) hx hb dX6_side_17 (by decide) ?_
      have hP9 := hP.sub (ws' := [(h0, .inr (6, [.ref tp, .int ts, .int fn, .int fp, .ref rd, .ref gd, .ref im, .ref rw, .ref gn, .ref ho, .ref sq])), (gd, .inr (0, [.ref pl, .int gdl, .long gdh, .long gdw, .int gdi, .int gde, .int gdc, .ref gdt, .int gdg, .ref gdu, .int gdn, .ref gdx])), (pl, .inr (3, [.int plw, .int pld, .int plc, .int pls, .long plm, .ref plf, .ref plo, .ref plb, .ref pla])), (pla, .inl (plka, 100, .inl plA))]) [1, 2, 3, 0] rfl
      have hD9 := hD.sub (ws' := [(h0, .inr (6, [.ref tp, .int ts, .int fn, .int fp, .ref rd, .ref gd, .ref im, .ref rw, .ref gn, .ref ho, .ref sq])), (gd, .inr (0, [.ref pl, .int gdl, .long gdh, .long gdw, .int gdi, .int gde, .int gdc, .ref gdt, .int gdg, .ref gdu, .int gdn, .ref gdx])), (pl, .inr (3, [.int plw, .int pld, .int plc, .int pls, .long plm, .ref plf, .ref plo, .ref plb, .ref pla])), (pla, .inl (plka, 100, .inl plA))]) [1, 2, 3, 0] (by decide) rfl
      have hK9 := hK.sub (tys' := []) [] rfl
      refine W.widen (k := 0) (n := 0) (by omega) (by omega) ?_
      exact W.iret (v := -2) hx hb hr (fun t ht hW => ⟨⟨(-2), (), rfl, trivial, by rw [ht]; exact hP9, va_K.moved hW.alike hK9, hD9⟩, hS.F ht⟩) hS.2.2 dX6_side_19
    · have c_5 : 0 ≤ p1.toInt := i_nlt (a := p1) (b := 0) rfl (by decide) c_5
      refine lv_iload_n hx hb dX6_side_12 rfl (lv_at hl 2 rfl) ?_
      refine lv_iconst (v := 4) hx hb dX6_side_13 (by decide) ?_
      refine lv_icmp_lt (tgt := 20) hx hb dX6_side_14 (by decide) (fun c_6 => ?_) (fun c_6 => ?_)
      · have c_6 : p1.toInt < 4 := i_lt (a := p1) (b := 4) rfl (by decide) c_6
        refine lv_aload_n hx hb dX6_side_20 rfl (lv_at hl 0 rfl) ?_
        refine va_get (D := (dC, dI)) (ci := 6) (v := .ref gd) (C := RX6) (T := TX6) (N := 11) hx hb hts in_X6_side_X6 hown hK hP 1 rfl rfl 5 (by decide) (hts _ wd_X6_side_0) (fun _ h9 => h9) rfl dX6_side_21 ?_
        refine va_get (D := (dC, dI)) (ci := 0) (v := .ref pl) (C := RX0) (T := TX0) (N := 12) hx hb hts in_X6_side_X0 hown hK hP 2 rfl rfl 0 (by decide) (hts _ wd_X6_side_1) (fun _ h9 => h9) rfl dX6_side_24 ?_
        refine lv_iload_n hx hb dX6_side_27 rfl (lv_at hl 1 rfl) ?_
        refine lv_iload_n hx hb dX6_side_28 rfl (lv_at hl 2 rfl) ?_
        have hPc := hP.sub (ws' := [(pl, .inr (3, [.int plw, .int pld, .int plc, .int pls, .long plm, .ref plf, .ref plo, .ref plb, .ref pla])), (pla, .inl (plka, 100, .inl plA))]) [3, 0] rfl
        have hDc := hD.sub (ws' := [(pl, .inr (3, [.int plw, .int pld, .int plc, .int pls, .long plm, .ref plf, .ref plo, .ref plb, .ref pla])), (pla, .inl (plka, 100, .inl plA))]) [3, 0] (by decide) rfl
        have hKc := hK.sub (tys' := [(plka, .int)]) [0] rfl
        have hFc := va_free (wc := [(pl, .inr (3, [.int plw, .int pld, .int plc, .int pls, .long plm, .ref plf, .ref plo, .ref plb, .ref pla])), (pla, .inl (plka, 100, .inl plA))]) hD hS hA [3, 0] rfl
        refine va_calli (va_runV (As := [.int p0, .int p1]) (rest := []) ⟨hx, hb, hml, hown, hts⟩ (c_X3_sideAt l dC dI H.size pl plw pld plc pls plm plf plo plb pla plka plA p0 p1 ) (cwV 2 hts g_X6_side_X3_sideAt rfl rfl rfl (by decide +kernel) ⟨Nat.le_of_ble_eq_true rfl, Nat.le_of_ble_eq_true rfl⟩) ⟨fun a U g mk q => by obtain ⟨q0, q1, qP, qK, qD⟩ := q; exact ⟨q0, q1, qP, va_K.moved (u := U) (U := U.calling g mk a) (Vm.Alike.refl U.vm) qK, qD⟩, va_recv hKc hPc (ci := 3) (q0 := 0) rfl rfl, fun U hU hW => ⟨rfl, by rw [hU], by rw [hU]; exact hPc, va_K.moved hW.alike hKc, hDc.weaken (fun _ _ _ _ => trivial)⟩⟩ rfl rfl hl.1 rfl (lv_room (Nat.le_of_ble_eq_true rfl)) dX6_side_29 ⟨Nat.le_of_ble_eq_true rfl, Nat.le_of_ble_eq_true rfl⟩) hS (fun q _ h => hFc q h) hFc (fun r_7 u t H1 locs ht hvm hw_8 hB hz1 hk1 hS => ?_)
        obtain ⟨hP1, hK1, hD1⟩ := hB
        have hP1 : va_P (dC, dI) vwCl [(pl, .inr (3, [.int plw, .int pld, .int plc, .int pls, .long plm, .ref plf, .ref plo, .ref plb, .ref pla])), (pla, .inl (plka, 100, .inl plA))] t.heap := hP1
        rw [ht] at hP1
        try dsimp only at hw_8
        obtain ⟨hP, hD⟩ := va_join (wr := [(h0, .inr (6, [.ref tp, .int ts, .int fn, .int fp, .ref rd, .ref gd, .ref im, .ref rw, .ref gn, .ref ho, .ref sq])), (gd, .inr (0, [.ref pl, .int gdl, .long gdh, .long gdw, .int gdi, .int gde, .int gdc, .ref gdt, .int gdg, .ref gdu, .int gdn, .ref gdx]))]) (w1 := [(pl, .inr (3, [.int plw, .int pld, .int plc, .int pls, .long plm, .ref plf, .ref plo, .ref plb, .ref pla])), (pla, .inl (plka, 100, .inl plA))]) hP hD [3, 0] [1, 2] rfl rfl (by decide) (by decide) hk1 hFc hP1 hD1
        generalize H1 = H at hP hS ⊢
        have hP : va_P (dC, dI) vwCl [(h0, .inr (6, [.ref tp, .int ts, .int fn, .int fp, .ref rd, .ref gd, .ref im, .ref rw, .ref gn, .ref ho, .ref sq])), (gd, .inr (0, [.ref pl, .int gdl, .long gdh, .long gdw, .int gdi, .int gde, .int gdc, .ref gdt, .int gdg, .ref gdu, .int gdn, .ref gdx])), (pl, .inr (3, [.int plw, .int pld, .int plc, .int pls, .long plm, .ref plf, .ref plo, .ref plb, .ref pla])), (pla, .inl (plka, 100, .inl plA))] H := hP
        have hD : va_D A [(h0, .inr (6, [.ref tp, .int ts, .int fn, .int fp, .ref rd, .ref gd, .ref im, .ref rw, .ref gn, .ref ho, .ref sq])), (gd, .inr (0, [.ref pl, .int gdl, .long gdh, .long gdw, .int gdi, .int gde, .int gdc, .ref gdt, .int gdg, .ref gdu, .int gdn, .ref gdx])), (pl, .inr (3, [.int plw, .int pld, .int plc, .int pls, .long plm, .ref plf, .ref plo, .ref plb, .ref pla])), (pla, .inl (plka, 100, .inl plA))] := hD
        have hP9 := hP.sub (ws' := [(h0, .inr (6, [.ref tp, .int ts, .int fn, .int fp, .ref rd, .ref gd, .ref im, .ref rw, .ref gn, .ref ho, .ref sq])), (gd, .inr (0, [.ref pl, .int gdl, .long gdh, .long gdw, .int gdi, .int gde, .int gdc, .ref gdt, .int gdg, .ref gdu, .int gdn, .ref gdx])), (pl, .inr (3, [.int plw, .int pld, .int plc, .int pls, .long plm, .ref plf, .ref plo, .ref plb, .ref pla])), (pla, .inl (plka, 100, .inl plA))]) [0, 1, 2, 3] rfl
        have hD9 := hD.sub (ws' := [(h0, .inr (6, [.ref tp, .int ts, .int fn, .int fp, .ref rd, .ref gd, .ref im, .ref rw, .ref gn, .ref ho, .ref sq])), (gd, .inr (0, [.ref pl, .int gdl, .long gdh, .long gdw, .int gdi, .int gde, .int gdc, .ref gdt, .int gdg, .ref gdu, .int gdn, .ref gdx])), (pl, .inr (3, [.int plw, .int pld, .int plc, .int pls, .long plm, .ref plf, .ref plo, .ref plb, .ref pla])), (pla, .inl (plka, 100, .inl plA))]) [0, 1, 2, 3] (by decide) rfl
        have hK9 := hK.sub (tys' := []) [] rfl
        refine W.widen (k := 0) (n := 0) (by omega) (by omega) ?_
        exact W.iret (v := r_7) hx hb hr (fun t ht hW => ⟨⟨r_7, (), rfl, trivial, by rw [ht]; exact hP9, va_K.moved hW.alike hK9, hD9⟩, hS.F ht⟩) hS.2.2 dX6_side_32
      · have c_6 : 4 ≤ p1.toInt := i_nlt (a := p1) (b := 4) rfl (by decide) c_6
        refine lv_bipush (v := -2) hx hb dX6_side_17 (by decide) ?_
        have hP9 := hP.sub (ws' := [(h0, .inr (6, [.ref tp, .int ts, .int fn, .int fp, .ref rd, .ref gd, .ref im, .ref rw, .ref gn, .ref ho, .ref sq])), (gd, .inr (0, [.ref pl, .int gdl, .long gdh, .long gdw, .int gdi, .int gde, .int gdc, .ref gdt, .int gdg, .ref gdu, .int gdn, .ref gdx])), (pl, .inr (3, [.int plw, .int pld, .int plc, .int pls, .long plm, .ref plf, .ref plo, .ref plb, .ref pla])), (pla, .inl (plka, 100, .inl plA))]) [1, 2, 3, 0] rfl
        have hD9 := hD.sub (ws' := [(h0, .inr (6, [.ref tp, .int ts, .int fn, .int fp, .ref rd, .ref gd, .ref im, .ref rw, .ref gn, .ref ho, .ref sq])), (gd, .inr (0, [.ref pl, .int gdl, .long gdh, .long gdw, .int gdi, .int gde, .int gdc, .ref gdt, .int gdg, .ref gdu, .int gdn, .ref gdx])), (pl, .inr (3, [.int plw, .int pld, .int plc, .int pls, .long plm, .ref plf, .ref plo, .ref plb, .ref pla])), (pla, .inl (plka, 100, .inl plA))]) [1, 2, 3, 0] (by decide) rfl
        have hK9 := hK.sub (tys' := []) [] rfl
        refine W.widen (k := 0) (n := 0) (by omega) (by omega) ?_
        exact W.iret (v := -2) hx hb hr (fun t ht hW => ⟨⟨(-2), (), rfl, trivial, by rw [ht]; exact hP9, va_K.moved hW.alike hK9, hD9⟩, hS.F ht⟩) hS.2.2 dX6_side_19
  · obtain rfl : r_1 = 0 := r_19
    have hC_9 := hC
    refine lv_if_eq (tgt := 17) hx hb dX6_side_5 (by decide) (fun _ => ?_) (fun h => absurd (by decide) h)
    refine lv_bipush (v := -2) hx hb dX6_side_17 (by decide) ?_
    have hP9 := hP.sub (ws' := [(h0, .inr (6, [.ref tp, .int ts, .int fn, .int fp, .ref rd, .ref gd, .ref im, .ref rw, .ref gn, .ref ho, .ref sq])), (gd, .inr (0, [.ref pl, .int gdl, .long gdh, .long gdw, .int gdi, .int gde, .int gdc, .ref gdt, .int gdg, .ref gdu, .int gdn, .ref gdx])), (pl, .inr (3, [.int plw, .int pld, .int plc, .int pls, .long plm, .ref plf, .ref plo, .ref plb, .ref pla])), (pla, .inl (plka, 100, .inl plA))]) [1, 2, 3, 0] rfl
    have hD9 := hD.sub (ws' := [(h0, .inr (6, [.ref tp, .int ts, .int fn, .int fp, .ref rd, .ref gd, .ref im, .ref rw, .ref gn, .ref ho, .ref sq])), (gd, .inr (0, [.ref pl, .int gdl, .long gdh, .long gdw, .int gdi, .int gde, .int gdc, .ref gdt, .int gdg, .ref gdu, .int gdn, .ref gdx])), (pl, .inr (3, [.int plw, .int pld, .int plc, .int pls, .long plm, .ref plf, .ref plo, .ref plb, .ref pla])), (pla, .inl (plka, 100, .inl plA))]) [1, 2, 3, 0] (by decide) rfl
    have hK9 := hK.sub (tys' := []) [] rfl
    refine W.widen (k := 0) (n := 0) (by omega) (by omega) ?_
    exact W.iret (v := -2) hx hb hr (fun t ht hW => ⟨⟨(-2), (), rfl, trivial, by rw [ht]; exact hP9, va_K.moved hW.alike hK9, hD9⟩, hS.F ht⟩) hS.2.2 dX6_side_19

theorem dX6_what_0 : decode cX6_what 0 = .ok (.aload_n 0, 1) := by decide +kernel
theorem dX6_what_1 : decode cX6_what 1 = .ok (.iload_n 1, 1) := by decide +kernel
theorem dX6_what_2 : decode cX6_what 2 = .ok (.i2l, 1) := by decide +kernel
theorem dX6_what_3 : decode cX6_what 3 = .ok (.invokevirtual 107, 3) := by decide +kernel
theorem dX6_what_6 : decode cX6_what 6 = .ok (.ifCond .eq 12, 3) := by decide +kernel
theorem dX6_what_9 : decode cX6_what 9 = .ok (.iload_n 2, 1) := by decide +kernel
theorem dX6_what_10 : decode cX6_what 10 = .ok (.ifCond .lt 8, 3) := by decide +kernel
theorem dX6_what_13 : decode cX6_what 13 = .ok (.iload_n 2, 1) := by decide +kernel
theorem dX6_what_14 : decode cX6_what 14 = .ok (.iconst 2, 1) := by decide +kernel
theorem dX6_what_15 : decode cX6_what 15 = .ok (.if_icmp .le 6, 3) := by decide +kernel
theorem dX6_what_18 : decode cX6_what 18 = .ok (.bipush (-2), 2) := by decide +kernel
theorem dX6_what_20 : decode cX6_what 20 = .ok (.ireturn, 1) := by decide +kernel
theorem dX6_what_21 : decode cX6_what 21 = .ok (.aload_n 0, 1) := by decide +kernel
theorem dX6_what_22 : decode cX6_what 22 = .ok (.getfield 33, 3) := by decide +kernel
theorem dX6_what_25 : decode cX6_what 25 = .ok (.getfield 90, 3) := by decide +kernel
theorem dX6_what_28 : decode cX6_what 28 = .ok (.astore_n 3, 1) := by decide +kernel
theorem dX6_what_29 : decode cX6_what 29 = .ok (.iload_n 2, 1) := by decide +kernel
theorem dX6_what_30 : decode cX6_what 30 = .ok (.ifCond .ne 10, 3) := by decide +kernel
theorem dX6_what_33 : decode cX6_what 33 = .ok (.aload_n 3, 1) := by decide +kernel
theorem dX6_what_34 : decode cX6_what 34 = .ok (.getfield 111, 3) := by decide +kernel
theorem dX6_what_37 : decode cX6_what 37 = .ok (.iload_n 1, 1) := by decide +kernel
theorem dX6_what_38 : decode cX6_what 38 = .ok (.iaload, 1) := by decide +kernel
theorem dX6_what_39 : decode cX6_what 39 = .ok (.ireturn, 1) := by decide +kernel
theorem dX6_what_40 : decode cX6_what 40 = .ok (.iload_n 2, 1) := by decide +kernel
theorem dX6_what_41 : decode cX6_what 41 = .ok (.iconst 1, 1) := by decide +kernel
theorem dX6_what_42 : decode cX6_what 42 = .ok (.if_icmp .ne 10, 3) := by decide +kernel
theorem dX6_what_45 : decode cX6_what 45 = .ok (.aload_n 3, 1) := by decide +kernel
theorem dX6_what_46 : decode cX6_what 46 = .ok (.getfield 114, 3) := by decide +kernel
theorem dX6_what_49 : decode cX6_what 49 = .ok (.iload_n 1, 1) := by decide +kernel
theorem dX6_what_50 : decode cX6_what 50 = .ok (.iaload, 1) := by decide +kernel
theorem dX6_what_51 : decode cX6_what 51 = .ok (.ireturn, 1) := by decide +kernel
theorem dX6_what_52 : decode cX6_what 52 = .ok (.aload_n 3, 1) := by decide +kernel
theorem dX6_what_53 : decode cX6_what 53 = .ok (.aload_n 0, 1) := by decide +kernel
theorem dX6_what_54 : decode cX6_what 54 = .ok (.getfield 33, 3) := by decide +kernel
theorem dX6_what_57 : decode cX6_what 57 = .ok (.getfield 117, 3) := by decide +kernel
theorem dX6_what_60 : decode cX6_what 60 = .ok (.iload_n 1, 1) := by decide +kernel
theorem dX6_what_61 : decode cX6_what 61 = .ok (.invokevirtual 121, 3) := by decide +kernel
theorem dX6_what_64 : decode cX6_what 64 = .ok (.ifCond .eq 5, 3) := by decide +kernel
theorem dX6_what_67 : decode cX6_what 67 = .ok (.iconst 1, 1) := by decide +kernel
theorem dX6_what_68 : decode cX6_what 68 = .ok (.ireturn, 1) := by decide +kernel
theorem dX6_what_69 : decode cX6_what 69 = .ok (.aload_n 3, 1) := by decide +kernel
theorem dX6_what_70 : decode cX6_what 70 = .ok (.aload_n 0, 1) := by decide +kernel
theorem dX6_what_71 : decode cX6_what 71 = .ok (.getfield 33, 3) := by decide +kernel
theorem dX6_what_74 : decode cX6_what 74 = .ok (.getfield 125, 3) := by decide +kernel
theorem dX6_what_77 : decode cX6_what 77 = .ok (.iload_n 1, 1) := by decide +kernel
theorem dX6_what_78 : decode cX6_what 78 = .ok (.invokevirtual 121, 3) := by decide +kernel
theorem dX6_what_81 : decode cX6_what 81 = .ok (.ifCond .eq 7, 3) := by decide +kernel
theorem dX6_what_84 : decode cX6_what 84 = .ok (.iconst 2, 1) := by decide +kernel
theorem dX6_what_85 : decode cX6_what 85 = .ok (.goto 4, 3) := by decide +kernel
theorem dX6_what_88 : decode cX6_what 88 = .ok (.iconst 0, 1) := by decide +kernel
theorem dX6_what_89 : decode cX6_what 89 = .ok (.ireturn, 1) := by decide +kernel
def wz_X6_what : List Cond := .code yX6_what cX6_what 4 (some .int) :: ([Cond.fieldLink RX6 33 "HedgeMaze" "garden" "LHedgeMaze$Garden;", Cond.fieldLink RX6 90 "HedgeMaze$Garden" "plan" "LHedgeMaze$Plan;", Cond.fieldLink RX6 117 "HedgeMaze$Garden" "hedges" "J", Cond.fieldLink RX6 125 "HedgeMaze$Garden" "walls" "J", Cond.fieldLink RX6 114 "HedgeMaze$Plan" "other" "[I", Cond.fieldLink RX6 111 "HedgeMaze$Plan" "first" "[I", Cond.methodLink RX6 107 yX6_isSide, Cond.instanceMethod yX6_isSide, Cond.selects RX6 yX6_isSide yX6_isSide, Cond.initialized RX6, Cond.code yX6_isSide cX6_isSide 3 (some .boolean), Cond.fieldLink RX6 94 "HedgeMaze$Plan" "sideCount" "I", Cond.methodLink RX6 121 yX3_has, Cond.instanceMethod yX3_has, Cond.selects RX3 yX3_has yX3_has, Cond.initialized RX3, Cond.code yX3_has cX3_has 4 (some .boolean), Cond.methodLink RX3 58 yX3_bitOf, Cond.instanceMethod yX3_bitOf, Cond.selects RX3 yX3_bitOf yX3_bitOf, Cond.code yX3_bitOf cX3_bitOf 3 (some .long), Cond.fieldLink RX3 21 "HedgeMaze$Plan" "sideCount" "I", Cond.fieldLink RX3 35 "HedgeMaze$Plan" "bits" "[J"] ++ wsX60 ++ wsX00 ++ wsX30)
theorem wd_X6_what_0 : Cond.fieldLink RX6 33 "HedgeMaze" "garden" "LHedgeMaze$Garden;" ∈ wz_X6_what := List.mem_of_getElem? (i := 1) rfl
theorem wd_X6_what_1 : Cond.fieldLink RX6 90 "HedgeMaze$Garden" "plan" "LHedgeMaze$Plan;" ∈ wz_X6_what := List.mem_of_getElem? (i := 2) rfl
theorem wd_X6_what_2 : Cond.fieldLink RX6 117 "HedgeMaze$Garden" "hedges" "J" ∈ wz_X6_what := List.mem_of_getElem? (i := 3) rfl
theorem wd_X6_what_3 : Cond.fieldLink RX6 125 "HedgeMaze$Garden" "walls" "J" ∈ wz_X6_what := List.mem_of_getElem? (i := 4) rfl
theorem wd_X6_what_4 : Cond.fieldLink RX6 114 "HedgeMaze$Plan" "other" "[I" ∈ wz_X6_what := List.mem_of_getElem? (i := 5) rfl
theorem wd_X6_what_5 : Cond.fieldLink RX6 111 "HedgeMaze$Plan" "first" "[I" ∈ wz_X6_what := List.mem_of_getElem? (i := 6) rfl
theorem in_X6_what_X6 : ∀ w ∈ wsX60, w ∈ wz_X6_what := fun _ h => List.mem_cons_of_mem _ (List.mem_append_left _ (List.mem_append_left _ (List.mem_append_right _ h)))
theorem in_X6_what_X0 : ∀ w ∈ wsX00, w ∈ wz_X6_what := fun _ h => List.mem_cons_of_mem _ (List.mem_append_left _ (List.mem_append_right _ h))
theorem in_X6_what_X3 : ∀ w ∈ wsX30, w ∈ wz_X6_what := fun _ h => List.mem_cons_of_mem _ (List.mem_append_right _ h)
set_option maxRecDepth 20000 in
theorem g_X6_what_X6_isSide : GoodIn wz_X6_what (wsV RX6 107 RX6 yX6_isSide wz_X6_isSide) := goodIn_r _ [7, 8, 9, 10, 11, 1, 2, 12, 24, 25, 26, 27, 28, 29, 30, 31, 32, 33, 34, 35, 36, 37, 38, 39, 40, 41, 42, 43, 44, 45, 46, 47, 48, 49, 50, 51, 52, 53, 54, 55] rfl (by decide +kernel)
set_option maxRecDepth 20000 in
theorem g_X6_what_X3_has : GoodIn wz_X6_what (wsV RX6 121 RX3 yX3_has wz_X3_has) := goodIn_r _ [13, 14, 15, 16, 17, 18, 19, 20, 16, 21, 22, 23, 47, 48, 49, 50, 51, 52, 53, 54, 55] rfl (by decide +kernel)
set_option maxHeartbeats 4000000 in
set_option maxRecDepth 100000 in
theorem c_X6_what (l : Launch) (dC : Nat → ClassId) (dI : Nat → Nat → Nat) (sz : Nat) (h0 : Nat) (tp : Nat) (ts : Int32) (fn : Int32) (fp : Int32) (rd : Nat) (gd : Nat) (im : Nat) (rw : Nat) (gn : Nat) (ho : Nat) (sq : Nat) (gdl : Int32) (gdh : Int64) (gdw : Int64) (gdi : Int32) (gde : Int32) (gdc : Int32) (gdt : Nat) (gdg : Int32) (gdu : Nat) (gdn : Int32) (gdx : Nat) (pl : Nat) (plw : Int32) (pld : Int32) (plc : Int32) (pls : Int32) (plm : Int64) (plf : Nat) (plo : Nat) (plb : Nat) (pla : Nat) (plkf : ClassId) (plF : Nat → Int32) (plko : ClassId) (plO : Nat → Int32) (plkb : ClassId) (plB : Nat → Int64) (p0 : Int32) (p1 : Int32) (h_pls : 0 ≤ pls.toInt ∧ pls.toInt ≤ 40) (hR_plf : RG plF 40 0 24) (hR_plo : RG plO 40 0 24) : Met l yX6_what wz_X6_what ({ frames := 2, cells := 0, slots := 0, locals := 45 }) (va_Pc [.ref h0, .int p0, .int p1] (fun U => U.heap.size = sz ∧ va_P (dC, dI) vwCl [(h0, .inr (6, [.ref tp, .int ts, .int fn, .int fp, .ref rd, .ref gd, .ref im, .ref rw, .ref gn, .ref ho, .ref sq])), (gd, .inr (0, [.ref pl, .int gdl, .long gdh, .long gdw, .int gdi, .int gde, .int gdc, .ref gdt, .int gdg, .ref gdu, .int gdn, .ref gdx])), (pl, .inr (3, [.int plw, .int pld, .int plc, .int pls, .long plm, .ref plf, .ref plo, .ref plb, .ref pla])), (plf, .inl (plkf, 40, .inl plF)), (plo, .inl (plko, 40, .inl plO)), (plb, .inl (plkb, 40, .inr (.inl plB)))] U.heap ∧ va_K (dC, dI) vwCl [(plkf, .int), (plko, .int), (plkb, .long)] U ∧ va_D (fun _ => True) [(h0, .inr (6, [.ref tp, .int ts, .int fn, .int fp, .ref rd, .ref gd, .ref im, .ref rw, .ref gn, .ref ho, .ref sq])), (gd, .inr (0, [.ref pl, .int gdl, .long gdh, .long gdw, .int gdi, .int gde, .int gdc, .ref gdt, .int gdg, .ref gdu, .int gdn, .ref gdx])), (pl, .inr (3, [.int plw, .int pld, .int plc, .int pls, .long plm, .ref plf, .ref plo, .ref plb, .ref pla])), (plf, .inl (plkf, 40, .inl plF)), (plo, .inl (plko, 40, .inl plO)), (plb, .inl (plkb, 40, .inr (.inl plB)))])) (va_Qi (fun (r : Int32) (u : Unit) => True) (fun (u : Unit) (t : State) => va_P (dC, dI) vwCl [(h0, .inr (6, [.ref tp, .int ts, .int fn, .int fp, .ref rd, .ref gd, .ref im, .ref rw, .ref gn, .ref ho, .ref sq])), (gd, .inr (0, [.ref pl, .int gdl, .long gdh, .long gdw, .int gdi, .int gde, .int gdc, .ref gdt, .int gdg, .ref gdu, .int gdn, .ref gdx])), (pl, .inr (3, [.int plw, .int pld, .int plc, .int pls, .long plm, .ref plf, .ref plo, .ref plb, .ref pla])), (plf, .inl (plkf, 40, .inl plF)), (plo, .inl (plko, 40, .inl plO)), (plb, .inl (plkb, 40, .inr (.inl plB)))] t.heap ∧ va_K (dC, dI) vwCl [] t ∧ va_D (va_A [(h0, .inr (6, [.ref tp, .int ts, .int fn, .int fp, .ref rd, .ref gd, .ref im, .ref rw, .ref gn, .ref ho, .ref sq])), (gd, .inr (0, [.ref pl, .int gdl, .long gdh, .long gdw, .int gdi, .int gde, .int gdc, .ref gdt, .int gdg, .ref gdu, .int gdn, .ref gdx])), (pl, .inr (3, [.int plw, .int pld, .int plc, .int pls, .long plm, .ref plf, .ref plo, .ref plb, .ref pla])), (plf, .inl (plkf, 40, .inl plF)), (plo, .inl (plko, 40, .inl plO)), (plb, .inl (plkb, 40, .inr (.inl plB)))] sz) [(h0, .inr (6, [.ref tp, .int ts, .int fn, .int fp, .ref rd, .ref gd, .ref im, .ref rw, .ref gn, .ref ho, .ref sq])), (gd, .inr (0, [.ref pl, .int gdl, .long gdh, .long gdw, .int gdi, .int gde, .int gdc, .ref gdt, .int gdg, .ref gdu, .int gdn, .ref gdx])), (pl, .inr (3, [.int plw, .int pld, .int plc, .int pls, .long plm, .ref plf, .ref plo, .ref plb, .ref pla])), (plf, .inl (plkf, 40, .inl plF)), (plo, .inl (plko, 40, .inl plO)), (plb, .inl (plkb, 40, .inr (.inl plB)))]) (va_A [(h0, .inr (6, [.ref tp, .int ts, .int fn, .int fp, .ref rd, .ref gd, .ref im, .ref rw, .ref gn, .ref ho, .ref sq])), (gd, .inr (0, [.ref pl, .int gdl, .long gdh, .long gdw, .int gdi, .int gde, .int gdc, .ref gdt, .int gdg, .ref gdu, .int gdn, .ref gdx])), (pl, .inr (3, [.int plw, .int pld, .int plc, .int pls, .long plm, .ref plf, .ref plo, .ref plb, .ref pla])), (plf, .inl (plkf, 40, .inl plF)), (plo, .inl (plko, 40, .inl plO)), (plb, .inl (plkb, 40, .inr (.inl plB)))] sz)) 0 0 (va_A [(h0, .inr (6, [.ref tp, .int ts, .int fn, .int fp, .ref rd, .ref gd, .ref im, .ref rw, .ref gn, .ref ho, .ref sq])), (gd, .inr (0, [.ref pl, .int gdl, .long gdh, .long gdw, .int gdi, .int gde, .int gdc, .ref gdt, .int gdg, .ref gdu, .int gdn, .ref gdx])), (pl, .inr (3, [.int plw, .int pld, .int plc, .int pls, .long plm, .ref plf, .ref plo, .ref plb, .ref pla])), (plf, .inl (plkf, 40, .inl plF)), (plo, .inl (plko, 40, .inl plO)), (plb, .inl (plkb, 40, .inr (.inl plB)))] sz) := by
  refine Met.ofW (cc := cX6_what) (maxL := 4) (ret := (some .int)) (by decide) rfl ?_
  intro p e s m args below meth c s₁ B hml hv
  obtain ⟨rfl, hsz, hP, hK, hD0⟩ := hv
  have hx := B.exec
  have hb := B.bytes
  have hr := B.returns
  have hts := atoms_spec (ws := wz_X6_what) B.pre
  have hown : s.vm.findClass RX6 = some m.cls := findClass_of_methodNamed B.named
  have hlocks := B.notSynchronized
  subst hsz
  have hD := hD0.self (sz := s.heap.size)
  generalize hAe : va_A [(h0, .inr (6, [.ref tp, .int ts, .int fn, .int fp, .ref rd, .ref gd, .ref im, .ref rw, .ref gn, .ref ho, .ref sq])), (gd, .inr (0, [.ref pl, .int gdl, .long gdh, .long gdw, .int gdi, .int gde, .int gdc, .ref gdt, .int gdg, .ref gdu, .int gdn, .ref gdx])), (pl, .inr (3, [.int plw, .int pld, .int plc, .int pls, .long plm, .ref plf, .ref plo, .ref plb, .ref pla])), (plf, .inl (plkf, 40, .inl plF)), (plo, .inl (plko, 40, .inl plO)), (plb, .inl (plkb, 40, .inr (.inl plB)))] s.heap.size = A at hD ⊢
  have hA : ∀ q : Nat, s.heap.size ≤ q → A q := fun q h => by rw [← hAe]; exact Or.inr h
  have hS : va_S A s.heap s.heap [] := va_S.rf
  have hP : va_P (dC, dI) vwCl [(h0, .inr (6, [.ref tp, .int ts, .int fn, .int fp, .ref rd, .ref gd, .ref im, .ref rw, .ref gn, .ref ho, .ref sq])), (gd, .inr (0, [.ref pl, .int gdl, .long gdh, .long gdw, .int gdi, .int gde, .int gdc, .ref gdt, .int gdg, .ref gdu, .int gdn, .ref gdx])), (pl, .inr (3, [.int plw, .int pld, .int plc, .int pls, .long plm, .ref plf, .ref plo, .ref plb, .ref pla])), (plf, .inl (plkf, 40, .inl plF)), (plo, .inl (plko, 40, .inl plO)), (plb, .inl (plkb, 40, .inr (.inl plB)))] s.heap := hP
  have hl := lv_entry ([.ref h0, .int p0, .int p1]) (n := 4) (Nat.le_of_ble_eq_true rfl)
  rw [lg_entry_eq]
  generalize (lg_sl ([.ref h0, .int p0, .int p1]) ++ List.replicate (4 - (lg_sl ([.ref h0, .int p0, .int p1])).length) Slot.unset).toArray = ls at hl ⊢
  have hl : lv_has ls 4 [(0, .ref h0), (1, .int p0), (2, .int p1)] := hl
  refine lv_aload_n hx hb dX6_what_0 rfl (lv_at hl 0 rfl) ?_
  refine lv_iload_n hx hb dX6_what_1 rfl (lv_at hl 1 rfl) ?_
  refine lv_i2l (v := p0.toInt64) hx hb dX6_what_2 rfl ?_
  have hPc := hP.sub (ws' := [(h0, .inr (6, [.ref tp, .int ts, .int fn, .int fp, .ref rd, .ref gd, .ref im, .ref rw, .ref gn, .ref ho, .ref sq])), (gd, .inr (0, [.ref pl, .int gdl, .long gdh, .long gdw, .int gdi, .int gde, .int gdc, .ref gdt, .int gdg, .ref gdu, .int gdn, .ref gdx])), (pl, .inr (3, [.int plw, .int pld, .int plc, .int pls, .long plm, .ref plf, .ref plo, .ref plb, .ref pla]))]) [0, 1, 2] rfl
  have hDc := hD.sub (ws' := [(h0, .inr (6, [.ref tp, .int ts, .int fn, .int fp, .ref rd, .ref gd, .ref im, .ref rw, .ref gn, .ref ho, .ref sq])), (gd, .inr (0, [.ref pl, .int gdl, .long gdh, .long gdw, .int gdi, .int gde, .int gdc, .ref gdt, .int gdg, .ref gdu, .int gdn, .ref gdx])), (pl, .inr (3, [.int plw, .int pld, .int plc, .int pls, .long plm, .ref plf, .ref plo, .ref plb, .ref pla]))]) [0, 1, 2] (by decide) rfl
  have hKc := hK.sub (tys' := []) [] rfl
  have hFc := va_free (wc := [(h0, .inr (6, [.ref tp, .int ts, .int fn, .int fp, .ref rd, .ref gd, .ref im, .ref rw, .ref gn, .ref ho, .ref sq])), (gd, .inr (0, [.ref pl, .int gdl, .long gdh, .long gdw, .int gdi, .int gde, .int gdc, .ref gdt, .int gdg, .ref gdu, .int gdn, .ref gdx])), (pl, .inr (3, [.int plw, .int pld, .int plc, .int pls, .long plm, .ref plf, .ref plo, .ref plb, .ref pla]))]) hD hS hA [0, 1, 2] rfl
  refine va_calli (va_runV (As := [.long p0.toInt64]) (rest := []) ⟨hx, hb, hml, hown, hts⟩ (c_X6_isSide l dC dI s.heap.size h0 tp ts fn fp rd gd im rw gn ho sq gdl gdh gdw gdi gde gdc gdt gdg gdu gdn gdx pl plw pld plc pls plm plf plo plb pla p0.toInt64 p0.toInt ((i_wide rfl))) (cwV 1 hts g_X6_what_X6_isSide rfl rfl rfl (by decide +kernel) ⟨Nat.le_of_ble_eq_true rfl, Nat.le_of_ble_eq_true rfl⟩) ⟨fun a U g mk q => by obtain ⟨q0, q1, qP, qK, qD⟩ := q; exact ⟨q0, q1, qP, va_K.moved (u := U) (U := U.calling g mk a) (Vm.Alike.refl U.vm) qK, qD⟩, va_recv hKc hPc (ci := 6) (q0 := 0) rfl rfl, fun U hU hW => ⟨rfl, by rw [hU], by rw [hU]; exact hPc, va_K.moved hW.alike hKc, hDc.weaken (fun _ _ _ _ => trivial)⟩⟩ rfl rfl hl.1 rfl (lv_room (Nat.le_of_ble_eq_true rfl)) dX6_what_3 ⟨Nat.le_of_ble_eq_true rfl, Nat.le_of_ble_eq_true rfl⟩) hS (fun q _ h => hFc q h) hFc (fun r_1 u t H1 locs ht hvm hw_2 hB hz1 hk1 hS => ?_)
  obtain ⟨hP1, hK1, hD1⟩ := hB
  have hP1 : va_P (dC, dI) vwCl [(h0, .inr (6, [.ref tp, .int ts, .int fn, .int fp, .ref rd, .ref gd, .ref im, .ref rw, .ref gn, .ref ho, .ref sq])), (gd, .inr (0, [.ref pl, .int gdl, .long gdh, .long gdw, .int gdi, .int gde, .int gdc, .ref gdt, .int gdg, .ref gdu, .int gdn, .ref gdx])), (pl, .inr (3, [.int plw, .int pld, .int plc, .int pls, .long plm, .ref plf, .ref plo, .ref plb, .ref pla]))] t.heap := hP1
  rw [ht] at hP1
  try dsimp only at hw_2
  obtain ⟨hP, hD⟩ := va_join (wr := [(plf, .inl (plkf, 40, .inl plF)), (plo, .inl (plko, 40, .inl plO)), (plb, .inl (plkb, 40, .inr (.inl plB)))]) (w1 := [(h0, .inr (6, [.ref tp, .int ts, .int fn, .int fp, .ref rd, .ref gd, .ref im, .ref rw, .ref gn, .ref ho, .ref sq])), (gd, .inr (0, [.ref pl, .int gdl, .long gdh, .long gdw, .int gdi, .int gde, .int gdc, .ref gdt, .int gdg, .ref gdu, .int gdn, .ref gdx])), (pl, .inr (3, [.int plw, .int pld, .int plc, .int pls, .long plm, .ref plf, .ref plo, .ref plb, .ref pla]))]) hP hD [0, 1, 2] [3, 4, 5] rfl rfl (by decide) (by decide) hk1 hFc hP1 hD1
  generalize H1 = H at hP hS ⊢
  have hP : va_P (dC, dI) vwCl [(plf, .inl (plkf, 40, .inl plF)), (plo, .inl (plko, 40, .inl plO)), (plb, .inl (plkb, 40, .inr (.inl plB))), (h0, .inr (6, [.ref tp, .int ts, .int fn, .int fp, .ref rd, .ref gd, .ref im, .ref rw, .ref gn, .ref ho, .ref sq])), (gd, .inr (0, [.ref pl, .int gdl, .long gdh, .long gdw, .int gdi, .int gde, .int gdc, .ref gdt, .int gdg, .ref gdu, .int gdn, .ref gdx])), (pl, .inr (3, [.int plw, .int pld, .int plc, .int pls, .long plm, .ref plf, .ref plo, .ref plb, .ref pla]))] H := hP
  have hD : va_D A [(plf, .inl (plkf, 40, .inl plF)), (plo, .inl (plko, 40, .inl plO)), (plb, .inl (plkb, 40, .inr (.inl plB))), (h0, .inr (6, [.ref tp, .int ts, .int fn, .int fp, .ref rd, .ref gd, .ref im, .ref rw, .ref gn, .ref ho, .ref sq])), (gd, .inr (0, [.ref pl, .int gdl, .long gdh, .long gdw, .int gdi, .int gde, .int gdc, .ref gdt, .int gdg, .ref gdu, .int gdn, .ref gdx])), (pl, .inr (3, [.int plw, .int pld, .int plc, .int pls, .long plm, .ref plf, .ref plo, .ref plb, .ref pla]))] := hD
  rcases i_bool hw_2 with ⟨r_19, hC⟩ | ⟨r_19, hC⟩
  · obtain rfl : r_1 = 1 := r_19
    have hC_3 := hC
    refine lv_if_eq (tgt := 18) hx hb dX6_what_6 (by decide) (fun h => absurd h (by decide)) (fun _ => ?_)
    refine lv_iload_n hx hb dX6_what_9 rfl (lv_at hl 2 rfl) ?_
    refine lv_if_lt (tgt := 18) hx hb dX6_what_10 (by decide) (fun c_5 => ?_) (fun c_5 => ?_)
    · have c_5 : p1.toInt < 0 := i_lt (a := p1) (b := 0) rfl (by decide) c_5
      refine lv_bipush (v := -2) hx hb dX6_what_18 (by decide) ?_
      have hP9 := hP.sub (ws' := [(h0, .inr (6, [.ref tp, .int ts, .int fn, .int fp, .ref rd, .ref gd, .ref im, .ref rw, .ref gn, .ref ho, .ref sq])), (gd, .inr (0, [.ref pl, .int gdl, .long gdh, .long gdw, .int gdi, .int gde, .int gdc, .ref gdt, .int gdg, .ref gdu, .int gdn, .ref gdx])), (pl, .inr (3, [.int plw, .int pld, .int plc, .int pls, .long plm, .ref plf, .ref plo, .ref plb, .ref pla])), (plf, .inl (plkf, 40, .inl plF)), (plo, .inl (plko, 40, .inl plO)), (plb, .inl (plkb, 40, .inr (.inl plB)))]) [3, 4, 5, 0, 1, 2] rfl
      have hD9 := hD.sub (ws' := [(h0, .inr (6, [.ref tp, .int ts, .int fn, .int fp, .ref rd, .ref gd, .ref im, .ref rw, .ref gn, .ref ho, .ref sq])), (gd, .inr (0, [.ref pl, .int gdl, .long gdh, .long gdw, .int gdi, .int gde, .int gdc, .ref gdt, .int gdg, .ref gdu, .int gdn, .ref gdx])), (pl, .inr (3, [.int plw, .int pld, .int plc, .int pls, .long plm, .ref plf, .ref plo, .ref plb, .ref pla])), (plf, .inl (plkf, 40, .inl plF)), (plo, .inl (plko, 40, .inl plO)), (plb, .inl (plkb, 40, .inr (.inl plB)))]) [3, 4, 5, 0, 1, 2] (by decide) rfl
      have hK9 := hK.sub (tys' := []) [] rfl
      refine W.widen (k := 0) (n := 0) (by omega) (by omega) ?_
      exact W.iret (v := -2) hx hb hr (fun t ht hW => ⟨⟨(-2), (), rfl, trivial, by rw [ht]; exact hP9, va_K.moved hW.alike hK9, hD9⟩, hS.F ht⟩) hS.2.2 dX6_what_20
    · have c_5 : 0 ≤ p1.toInt := i_nlt (a := p1) (b := 0) rfl (by decide) c_5
      refine lv_iload_n hx hb dX6_what_13 rfl (lv_at hl 2 rfl) ?_
      refine lv_iconst (v := 2) hx hb dX6_what_14 (by decide) ?_
      refine lv_icmp_le (tgt := 21) hx hb dX6_what_15 (by decide) (fun c_6 => ?_) (fun c_6 => ?_)
      · have c_6 : p1.toInt ≤ 2 := i_le (a := p1) (b := 2) rfl (by decide) c_6
        refine lv_aload_n hx hb dX6_what_21 rfl (lv_at hl 0 rfl) ?_
        refine va_get (D := (dC, dI)) (ci := 6) (v := .ref gd) (C := RX6) (T := TX6) (N := 11) hx hb hts in_X6_what_X6 hown hK hP 3 rfl rfl 5 (by decide) (hts _ wd_X6_what_0) (fun _ h9 => h9) rfl dX6_what_22 ?_
        refine va_get (D := (dC, dI)) (ci := 0) (v := .ref pl) (C := RX0) (T := TX0) (N := 12) hx hb hts in_X6_what_X0 hown hK hP 4 rfl rfl 0 (by decide) (hts _ wd_X6_what_1) (fun _ h9 => h9) rfl dX6_what_25 ?_
        refine lv_astore_n (lv' := [(3, .ref pl), (0, .ref h0), (1, .int p0), (2, .int p1)]) hx hb dX6_what_28 rfl hl (by decide) rfl (fun ls hl => ?_)
        refine lv_iload_n hx hb dX6_what_29 rfl (lv_at hl 3 rfl) ?_
        refine lv_if_ne (tgt := 40) hx hb dX6_what_30 (by decide) (fun c_7 => ?_) (fun c_7 => ?_)
        · have c_7 : p1.toInt ≠ 0 := i_ne (a := p1) (b := 0) rfl (by decide) c_7
          refine lv_iload_n hx hb dX6_what_40 rfl (lv_at hl 3 rfl) ?_
          refine lv_iconst (v := 1) hx hb dX6_what_41 (by decide) ?_
          refine lv_icmp_ne (tgt := 52) hx hb dX6_what_42 (by decide) (fun c_8 => ?_) (fun c_8 => ?_)
          · have c_8 : p1.toInt ≠ 1 := i_ne (a := p1) (b := 1) rfl (by decide) c_8
            refine lv_aload_n hx hb dX6_what_52 rfl (lv_at hl 0 rfl) ?_
            refine lv_aload_n hx hb dX6_what_53 rfl (lv_at hl 1 rfl) ?_
            refine va_get (D := (dC, dI)) (ci := 6) (v := .ref gd) (C := RX6) (T := TX6) (N := 11) hx hb hts in_X6_what_X6 hown hK hP 3 rfl rfl 5 (by decide) (hts _ wd_X6_what_0) (fun _ h9 => h9) rfl dX6_what_54 ?_
            refine va_get (D := (dC, dI)) (ci := 0) (v := .long gdh) (C := RX0) (T := TX0) (N := 12) hx hb hts in_X6_what_X0 hown hK hP 4 rfl rfl 2 (by decide) (hts _ wd_X6_what_2) (fun _ h9 => h9) rfl dX6_what_57 ?_
            refine lv_iload_n hx hb dX6_what_60 rfl (lv_at hl 2 rfl) ?_
            have hPc := hP.sub (ws' := [(pl, .inr (3, [.int plw, .int pld, .int plc, .int pls, .long plm, .ref plf, .ref plo, .ref plb, .ref pla])), (plb, .inl (plkb, 40, .inr (.inl plB)))]) [5, 2] rfl
            have hDc := hD.sub (ws' := [(pl, .inr (3, [.int plw, .int pld, .int plc, .int pls, .long plm, .ref plf, .ref plo, .ref plb, .ref pla])), (plb, .inl (plkb, 40, .inr (.inl plB)))]) [5, 2] (by decide) rfl
            have hKc := hK.sub (tys' := [(plkb, .long)]) [2] rfl
            have hFc := va_free (wc := [(pl, .inr (3, [.int plw, .int pld, .int plc, .int pls, .long plm, .ref plf, .ref plo, .ref plb, .ref pla])), (plb, .inl (plkb, 40, .inr (.inl plB)))]) hD hS hA [5, 2] rfl
            refine va_calli (va_runV (As := [.long gdh, .int p0]) (rest := []) ⟨hx, hb, hml, hown, hts⟩ (c_X3_has l dC dI H.size pl plw pld plc pls plm plf plo plb pla plkb plB gdh p0 (by omega)) (cwV 2 hts g_X6_what_X3_has rfl rfl rfl (by decide +kernel) ⟨Nat.le_of_ble_eq_true rfl, Nat.le_of_ble_eq_true rfl⟩) ⟨fun a U g mk q => by obtain ⟨q0, q1, qP, qK, qD⟩ := q; exact ⟨q0, q1, qP, va_K.moved (u := U) (U := U.calling g mk a) (Vm.Alike.refl U.vm) qK, qD⟩, va_recv hKc hPc (ci := 3) (q0 := 0) rfl rfl, fun U hU hW => ⟨rfl, by rw [hU], by rw [hU]; exact hPc, va_K.moved hW.alike hKc, hDc.weaken (fun _ _ _ _ => trivial)⟩⟩ rfl rfl hl.1 rfl (lv_room (Nat.le_of_ble_eq_true rfl)) dX6_what_61 ⟨Nat.le_of_ble_eq_true rfl, Nat.le_of_ble_eq_true rfl⟩) hS (fun q _ h => hFc q h) hFc (fun r_9 u t H1 locs ht hvm hw_10 hB hz1 hk1 hS => ?_)
            obtain ⟨hP1, hK1, hD1⟩ := hB
            have hP1 : va_P (dC, dI) vwCl [(pl, .inr (3, [.int plw, .int pld, .int plc, .int pls, .long plm, .ref plf, .ref plo, .ref plb, .ref pla])), (plb, .inl (plkb, 40, .inr (.inl plB)))] t.heap := hP1
            rw [ht] at hP1
            try dsimp only at hw_10
            obtain ⟨hP, hD⟩ := va_join (wr := [(plf, .inl (plkf, 40, .inl plF)), (plo, .inl (plko, 40, .inl plO)), (h0, .inr (6, [.ref tp, .int ts, .int fn, .int fp, .ref rd, .ref gd, .ref im, .ref rw, .ref gn, .ref ho, .ref sq])), (gd, .inr (0, [.ref pl, .int gdl, .long gdh, .long gdw, .int gdi, .int gde, .int gdc, .ref gdt, .int gdg, .ref gdu, .int gdn, .ref gdx]))]) (w1 := [(pl, .inr (3, [.int plw, .int pld, .int plc, .int pls, .long plm, .ref plf, .ref plo, .ref plb, .ref pla])), (plb, .inl (plkb, 40, .inr (.inl plB)))]) hP hD [5, 2] [0, 1, 3, 4] rfl rfl (by decide) (by decide) hk1 hFc hP1 hD1
            generalize H1 = H at hP hS ⊢
            have hP : va_P (dC, dI) vwCl [(plf, .inl (plkf, 40, .inl plF)), (plo, .inl (plko, 40, .inl plO)), (h0, .inr (6, [.ref tp, .int ts, .int fn, .int fp, .ref rd, .ref gd, .ref im, .ref rw, .ref gn, .ref ho, .ref sq])), (gd, .inr (0, [.ref pl, .int gdl, .long gdh, .long gdw, .int gdi, .int gde, .int gdc, .ref gdt, .int gdg, .ref gdu, .int gdn, .ref gdx])), (pl, .inr (3, [.int plw, .int pld, .int plc, .int pls, .long plm, .ref plf, .ref plo, .ref plb, .ref pla])), (plb, .inl (plkb, 40, .inr (.inl plB)))] H := hP
            have hD : va_D A [(plf, .inl (plkf, 40, .inl plF)), (plo, .inl (plko, 40, .inl plO)), (h0, .inr (6, [.ref tp, .int ts, .int fn, .int fp, .ref rd, .ref gd, .ref im, .ref rw, .ref gn, .ref ho, .ref sq])), (gd, .inr (0, [.ref pl, .int gdl, .long gdh, .long gdw, .int gdi, .int gde, .int gdc, .ref gdt, .int gdg, .ref gdu, .int gdn, .ref gdx])), (pl, .inr (3, [.int plw, .int pld, .int plc, .int pls, .long plm, .ref plf, .ref plo, .ref plb, .ref pla])), (plb, .inl (plkb, 40, .inr (.inl plB)))] := hD
            refine lv_if_eq (tgt := 69) hx hb dX6_what_64 (by decide) (fun c_11 => ?_) (fun c_11 => ?_)
            · have c_11 : r_9.toInt = 0 := i_eq (a := r_9) (b := 0) rfl (by decide) c_11
              refine lv_aload_n hx hb dX6_what_69 rfl (lv_at hl 0 rfl) ?_
              refine lv_aload_n hx hb dX6_what_70 rfl (lv_at hl 1 rfl) ?_
              refine va_get (D := (dC, dI)) (ci := 6) (v := .ref gd) (C := RX6) (T := TX6) (N := 11) hx hb hts in_X6_what_X6 hown hK hP 2 rfl rfl 5 (by decide) (hts _ wd_X6_what_0) (fun _ h9 => h9) rfl dX6_what_71 ?_
              refine va_get (D := (dC, dI)) (ci := 0) (v := .long gdw) (C := RX0) (T := TX0) (N := 12) hx hb hts in_X6_what_X0 hown hK hP 3 rfl rfl 3 (by decide) (hts _ wd_X6_what_3) (fun _ h9 => h9) rfl dX6_what_74 ?_
              refine lv_iload_n hx hb dX6_what_77 rfl (lv_at hl 2 rfl) ?_
              have hPc := hP.sub (ws' := [(pl, .inr (3, [.int plw, .int pld, .int plc, .int pls, .long plm, .ref plf, .ref plo, .ref plb, .ref pla])), (plb, .inl (plkb, 40, .inr (.inl plB)))]) [4, 5] rfl
              have hDc := hD.sub (ws' := [(pl, .inr (3, [.int plw, .int pld, .int plc, .int pls, .long plm, .ref plf, .ref plo, .ref plb, .ref pla])), (plb, .inl (plkb, 40, .inr (.inl plB)))]) [4, 5] (by decide) rfl
              have hKc := hK.sub (tys' := [(plkb, .long)]) [2] rfl
              have hFc := va_free (wc := [(pl, .inr (3, [.int plw, .int pld, .int plc, .int pls, .long plm, .ref plf, .ref plo, .ref plb, .ref pla])), (plb, .inl (plkb, 40, .inr (.inl plB)))]) hD hS hA [4, 5] rfl
              refine va_calli (va_runV (As := [.long gdw, .int p0]) (rest := []) ⟨hx, hb, hml, hown, hts⟩ (c_X3_has l dC dI H.size pl plw pld plc pls plm plf plo plb pla plkb plB gdw p0 (by omega)) (cwV 2 hts g_X6_what_X3_has rfl rfl rfl (by decide +kernel) ⟨Nat.le_of_ble_eq_true rfl, Nat.le_of_ble_eq_true rfl⟩) ⟨fun a U g mk q => by obtain ⟨q0, q1, qP, qK, qD⟩ := q; exact ⟨q0, q1, qP, va_K.moved (u := U) (U := U.calling g mk a) (Vm.Alike.refl U.vm) qK, qD⟩, va_recv hKc hPc (ci := 3) (q0 := 0) rfl rfl, fun U hU hW => ⟨rfl, by rw [hU], by rw [hU]; exact hPc, va_K.moved hW.alike hKc, hDc.weaken (fun _ _ _ _ => trivial)⟩⟩ rfl rfl hl.1 rfl (lv_room (Nat.le_of_ble_eq_true rfl)) dX6_what_78 ⟨Nat.le_of_ble_eq_true rfl, Nat.le_of_ble_eq_true rfl⟩) hS (fun q _ h => hFc q h) hFc (fun r_12 u t H1 locs ht hvm hw_13 hB hz1 hk1 hS => ?_)
              obtain ⟨hP1, hK1, hD1⟩ := hB
              have hP1 : va_P (dC, dI) vwCl [(pl, .inr (3, [.int plw, .int pld, .int plc, .int pls, .long plm, .ref plf, .ref plo, .ref plb, .ref pla])), (plb, .inl (plkb, 40, .inr (.inl plB)))] t.heap := hP1
              rw [ht] at hP1
              try dsimp only at hw_13
              obtain ⟨hP, hD⟩ := va_join (wr := [(plf, .inl (plkf, 40, .inl plF)), (plo, .inl (plko, 40, .inl plO)), (h0, .inr (6, [.ref tp, .int ts, .int fn, .int fp, .ref rd, .ref gd, .ref im, .ref rw, .ref gn, .ref ho, .ref sq])), (gd, .inr (0, [.ref pl, .int gdl, .long gdh, .long gdw, .int gdi, .int gde, .int gdc, .ref gdt, .int gdg, .ref gdu, .int gdn, .ref gdx]))]) (w1 := [(pl, .inr (3, [.int plw, .int pld, .int plc, .int pls, .long plm, .ref plf, .ref plo, .ref plb, .ref pla])), (plb, .inl (plkb, 40, .inr (.inl plB)))]) hP hD [4, 5] [0, 1, 2, 3] rfl rfl (by decide) (by decide) hk1 hFc hP1 hD1
              generalize H1 = H at hP hS ⊢
              have hP : va_P (dC, dI) vwCl [(plf, .inl (plkf, 40, .inl plF)), (plo, .inl (plko, 40, .inl plO)), (h0, .inr (6, [.ref tp, .int ts, .int fn, .int fp, .ref rd, .ref gd, .ref im, .ref rw, .ref gn, .ref ho, .ref sq])), (gd, .inr (0, [.ref pl, .int gdl, .long gdh, .long gdw, .int gdi, .int gde, .int gdc, .ref gdt, .int gdg, .ref gdu, .int gdn, .ref gdx])), (pl, .inr (3, [.int plw, .int pld, .int plc, .int pls, .long plm, .ref plf, .ref plo, .ref plb, .ref pla])), (plb, .inl (plkb, 40, .inr (.inl plB)))] H := hP
              have hD : va_D A [(plf, .inl (plkf, 40, .inl plF)), (plo, .inl (plko, 40, .inl plO)), (h0, .inr (6, [.ref tp, .int ts, .int fn, .int fp, .ref rd, .ref gd, .ref im, .ref rw, .ref gn, .ref ho, .ref sq])), (gd, .inr (0, [.ref pl, .int gdl, .long gdh, .long gdw, .int gdi, .int gde, .int gdc, .ref gdt, .int gdg, .ref gdu, .int gdn, .ref gdx])), (pl, .inr (3, [.int plw, .int pld, .int plc, .int pls, .long plm, .ref plf, .ref plo, .ref plb, .ref pla])), (plb, .inl (plkb, 40, .inr (.inl plB)))] := hD
              refine lv_if_eq (tgt := 88) hx hb dX6_what_81 (by decide) (fun c_14 => ?_) (fun c_14 => ?_)
              · have c_14 : r_12.toInt = 0 := i_eq (a := r_12) (b := 0) rfl (by decide) c_14
                refine lv_iconst (v := 0) hx hb dX6_what_88 (by decide) ?_
                have hP9 := hP.sub (ws' := [(h0, .inr (6, [.ref tp, .int ts, .int fn, .int fp, .ref rd, .ref gd, .ref im, .ref rw, .ref gn, .ref ho, .ref sq])), (gd, .inr (0, [.ref pl, .int gdl, .long gdh, .long gdw, .int gdi, .int gde, .int gdc, .ref gdt, .int gdg, .ref gdu, .int gdn, .ref gdx])), (pl, .inr (3, [.int plw, .int pld, .int plc, .int pls, .long plm, .ref plf, .ref plo, .ref plb, .ref pla])), (plf, .inl (plkf, 40, .inl plF)), (plo, .inl (plko, 40, .inl plO)), (plb, .inl (plkb, 40, .inr (.inl plB)))]) [2, 3, 4, 0, 1, 5] rfl
                have hD9 := hD.sub (ws' := [(h0, .inr (6, [.ref tp, .int ts, .int fn, .int fp, .ref rd, .ref gd, .ref im, .ref rw, .ref gn, .ref ho, .ref sq])), (gd, .inr (0, [.ref pl, .int gdl, .long gdh, .long gdw, .int gdi, .int gde, .int gdc, .ref gdt, .int gdg, .ref gdu, .int gdn, .ref gdx])), (pl, .inr (3, [.int plw, .int pld, .int plc, .int pls, .long plm, .ref plf, .ref plo, .ref plb, .ref pla])), (plf, .inl (plkf, 40, .inl plF)), (plo, .inl (plko, 40, .inl plO)), (plb, .inl (plkb, 40, .inr (.inl plB)))]) [2, 3, 4, 0, 1, 5] (by decide) rfl
                have hK9 := hK.sub (tys' := []) [] rfl
                refine W.widen (k := 0) (n := 0) (by omega) (by omega) ?_
                exact W.iret (v := 0) hx hb hr (fun t ht hW => ⟨⟨0, (), rfl, trivial, by rw [ht]; exact hP9, va_K.moved hW.alike hK9, hD9⟩, hS.F ht⟩) hS.2.2 dX6_what_89
              · have c_14 : r_12.toInt ≠ 0 := i_ne (a := r_12) (b := 0) rfl (by decide) c_14
                refine lv_iconst (v := 2) hx hb dX6_what_84 (by decide) ?_
                refine lv_goto (tgt := 89) hx hb dX6_what_85 (by decide) ?_
                have hP9 := hP.sub (ws' := [(h0, .inr (6, [.ref tp, .int ts, .int fn, .int fp, .ref rd, .ref gd, .ref im, .ref rw, .ref gn, .ref ho, .ref sq])), (gd, .inr (0, [.ref pl, .int gdl, .long gdh, .long gdw, .int gdi, .int gde, .int gdc, .ref gdt, .int gdg, .ref gdu, .int gdn, .ref gdx])), (pl, .inr (3, [.int plw, .int pld, .int plc, .int pls, .long plm, .ref plf, .ref plo, .ref plb, .ref pla])), (plf, .inl (plkf, 40, .inl plF)), (plo, .inl (plko, 40, .inl plO)), (plb, .inl (plkb, 40, .inr (.inl plB)))]) [2, 3, 4, 0, 1, 5] rfl
                have hD9 := hD.sub (ws' := [(h0, .inr (6, [.ref tp, .int ts, .int fn, .int fp, .ref rd, .ref gd, .ref im, .ref rw, .ref gn, .ref ho, .ref sq])), (gd, .inr (0, [.ref pl, .int gdl, .long gdh, .long gdw, .int gdi, .int gde, .int gdc, .ref gdt, .int gdg, .ref gdu, .int gdn, .ref gdx])), (pl, .inr (3, [.int plw, .int pld, .int plc, .int pls, .long plm, .ref plf, .ref plo, .ref plb, .ref pla])), (plf, .inl (plkf, 40, .inl plF)), (plo, .inl (plko, 40, .inl plO)), (plb, .inl (plkb, 40, .inr (.inl plB)))]) [2, 3, 4, 0, 1, 5] (by decide) rfl
                have hK9 := hK.sub (tys' := []) [] rfl
                refine W.widen (k := 0) (n := 0) (by omega) (by omega) ?_
                exact W.iret (v := 2) hx hb hr (fun t ht hW => ⟨⟨2, (), rfl, trivial, by rw [ht]; exact hP9, va_K.moved hW.alike hK9, hD9⟩, hS.F ht⟩) hS.2.2 dX6_what_89
            · have c_11 : r_9.toInt ≠ 0 := i_ne (a := r_9) (b := 0) rfl (by decide) c_11
              refine lv_iconst (v := 1) hx hb dX6_what_67 (by decide) ?_
              have hP9 := hP.sub (ws' := [(h0, .inr (6, [.ref tp, .int ts, .int fn, .int fp, .ref rd, .ref gd, .ref im, .ref rw, .ref gn, .ref ho, .ref sq])), (gd, .inr (0, [.ref pl, .int gdl, .long gdh, .long gdw, .int gdi, .int gde, .int gdc, .ref gdt, .int gdg, .ref gdu, .int gdn, .ref gdx])), (pl, .inr (3, [.int plw, .int pld, .int plc, .int pls, .long plm, .ref plf, .ref plo, .ref plb, .ref pla])), (plf, .inl (plkf, 40, .inl plF)), (plo, .inl (plko, 40, .inl plO)), (plb, .inl (plkb, 40, .inr (.inl plB)))]) [2, 3, 4, 0, 1, 5] rfl
              have hD9 := hD.sub (ws' := [(h0, .inr (6, [.ref tp, .int ts, .int fn, .int fp, .ref rd, .ref gd, .ref im, .ref rw, .ref gn, .ref ho, .ref sq])), (gd, .inr (0, [.ref pl, .int gdl, .long gdh, .long gdw, .int gdi, .int gde, .int gdc, .ref gdt, .int gdg, .ref gdu, .int gdn, .ref gdx])), (pl, .inr (3, [.int plw, .int pld, .int plc, .int pls, .long plm, .ref plf, .ref plo, .ref plb, .ref pla])), (plf, .inl (plkf, 40, .inl plF)), (plo, .inl (plko, 40, .inl plO)), (plb, .inl (plkb, 40, .inr (.inl plB)))]) [2, 3, 4, 0, 1, 5] (by decide) rfl
              have hK9 := hK.sub (tys' := []) [] rfl
              refine W.widen (k := 0) (n := 0) (by omega) (by omega) ?_
              exact W.iret (v := 1) hx hb hr (fun t ht hW => ⟨⟨1, (), rfl, trivial, by rw [ht]; exact hP9, va_K.moved hW.alike hK9, hD9⟩, hS.F ht⟩) hS.2.2 dX6_what_68
          · have c_8 : p1.toInt = 1 := i_eq (a := p1) (b := 1) rfl (by decide) c_8
            refine lv_aload_n hx hb dX6_what_45 rfl (lv_at hl 0 rfl) ?_
            refine va_get (D := (dC, dI)) (ci := 3) (v := .ref plo) (C := RX3) (T := TX3) (N := 9) hx hb hts in_X6_what_X3 hown hK hP 5 rfl rfl 6 (by decide) (hts _ wd_X6_what_4) (fun _ h9 => h9) rfl dX6_what_46 ?_
            refine lv_iload_n hx hb dX6_what_49 rfl (lv_at hl 2 rfl) ?_
            have hin_15 : vp_in p0 40 := (i_in rfl (by omega) (by omega))
            refine va_iald hx hb hK hP 1 1 rfl rfl hin_15 dX6_what_50 ?_
            refine lv_topi (fun v_16 ev_16 => ?_)
            have hv_16 := RG.at hR_plo hin_15 ev_16
            have hP9 := hP.sub (ws' := [(h0, .inr (6, [.ref tp, .int ts, .int fn, .int fp, .ref rd, .ref gd, .ref im, .ref rw, .ref gn, .ref ho, .ref sq])), (gd, .inr (0, [.ref pl, .int gdl, .long gdh, .long gdw, .int gdi, .int gde, .int gdc, .ref gdt, .int gdg, .ref gdu, .int gdn, .ref gdx])), (pl, .inr (3, [.int plw, .int pld, .int plc, .int pls, .long plm, .ref plf, .ref plo, .ref plb, .ref pla])), (plf, .inl (plkf, 40, .inl plF)), (plo, .inl (plko, 40, .inl plO)), (plb, .inl (plkb, 40, .inr (.inl plB)))]) [3, 4, 5, 0, 1, 2] rfl
            have hD9 := hD.sub (ws' := [(h0, .inr (6, [.ref tp, .int ts, .int fn, .int fp, .ref rd, .ref gd, .ref im, .ref rw, .ref gn, .ref ho, .ref sq])), (gd, .inr (0, [.ref pl, .int gdl, .long gdh, .long gdw, .int gdi, .int gde, .int gdc, .ref gdt, .int gdg, .ref gdu, .int gdn, .ref gdx])), (pl, .inr (3, [.int plw, .int pld, .int plc, .int pls, .long plm, .ref plf, .ref plo, .ref plb, .ref pla])), (plf, .inl (plkf, 40, .inl plF)), (plo, .inl (plko, 40, .inl plO)), (plb, .inl (plkb, 40, .inr (.inl plB)))]) [3, 4, 5, 0, 1, 2] (by decide) rfl
            have hK9 := hK.sub (tys' := []) [] rfl
            refine W.widen (k := 0) (n := 0) (by omega) (by omega) ?_
            exact W.iret (v := v_16) hx hb hr (fun t ht hW => ⟨⟨v_16, (), rfl, trivial, by rw [ht]; exact hP9, va_K.moved hW.alike hK9, hD9⟩, hS.F ht⟩) hS.2.2 dX6_what_51
        · have c_7 : p1.toInt = 0 := i_eq (a := p1) (b := 0) rfl (by decide) c_7
          refine lv_aload_n hx hb dX6_what_33 rfl (lv_at hl 0 rfl) ?_
          refine va_get (D := (dC, dI)) (ci := 3) (v := .ref plf) (C := RX3) (T := TX3) (N := 9) hx hb hts in_X6_what_X3 hown hK hP 5 rfl rfl 5 (by decide) (hts _ wd_X6_what_5) (fun _ h9 => h9) rfl dX6_what_34 ?_
          refine lv_iload_n hx hb dX6_what_37 rfl (lv_at hl 2 rfl) ?_
          have hin_17 : vp_in p0 40 := (i_in rfl (by omega) (by omega))
          refine va_iald hx hb hK hP 0 0 rfl rfl hin_17 dX6_what_38 ?_
          refine lv_topi (fun v_18 ev_18 => ?_)
          have hv_18 := RG.at hR_plf hin_17 ev_18
          have hP9 := hP.sub (ws' := [(h0, .inr (6, [.ref tp, .int ts, .int fn, .int fp, .ref rd, .ref gd, .ref im, .ref rw, .ref gn, .ref ho, .ref sq])), (gd, .inr (0, [.ref pl, .int gdl, .long gdh, .long gdw, .int gdi, .int gde, .int gdc, .ref gdt, .int gdg, .ref gdu, .int gdn, .ref gdx])), (pl, .inr (3, [.int plw, .int pld, .int plc, .int pls, .long plm, .ref plf, .ref plo, .ref plb, .ref pla])), (plf, .inl (plkf, 40, .inl plF)), (plo, .inl (plko, 40, .inl plO)), (plb, .inl (plkb, 40, .inr (.inl plB)))]) [3, 4, 5, 0, 1, 2] rfl
          have hD9 := hD.sub (ws' := [(h0, .inr (6, [.ref tp, .int ts, .int fn, .int fp, .ref rd, .ref gd, .ref im, .ref rw, .ref gn, .ref ho, .ref sq])), (gd, .inr (0, [.ref pl, .int gdl, .long gdh, .long gdw, .int gdi, .int gde, .int gdc, .ref gdt, .int gdg, .ref gdu, .int gdn, .ref gdx])), (pl, .inr (3, [.int plw, .int pld, .int plc, .int pls, .long plm, .ref plf, .ref plo, .ref plb, .ref pla])), (plf, .inl (plkf, 40, .inl plF)), (plo, .inl (plko, 40, .inl plO)), (plb, .inl (plkb, 40, .inr (.inl plB)))]) [3, 4, 5, 0, 1, 2] (by decide) rfl
          have hK9 := hK.sub (tys' := []) [] rfl
          refine W.widen (k := 0) (n := 0) (by omega) (by omega) ?_
          exact W.iret (v := v_18) hx hb hr (fun t ht hW => ⟨⟨v_18, (), rfl, trivial, by rw [ht]; exact hP9, va_K.moved hW.alike hK9, hD9⟩, hS.F ht⟩) hS.2.2 dX6_what_39
      · have c_6 : 2 < p1.toInt := i_nle (a := p1) (b := 2) rfl (by decide) c_6
        refine lv_bipush (v := -2) hx hb dX6_what_18 (by decide) ?_
        have hP9 := hP.sub (ws' := [(h0, .inr (6, [.ref tp, .int ts, .int fn, .int fp, .ref rd, .ref gd, .ref im, .ref rw, .ref gn, .ref ho, .ref sq])), (gd, .inr (0, [.ref pl, .int gdl, .long gdh, .long gdw, .int gdi, .int gde, .int gdc, .ref gdt, .int gdg, .ref gdu, .int gdn, .ref gdx])), (pl, .inr (3, [.int plw, .int pld, .int plc, .int pls, .long plm, .ref plf, .ref plo, .ref plb, .ref pla])), (plf, .inl (plkf, 40, .inl plF)), (plo, .inl (plko, 40, .inl plO)), (plb, .inl (plkb, 40, .inr (.inl plB)))]) [3, 4, 5, 0, 1, 2] rfl
        have hD9 := hD.sub (ws' := [(h0, .inr (6, [.ref tp, .int ts, .int fn, .int fp, .ref rd, .ref gd, .ref im, .ref rw, .ref gn, .ref ho, .ref sq])), (gd, .inr (0, [.ref pl, .int gdl, .long gdh, .long gdw, .int gdi, .int gde, .int gdc, .ref gdt, .int gdg, .ref gdu, .int gdn, .ref gdx])), (pl, .inr (3, [.int plw, .int pld, .int plc, .int pls, .long plm, .ref plf, .ref plo, .ref plb, .ref pla])), (plf, .inl (plkf, 40, .inl plF)), (plo, .inl (plko, 40, .inl plO)), (plb, .inl (plkb, 40, .inr (.inl plB)))]) [3, 4, 5, 0, 1, 2] (by decide) rfl
        have hK9 := hK.sub (tys' := []) [] rfl
        refine W.widen (k := 0) (n := 0) (by omega) (by omega) ?_
        exact W.iret (v := -2) hx hb hr (fun t ht hW => ⟨⟨(-2), (), rfl, trivial, by rw [ht]; exact hP9, va_K.moved hW.alike hK9, hD9⟩, hS.F ht⟩) hS.2.2 dX6_what_20
  · obtain rfl : r_1 = 0 := r_19
    have hC_19 := hC
    refine lv_if_eq (tgt := 18) hx hb dX6_what_6 (by decide) (fun _ => ?_) (fun h => absurd (by decide) h)
    refine lv_bipush (v := -2) hx hb dX6_what_18 (by decide) ?_
    have hP9 := hP.sub (ws' := [(h0, .inr (6, [.ref tp, .int ts, .int fn, .int fp, .ref rd, .ref gd, .ref im, .ref rw, .ref gn, .ref ho, .ref sq])), (gd, .inr (0, [.ref pl, .int gdl, .long gdh, .long gdw, .int gdi, .int gde, .int gdc, .ref gdt, .int gdg, .ref gdu, .int gdn, .ref gdx])), (pl, .inr (3, [.int plw, .int pld, .int plc, .int pls, .long plm, .ref plf, .ref plo, .ref plb, .ref pla])), (plf, .inl (plkf, 40, .inl plF)), (plo, .inl (plko, 40, .inl plO)), (plb, .inl (plkb, 40, .inr (.inl plB)))]) [3, 4, 5, 0, 1, 2] rfl
    have hD9 := hD.sub (ws' := [(h0, .inr (6, [.ref tp, .int ts, .int fn, .int fp, .ref rd, .ref gd, .ref im, .ref rw, .ref gn, .ref ho, .ref sq])), (gd, .inr (0, [.ref pl, .int gdl, .long gdh, .long gdw, .int gdi, .int gde, .int gdc, .ref gdt, .int gdg, .ref gdu, .int gdn, .ref gdx])), (pl, .inr (3, [.int plw, .int pld, .int plc, .int pls, .long plm, .ref plf, .ref plo, .ref plb, .ref pla])), (plf, .inl (plkf, 40, .inl plF)), (plo, .inl (plko, 40, .inl plO)), (plb, .inl (plkb, 40, .inr (.inl plB)))]) [3, 4, 5, 0, 1, 2] (by decide) rfl
    have hK9 := hK.sub (tys' := []) [] rfl
    refine W.widen (k := 0) (n := 0) (by omega) (by omega) ?_
    exact W.iret (v := -2) hx hb hr (fun t ht hW => ⟨⟨(-2), (), rfl, trivial, by rw [ht]; exact hP9, va_K.moved hW.alike hK9, hD9⟩, hS.F ht⟩) hS.2.2 dX6_what_20

theorem dX6_far_0 : decode cX6_far 0 = .ok (.aload_n 0, 1) := by decide +kernel
theorem dX6_far_1 : decode cX6_far 1 = .ok (.iload_n 1, 1) := by decide +kernel
theorem dX6_far_2 : decode cX6_far 2 = .ok (.invokevirtual 99, 3) := by decide +kernel
theorem dX6_far_5 : decode cX6_far 5 = .ok (.ifCond .eq 11, 3) := by decide +kernel
theorem dX6_far_8 : decode cX6_far 8 = .ok (.aload_n 0, 1) := by decide +kernel
theorem dX6_far_9 : decode cX6_far 9 = .ok (.iload_n 2, 1) := by decide +kernel
theorem dX6_far_10 : decode cX6_far 10 = .ok (.invokevirtual 99, 3) := by decide +kernel
theorem dX6_far_13 : decode cX6_far 13 = .ok (.ifCond .ne 6, 3) := by decide +kernel
theorem dX6_far_16 : decode cX6_far 16 = .ok (.bipush (-2), 2) := by decide +kernel
theorem dX6_far_18 : decode cX6_far 18 = .ok (.ireturn, 1) := by decide +kernel
theorem dX6_far_19 : decode cX6_far 19 = .ok (.aload_n 0, 1) := by decide +kernel
theorem dX6_far_20 : decode cX6_far 20 = .ok (.getfield 33, 3) := by decide +kernel
theorem dX6_far_23 : decode cX6_far 23 = .ok (.getfield 90, 3) := by decide +kernel
theorem dX6_far_26 : decode cX6_far 26 = .ok (.iconst 1, 1) := by decide +kernel
theorem dX6_far_27 : decode cX6_far 27 = .ok (.iload_n 1, 1) := by decide +kernel
theorem dX6_far_28 : decode cX6_far 28 = .ok (.ishl, 1) := by decide +kernel
theorem dX6_far_29 : decode cX6_far 29 = .ok (.iconst 1, 1) := by decide +kernel
theorem dX6_far_30 : decode cX6_far 30 = .ok (.iload_n 2, 1) := by decide +kernel
theorem dX6_far_31 : decode cX6_far 31 = .ok (.ishl, 1) := by decide +kernel
theorem dX6_far_32 : decode cX6_far 32 = .ok (.aload_n 0, 1) := by decide +kernel
theorem dX6_far_33 : decode cX6_far 33 = .ok (.getfield 33, 3) := by decide +kernel
theorem dX6_far_36 : decode cX6_far 36 = .ok (.invokevirtual 128, 3) := by decide +kernel
theorem dX6_far_39 : decode cX6_far 39 = .ok (.invokevirtual 132, 3) := by decide +kernel
theorem dX6_far_42 : decode cX6_far 42 = .ok (.ireturn, 1) := by decide +kernel
def wz_X6_far : List Cond := .code yX6_far cX6_far 3 (some .int) :: ([Cond.fieldLink RX6 33 "HedgeMaze" "garden" "LHedgeMaze$Garden;", Cond.fieldLink RX6 90 "HedgeMaze$Garden" "plan" "LHedgeMaze$Plan;", Cond.methodLink RX6 99 yX6_isCell, Cond.instanceMethod yX6_isCell, Cond.selects RX6 yX6_isCell yX6_isCell, Cond.initialized RX6, Cond.code yX6_isCell cX6_isCell 2 (some .boolean), Cond.fieldLink RX6 169 "HedgeMaze$Plan" "cellCount" "I", Cond.methodLink RX6 128 yX0_openSides, Cond.instanceMethod yX0_openSides, Cond.selects RX0 yX0_openSides yX0_openSides, Cond.initialized RX0, Cond.code yX0_openSides cX0_openSides 1 (some .long), Cond.fieldLink RX0 22 "HedgeMaze$Garden" "hedges" "J", Cond.methodLink RX0 71 yX0_openWith, Cond.instanceMethod yX0_openWith, Cond.selects RX0 yX0_openWith yX0_openWith, Cond.code yX0_openWith cX0_openWith 3 (some .long), Cond.fieldLink RX0 12 "HedgeMaze$Garden" "plan" "LHedgeMaze$Plan;", Cond.fieldLink RX0 75 "HedgeMaze$Plan" "allSides" "J", Cond.fieldLink RX0 26 "HedgeMaze$Garden" "walls" "J", Cond.constantLong RX0 78 (-1), Cond.methodLink RX6 132 yX3_stepsBetween, Cond.instanceMethod yX3_stepsBetween, Cond.selects RX3 yX3_stepsBetween yX3_stepsBetween, Cond.initialized RX3, Cond.code yX3_stepsBetween cX3_stepsBetween 8 (some .int), Cond.methodLink RX3 71 yX3_grow, Cond.instanceMethod yX3_grow, Cond.selects RX3 yX3_grow yX3_grow, Cond.code yX3_grow cX3_grow 6 (some .int), Cond.fieldLink RX3 9 "HedgeMaze$Plan" "wide" "I"] ++ wsX60 ++ wsX00 ++ wsX30)
theorem wd_X6_far_0 : Cond.fieldLink RX6 33 "HedgeMaze" "garden" "LHedgeMaze$Garden;" ∈ wz_X6_far := List.mem_of_getElem? (i := 1) rfl
theorem wd_X6_far_1 : Cond.fieldLink RX6 90 "HedgeMaze$Garden" "plan" "LHedgeMaze$Plan;" ∈ wz_X6_far := List.mem_of_getElem? (i := 2) rfl
theorem in_X6_far_X6 : ∀ w ∈ wsX60, w ∈ wz_X6_far := fun _ h => List.mem_cons_of_mem _ (List.mem_append_left _ (List.mem_append_left _ (List.mem_append_right _ h)))
theorem in_X6_far_X0 : ∀ w ∈ wsX00, w ∈ wz_X6_far := fun _ h => List.mem_cons_of_mem _ (List.mem_append_left _ (List.mem_append_right _ h))
set_option maxRecDepth 20000 in
theorem g_X6_far_X6_isCell : GoodIn wz_X6_far (wsV RX6 99 RX6 yX6_isCell wz_X6_isCell) := goodIn_r _ [3, 4, 5, 6, 7, 1, 2, 8, 33, 34, 35, 36, 37, 38, 39, 40, 41, 42, 43, 44, 45, 46, 47, 48, 49, 50, 51, 52, 53, 54, 55, 56, 57, 58, 59, 60, 61, 62, 63, 64] rfl (by decide +kernel)
set_option maxRecDepth 20000 in
theorem g_X6_far_X0_openSides : GoodIn wz_X6_far (wsV RX6 128 RX0 yX0_openSides wz_X0_openSides) := goodIn_r _ [9, 10, 11, 12, 13, 14, 15, 16, 17, 12, 18, 19, 20, 21, 22, 44, 45, 46, 47, 48, 49, 50, 51, 52, 53, 54, 55, 56, 57, 58, 59, 60, 61, 62, 63, 64] rfl (by decide +kernel)
set_option maxRecDepth 20000 in
theorem g_X6_far_X3_stepsBetween : GoodIn wz_X6_far (wsV RX6 132 RX3 yX3_stepsBetween wz_X3_stepsBetween) := goodIn_r _ [23, 24, 25, 26, 27, 28, 29, 30, 26, 31, 32, 56, 57, 58, 59, 60, 61, 62, 63, 64] rfl (by decide +kernel)
set_option maxHeartbeats 4000000 in
set_option maxRecDepth 100000 in
theorem c_X6_far (l : Launch) (dC : Nat → ClassId) (dI : Nat → Nat → Nat) (sz : Nat) (h0 : Nat) (tp : Nat) (ts : Int32) (fn : Int32) (fp : Int32) (rd : Nat) (gd : Nat) (im : Nat) (rw : Nat) (gn : Nat) (ho : Nat) (sq : Nat) (gdl : Int32) (gdh : Int64) (gdw : Int64) (gdi : Int32) (gde : Int32) (gdc : Int32) (gdt : Nat) (gdg : Int32) (gdu : Nat) (gdn : Int32) (gdx : Nat) (pl : Nat) (plw : Int32) (pld : Int32) (plc : Int32) (pls : Int32) (plm : Int64) (plf : Nat) (plo : Nat) (plb : Nat) (pla : Nat) (p0 : Int32) (p1 : Int32)  : Met l yX6_far wz_X6_far ({ frames := 2, cells := 0, slots := 0, locals := 52 }) (va_Pc [.ref h0, .int p0, .int p1] (fun U => U.heap.size = sz ∧ va_P (dC, dI) vwCl [(h0, .inr (6, [.ref tp, .int ts, .int fn, .int fp, .ref rd, .ref gd, .ref im, .ref rw, .ref gn, .ref ho, .ref sq])), (gd, .inr (0, [.ref pl, .int gdl, .long gdh, .long gdw, .int gdi, .int gde, .int gdc, .ref gdt, .int gdg, .ref gdu, .int gdn, .ref gdx])), (pl, .inr (3, [.int plw, .int pld, .int plc, .int pls, .long plm, .ref plf, .ref plo, .ref plb, .ref pla]))] U.heap ∧ va_K (dC, dI) vwCl [] U ∧ va_D (fun _ => True) [(h0, .inr (6, [.ref tp, .int ts, .int fn, .int fp, .ref rd, .ref gd, .ref im, .ref rw, .ref gn, .ref ho, .ref sq])), (gd, .inr (0, [.ref pl, .int gdl, .long gdh, .long gdw, .int gdi, .int gde, .int gdc, .ref gdt, .int gdg, .ref gdu, .int gdn, .ref gdx])), (pl, .inr (3, [.int plw, .int pld, .int plc, .int pls, .long plm, .ref plf, .ref plo, .ref plb, .ref pla]))])) (va_Qi (fun (r : Int32) (u : Unit) => True) (fun (u : Unit) (t : State) => va_P (dC, dI) vwCl [(h0, .inr (6, [.ref tp, .int ts, .int fn, .int fp, .ref rd, .ref gd, .ref im, .ref rw, .ref gn, .ref ho, .ref sq])), (gd, .inr (0, [.ref pl, .int gdl, .long gdh, .long gdw, .int gdi, .int gde, .int gdc, .ref gdt, .int gdg, .ref gdu, .int gdn, .ref gdx])), (pl, .inr (3, [.int plw, .int pld, .int plc, .int pls, .long plm, .ref plf, .ref plo, .ref plb, .ref pla]))] t.heap ∧ va_K (dC, dI) vwCl [] t ∧ va_D (va_A [(h0, .inr (6, [.ref tp, .int ts, .int fn, .int fp, .ref rd, .ref gd, .ref im, .ref rw, .ref gn, .ref ho, .ref sq])), (gd, .inr (0, [.ref pl, .int gdl, .long gdh, .long gdw, .int gdi, .int gde, .int gdc, .ref gdt, .int gdg, .ref gdu, .int gdn, .ref gdx])), (pl, .inr (3, [.int plw, .int pld, .int plc, .int pls, .long plm, .ref plf, .ref plo, .ref plb, .ref pla]))] sz) [(h0, .inr (6, [.ref tp, .int ts, .int fn, .int fp, .ref rd, .ref gd, .ref im, .ref rw, .ref gn, .ref ho, .ref sq])), (gd, .inr (0, [.ref pl, .int gdl, .long gdh, .long gdw, .int gdi, .int gde, .int gdc, .ref gdt, .int gdg, .ref gdu, .int gdn, .ref gdx])), (pl, .inr (3, [.int plw, .int pld, .int plc, .int pls, .long plm, .ref plf, .ref plo, .ref plb, .ref pla]))]) (va_A [(h0, .inr (6, [.ref tp, .int ts, .int fn, .int fp, .ref rd, .ref gd, .ref im, .ref rw, .ref gn, .ref ho, .ref sq])), (gd, .inr (0, [.ref pl, .int gdl, .long gdh, .long gdw, .int gdi, .int gde, .int gdc, .ref gdt, .int gdg, .ref gdu, .int gdn, .ref gdx])), (pl, .inr (3, [.int plw, .int pld, .int plc, .int pls, .long plm, .ref plf, .ref plo, .ref plb, .ref pla]))] sz)) 0 0 (va_A [(h0, .inr (6, [.ref tp, .int ts, .int fn, .int fp, .ref rd, .ref gd, .ref im, .ref rw, .ref gn, .ref ho, .ref sq])), (gd, .inr (0, [.ref pl, .int gdl, .long gdh, .long gdw, .int gdi, .int gde, .int gdc, .ref gdt, .int gdg, .ref gdu, .int gdn, .ref gdx])), (pl, .inr (3, [.int plw, .int pld, .int plc, .int pls, .long plm, .ref plf, .ref plo, .ref plb, .ref pla]))] sz) := by
  refine Met.ofW (cc := cX6_far) (maxL := 3) (ret := (some .int)) (by decide) rfl ?_
  intro p e s m args below meth c s₁ B hml hv
  obtain ⟨rfl, hsz, hP, hK, hD0⟩ := hv
  have hx := B.exec
  have hb := B.bytes
  have hr := B.returns
  have hts := atoms_spec (ws := wz_X6_far) B.pre
  have hown : s.vm.findClass RX6 = some m.cls := findClass_of_methodNamed B.named
  have hlocks := B.notSynchronized
  subst hsz
  have hD := hD0.self (sz := s.heap.size)
  generalize hAe : va_A [(h0, .inr (6, [.ref tp, .int ts, .int fn, .int fp, .ref rd, .ref gd, .ref im, .ref rw, .ref gn, .ref ho, .ref sq])), (gd, .inr (0, [.ref pl, .int gdl, .long gdh, .long gdw, .int gdi, .int gde, .int gdc, .ref gdt, .int gdg, .ref gdu, .int gdn, .ref gdx])), (pl, .inr (3, [.int plw, .int pld, .int plc, .int pls, .long plm, .ref plf, .ref plo, .ref plb, .ref pla]))] s.heap.size = A at hD ⊢
  have hA : ∀ q : Nat, s.heap.size ≤ q → A q := fun q h => by rw [← hAe]; exact Or.inr h
  have hS : va_S A s.heap s.heap [] := va_S.rf
  have hP : va_P (dC, dI) vwCl [(h0, .inr (6, [.ref tp, .int ts, .int fn, .int fp, .ref rd, .ref gd, .ref im, .ref rw, .ref gn, .ref ho, .ref sq])), (gd, .inr (0, [.ref pl, .int gdl, .long gdh, .long gdw, .int gdi, .int gde, .int gdc, .ref gdt, .int gdg, .ref gdu, .int gdn, .ref gdx])), (pl, .inr (3, [.int plw, .int pld, .int plc, .int pls, .long plm, .ref plf, .ref plo, .ref plb, .ref pla]))] s.heap := hP
  have hl := lv_entry ([.ref h0, .int p0, .int p1]) (n := 3) (Nat.le_of_ble_eq_true rfl)
  rw [lg_entry_eq]
  generalize (lg_sl ([.ref h0, .int p0, .int p1]) ++ List.replicate (3 - (lg_sl ([.ref h0, .int p0, .int p1])).length) Slot.unset).toArray = ls at hl ⊢
  have hl : lv_has ls 3 [(0, .ref h0), (1, .int p0), (2, .int p1)] := hl
  refine lv_aload_n hx hb dX6_far_0 rfl (lv_at hl 0 rfl) ?_
  refine lv_iload_n hx hb dX6_far_1 rfl (lv_at hl 1 rfl) ?_
  have hPc := hP.sub (ws' := [(h0, .inr (6, [.ref tp, .int ts, .int fn, .int fp, .ref rd, .ref gd, .ref im, .ref rw, .ref gn, .ref ho, .ref sq])), (gd, .inr (0, [.ref pl, .int gdl, .long gdh, .long gdw, .int gdi, .int gde, .int gdc, .ref gdt, .int gdg, .ref gdu, .int gdn, .ref gdx])), (pl, .inr (3, [.int plw, .int pld, .int plc, .int pls, .long plm, .ref plf, .ref plo, .ref plb, .ref pla]))]) [0, 1, 2] rfl
  have hDc := hD.sub (ws' := [(h0, .inr (6, [.ref tp, .int ts, .int fn, .int fp, .ref rd, .ref gd, .ref im, .ref rw, .ref gn, .ref ho, .ref sq])), (gd, .inr (0, [.ref pl, .int gdl, .long gdh, .long gdw, .int gdi, .int gde, .int gdc, .ref gdt, .int gdg, .ref gdu, .int gdn, .ref gdx])), (pl, .inr (3, [.int plw, .int pld, .int plc, .int pls, .long plm, .ref plf, .ref plo, .ref plb, .ref pla]))]) [0, 1, 2] (by decide) rfl
  have hKc := hK.sub (tys' := []) [] rfl
  have hFc := va_free (wc := [(h0, .inr (6, [.ref tp, .int ts, .int fn, .int fp, .ref rd, .ref gd, .ref im, .ref rw, .ref gn, .ref ho, .ref sq])), (gd, .inr (0, [.ref pl, .int gdl, .long gdh, .long gdw, .int gdi, .int gde, .int gdc, .ref gdt, .int gdg, .ref gdu, .int gdn, .ref gdx])), (pl, .inr (3, [.int plw, .int pld, .int plc, .int pls, .long plm, .ref plf, .ref plo, .ref plb, .ref pla]))]) hD hS hA [0, 1, 2] rfl
  refine va_calli (va_runV (As := [.int p0]) (rest := []) ⟨hx, hb, hml, hown, hts⟩ (c_X6_isCell l dC dI s.heap.size h0 tp ts fn fp rd gd im rw gn ho sq gdl gdh gdw gdi gde gdc gdt gdg gdu gdn gdx pl plw pld plc pls plm plf plo plb pla p0 ) (cwV 1 hts g_X6_far_X6_isCell rfl rfl rfl (by decide +kernel) ⟨Nat.le_of_ble_eq_true rfl, Nat.le_of_ble_eq_true rfl⟩) ⟨fun a U g mk q => by obtain ⟨q0, q1, qP, qK, qD⟩ := q; exact ⟨q0, q1, qP, va_K.moved (u := U) (U := U.calling g mk a) (Vm.Alike.refl U.vm) qK, qD⟩, va_recv hKc hPc (ci := 6) (q0 := 0) rfl rfl, fun U hU hW => ⟨rfl, by rw [hU], by rw [hU]; exact hPc, va_K.moved hW.alike hKc, hDc.weaken (fun _ _ _ _ => trivial)⟩⟩ rfl rfl hl.1 rfl (lv_room (Nat.le_of_ble_eq_true rfl)) dX6_far_2 ⟨Nat.le_of_ble_eq_true rfl, Nat.le_of_ble_eq_true rfl⟩) hS (fun q _ h => hFc q h) hFc (fun r_1 u t H1 locs ht hvm hw_2 hB hz1 hk1 hS => ?_)
  obtain ⟨hP1, hK1, hD1⟩ := hB
  have hP1 : va_P (dC, dI) vwCl [(h0, .inr (6, [.ref tp, .int ts, .int fn, .int fp, .ref rd, .ref gd, .ref im, .ref rw, .ref gn, .ref ho, .ref sq])), (gd, .inr (0, [.ref pl, .int gdl, .long gdh, .long gdw, .int gdi, .int gde, .int gdc, .ref gdt, .int gdg, .ref gdu, .int gdn, .ref gdx])), (pl, .inr (3, [.int plw, .int pld, .int plc, .int pls, .long plm, .ref plf, .ref plo, .ref plb, .ref pla]))] t.heap := hP1
  rw [ht] at hP1
  try dsimp only at hw_2
  obtain ⟨hP, hD⟩ := va_join (wr := []) (w1 := [(h0, .inr (6, [.ref tp, .int ts, .int fn, .int fp, .ref rd, .ref gd, .ref im, .ref rw, .ref gn, .ref ho, .ref sq])), (gd, .inr (0, [.ref pl, .int gdl, .long gdh, .long gdw, .int gdi, .int gde, .int gdc, .ref gdt, .int gdg, .ref gdu, .int gdn, .ref gdx])), (pl, .inr (3, [.int plw, .int pld, .int plc, .int pls, .long plm, .ref plf, .ref plo, .ref plb, .ref pla]))]) hP hD [0, 1, 2] [] rfl rfl (by decide) (by decide) hk1 hFc hP1 hD1
  generalize H1 = H at hP hS ⊢
  have hP : va_P (dC, dI) vwCl [(h0, .inr (6, [.ref tp, .int ts, .int fn, .int fp, .ref rd, .ref gd, .ref im, .ref rw, .ref gn, .ref ho, .ref sq])), (gd, .inr (0, [.ref pl, .int gdl, .long gdh, .long gdw, .int gdi, .int gde, .int gdc, .ref gdt, .int gdg, .ref gdu, .int gdn, .ref gdx])), (pl, .inr (3, [.int plw, .int pld, .int plc, .int pls, .long plm, .ref plf, .ref plo, .ref plb, .ref pla]))] H := hP
  have hD : va_D A [(h0, .inr (6, [.ref tp, .int ts, .int fn, .int fp, .ref rd, .ref gd, .ref im, .ref rw, .ref gn, .ref ho, .ref sq])), (gd, .inr (0, [.ref pl, .int gdl, .long gdh, .long gdw, .int gdi, .int gde, .int gdc, .ref gdt, .int gdg, .ref gdu, .int gdn, .ref gdx])), (pl, .inr (3, [.int plw, .int pld, .int plc, .int pls, .long plm, .ref plf, .ref plo, .ref plb, .ref pla]))] := hD
  rcases i_bool hw_2 with ⟨r_19, hC⟩ | ⟨r_19, hC⟩
  · obtain rfl : r_1 = 1 := r_19
    have hC_3 := hC
    refine lv_if_eq (tgt := 16) hx hb dX6_far_5 (by decide) (fun h => absurd h (by decide)) (fun _ => ?_)
    refine lv_aload_n hx hb dX6_far_8 rfl (lv_at hl 0 rfl) ?_
    refine lv_iload_n hx hb dX6_far_9 rfl (lv_at hl 2 rfl) ?_
    have hPc := hP.sub (ws' := [(h0, .inr (6, [.ref tp, .int ts, .int fn, .int fp, .ref rd, .ref gd, .ref im, .ref rw, .ref gn, .ref ho, .ref sq])), (gd, .inr (0, [.ref pl, .int gdl, .long gdh, .long gdw, .int gdi, .int gde, .int gdc, .ref gdt, .int gdg, .ref gdu, .int gdn, .ref gdx])), (pl, .inr (3, [.int plw, .int pld, .int plc, .int pls, .long plm, .ref plf, .ref plo, .ref plb, .ref pla]))]) [0, 1, 2] rfl
    have hDc := hD.sub (ws' := [(h0, .inr (6, [.ref tp, .int ts, .int fn, .int fp, .ref rd, .ref gd, .ref im, .ref rw, .ref gn, .ref ho, .ref sq])), (gd, .inr (0, [.ref pl, .int gdl, .long gdh, .long gdw, .int gdi, .int gde, .int gdc, .ref gdt, .int gdg, .ref gdu, .int gdn, .ref gdx])), (pl, .inr (3, [.int plw, .int pld, .int plc, .int pls, .long plm, .ref plf, .ref plo, .ref plb, .ref pla]))]) [0, 1, 2] (by decide) rfl
    have hKc := hK.sub (tys' := []) [] rfl
    have hFc := va_free (wc := [(h0, .inr (6, [.ref tp, .int ts, .int fn, .int fp, .ref rd, .ref gd, .ref im, .ref rw, .ref gn, .ref ho, .ref sq])), (gd, .inr (0, [.ref pl, .int gdl, .long gdh, .long gdw, .int gdi, .int gde, .int gdc, .ref gdt, .int gdg, .ref gdu, .int gdn, .ref gdx])), (pl, .inr (3, [.int plw, .int pld, .int plc, .int pls, .long plm, .ref plf, .ref plo, .ref plb, .ref pla]))]) hD hS hA [0, 1, 2] rfl
    refine va_calli (va_runV (As := [.int p1]) (rest := []) ⟨hx, hb, hml, hown, hts⟩ (c_X6_isCell l dC dI H.size h0 tp ts fn fp rd gd im rw gn ho sq gdl gdh gdw gdi gde gdc gdt gdg gdu gdn gdx pl plw pld plc pls plm plf plo plb pla p1 ) (cwV 1 hts g_X6_far_X6_isCell rfl rfl rfl (by decide +kernel) ⟨Nat.le_of_ble_eq_true rfl, Nat.le_of_ble_eq_true rfl⟩) ⟨fun a U g mk q => by obtain ⟨q0, q1, qP, qK, qD⟩ := q; exact ⟨q0, q1, qP, va_K.moved (u := U) (U := U.calling g mk a) (Vm.Alike.refl U.vm) qK, qD⟩, va_recv hKc hPc (ci := 6) (q0 := 0) rfl rfl, fun U hU hW => ⟨rfl, by rw [hU], by rw [hU]; exact hPc, va_K.moved hW.alike hKc, hDc.weaken (fun _ _ _ _ => trivial)⟩⟩ rfl rfl hl.1 rfl (lv_room (Nat.le_of_ble_eq_true rfl)) dX6_far_10 ⟨Nat.le_of_ble_eq_true rfl, Nat.le_of_ble_eq_true rfl⟩) hS (fun q _ h => hFc q h) hFc (fun r_5 u t H1 locs ht hvm hw_6 hB hz1 hk1 hS => ?_)
    obtain ⟨hP1, hK1, hD1⟩ := hB
    have hP1 : va_P (dC, dI) vwCl [(h0, .inr (6, [.ref tp, .int ts, .int fn, .int fp, .ref rd, .ref gd, .ref im, .ref rw, .ref gn, .ref ho, .ref sq])), (gd, .inr (0, [.ref pl, .int gdl, .long gdh, .long gdw, .int gdi, .int gde, .int gdc, .ref gdt, .int gdg, .ref gdu, .int gdn, .ref gdx])), (pl, .inr (3, [.int plw, .int pld, .int plc, .int pls, .long plm, .ref plf, .ref plo, .ref plb, .ref pla]))] t.heap := hP1
    rw [ht] at hP1
    try dsimp only at hw_6
    obtain ⟨hP, hD⟩ := va_join (wr := []) (w1 := [(h0, .inr (6, [.ref tp, .int ts, .int fn, .int fp, .ref rd, .ref gd, .ref im, .ref rw, .ref gn, .ref ho, .ref sq])), (gd, .inr (0, [.ref pl, .int gdl, .long gdh, .long gdw, .int gdi, .int gde, .int gdc, .ref gdt, .int gdg, .ref gdu, .int gdn, .ref gdx])), (pl, .inr (3, [.int plw, .int pld, .int plc, .int pls, .long plm, .ref plf, .ref plo, .ref plb, .ref pla]))]) hP hD [0, 1, 2] [] rfl rfl (by decide) (by decide) hk1 hFc hP1 hD1
    generalize H1 = H at hP hS ⊢
    have hP : va_P (dC, dI) vwCl [(h0, .inr (6, [.ref tp, .int ts, .int fn, .int fp, .ref rd, .ref gd, .ref im, .ref rw, .ref gn, .ref ho, .ref sq])), (gd, .inr (0, [.ref pl, .int gdl, .long gdh, .long gdw, .int gdi, .int gde, .int gdc, .ref gdt, .int gdg, .ref gdu, .int gdn, .ref gdx])), (pl, .inr (3, [.int plw, .int pld, .int plc, .int pls, .long plm, .ref plf, .ref plo, .ref plb, .ref pla]))] H := hP
    have hD : va_D A [(h0, .inr (6, [.ref tp, .int ts, .int fn, .int fp, .ref rd, .ref gd, .ref im, .ref rw, .ref gn, .ref ho, .ref sq])), (gd, .inr (0, [.ref pl, .int gdl, .long gdh, .long gdw, .int gdi, .int gde, .int gdc, .ref gdt, .int gdg, .ref gdu, .int gdn, .ref gdx])), (pl, .inr (3, [.int plw, .int pld, .int plc, .int pls, .long plm, .ref plf, .ref plo, .ref plb, .ref pla]))] := hD
    rcases i_bool hw_6 with ⟨r_59, hC⟩ | ⟨r_59, hC⟩
    · obtain rfl : r_5 = 1 := r_59
      have hC_7 := hC
      refine lv_if_ne (tgt := 19) hx hb dX6_far_13 (by decide) (fun _ => ?_) (fun h => absurd h (by decide))
      refine lv_aload_n hx hb dX6_far_19 rfl (lv_at hl 0 rfl) ?_
      refine va_get (D := (dC, dI)) (ci := 6) (v := .ref gd) (C := RX6) (T := TX6) (N := 11) hx hb hts in_X6_far_X6 hown hK hP 0 rfl rfl 5 (by decide) (hts _ wd_X6_far_0) (fun _ h9 => h9) rfl dX6_far_20 ?_
      refine va_get (D := (dC, dI)) (ci := 0) (v := .ref pl) (C := RX0) (T := TX0) (N := 12) hx hb hts in_X6_far_X0 hown hK hP 1 rfl rfl 0 (by decide) (hts _ wd_X6_far_1) (fun _ h9 => h9) rfl dX6_far_23 ?_
      refine lv_iconst (v := 1) hx hb dX6_far_26 (by decide) ?_
      refine lv_iload_n hx hb dX6_far_27 rfl (lv_at hl 1 rfl) ?_
      refine lv_ishl hx hb dX6_far_28 ?_
      refine lv_topi (fun x_9 ex_9 => ?_)
      refine lv_iconst (v := 1) hx hb dX6_far_29 (by decide) ?_
      refine lv_iload_n hx hb dX6_far_30 rfl (lv_at hl 2 rfl) ?_
      refine lv_ishl hx hb dX6_far_31 ?_
      refine lv_topi (fun x_10 ex_10 => ?_)
      refine lv_aload_n hx hb dX6_far_32 rfl (lv_at hl 0 rfl) ?_
      refine va_get (D := (dC, dI)) (ci := 6) (v := .ref gd) (C := RX6) (T := TX6) (N := 11) hx hb hts in_X6_far_X6 hown hK hP 0 rfl rfl 5 (by decide) (hts _ wd_X6_far_0) (fun _ h9 => h9) rfl dX6_far_33 ?_
      have hPc := hP.sub (ws' := [(gd, .inr (0, [.ref pl, .int gdl, .long gdh, .long gdw, .int gdi, .int gde, .int gdc, .ref gdt, .int gdg, .ref gdu, .int gdn, .ref gdx])), (pl, .inr (3, [.int plw, .int pld, .int plc, .int pls, .long plm, .ref plf, .ref plo, .ref plb, .ref pla]))]) [1, 2] rfl
      have hDc := hD.sub (ws' := [(gd, .inr (0, [.ref pl, .int gdl, .long gdh, .long gdw, .int gdi, .int gde, .int gdc, .ref gdt, .int gdg, .ref gdu, .int gdn, .ref gdx])), (pl, .inr (3, [.int plw, .int pld, .int plc, .int pls, .long plm, .ref plf, .ref plo, .ref plb, .ref pla]))]) [1, 2] (by decide) rfl
      have hKc := hK.sub (tys' := []) [] rfl
      have hFc := va_free (wc := [(gd, .inr (0, [.ref pl, .int gdl, .long gdh, .long gdw, .int gdi, .int gde, .int gdc, .ref gdt, .int gdg, .ref gdu, .int gdn, .ref gdx])), (pl, .inr (3, [.int plw, .int pld, .int plc, .int pls, .long plm, .ref plf, .ref plo, .ref plb, .ref pla]))]) hD hS hA [1, 2] rfl
      refine va_calll (va_runV (As := []) (rest := [.int x_10, .int x_9, .ref pl]) ⟨hx, hb, hml, hown, hts⟩ (c_X0_openSides l dC dI H.size gd gdl gdh gdw gdi gde gdc gdt gdg gdu gdn gdx pl plw pld plc pls plm plf plo plb pla ) (cwV 0 hts g_X6_far_X0_openSides rfl rfl rfl (by decide +kernel) ⟨Nat.le_of_ble_eq_true rfl, Nat.le_of_ble_eq_true rfl⟩) ⟨fun a U g mk q => by obtain ⟨q0, q1, qP, qK, qD⟩ := q; exact ⟨q0, q1, qP, va_K.moved (u := U) (U := U.calling g mk a) (Vm.Alike.refl U.vm) qK, qD⟩, va_recv hKc hPc (ci := 0) (q0 := 0) rfl rfl, fun U hU hW => ⟨rfl, by rw [hU], by rw [hU]; exact hPc, va_K.moved hW.alike hKc, hDc.weaken (fun _ _ _ _ => trivial)⟩⟩ rfl rfl hl.1 rfl (lv_room (Nat.le_of_ble_eq_true rfl)) dX6_far_36 ⟨Nat.le_of_ble_eq_true rfl, Nat.le_of_ble_eq_true rfl⟩) hS (fun q _ h => hFc q h) hFc (fun r_11 u t H1 locs ht hvm hw_12 hB hz1 hk1 hS => ?_)
      obtain ⟨hP1, hK1, hD1⟩ := hB
      have hP1 : va_P (dC, dI) vwCl [(gd, .inr (0, [.ref pl, .int gdl, .long gdh, .long gdw, .int gdi, .int gde, .int gdc, .ref gdt, .int gdg, .ref gdu, .int gdn, .ref gdx])), (pl, .inr (3, [.int plw, .int pld, .int plc, .int pls, .long plm, .ref plf, .ref plo, .ref plb, .ref pla]))] t.heap := hP1
      rw [ht] at hP1
      try dsimp only at hw_12
      obtain ⟨hP, hD⟩ := va_join (wr := [(h0, .inr (6, [.ref tp, .int ts, .int fn, .int fp, .ref rd, .ref gd, .ref im, .ref rw, .ref gn, .ref ho, .ref sq]))]) (w1 := [(gd, .inr (0, [.ref pl, .int gdl, .long gdh, .long gdw, .int gdi, .int gde, .int gdc, .ref gdt, .int gdg, .ref gdu, .int gdn, .ref gdx])), (pl, .inr (3, [.int plw, .int pld, .int plc, .int pls, .long plm, .ref plf, .ref plo, .ref plb, .ref pla]))]) hP hD [1, 2] [0] rfl rfl (by decide) (by decide) hk1 hFc hP1 hD1
      generalize H1 = H at hP hS ⊢
      have hP : va_P (dC, dI) vwCl [(h0, .inr (6, [.ref tp, .int ts, .int fn, .int fp, .ref rd, .ref gd, .ref im, .ref rw, .ref gn, .ref ho, .ref sq])), (gd, .inr (0, [.ref pl, .int gdl, .long gdh, .long gdw, .int gdi, .int gde, .int gdc, .ref gdt, .int gdg, .ref gdu, .int gdn, .ref gdx])), (pl, .inr (3, [.int plw, .int pld, .int plc, .int pls, .long plm, .ref plf, .ref plo, .ref plb, .ref pla]))] H := hP
      have hD : va_D A [(h0, .inr (6, [.ref tp, .int ts, .int fn, .int fp, .ref rd, .ref gd, .ref im, .ref rw, .ref gn, .ref ho, .ref sq])), (gd, .inr (0, [.ref pl, .int gdl, .long gdh, .long gdw, .int gdi, .int gde, .int gdc, .ref gdt, .int gdg, .ref gdu, .int gdn, .ref gdx])), (pl, .inr (3, [.int plw, .int pld, .int plc, .int pls, .long plm, .ref plf, .ref plo, .ref plb, .ref pla]))] := hD
      have hPc := hP.sub (ws' := [(pl, .inr (3, [.int plw, .int pld, .int plc, .int pls, .long plm, .ref plf, .ref plo, .ref plb, .ref pla]))]) [2] rfl
      have hDc := hD.sub (ws' := [(pl, .inr (3, [.int plw, .int pld, .int plc, .int pls, .long plm, .ref plf, .ref plo, .ref plb, .ref pla]))]) [2] (by decide) rfl
      have hKc := hK.sub (tys' := []) [] rfl
      have hFc := va_free (wc := [(pl, .inr (3, [.int plw, .int pld, .int plc, .int pls, .long plm, .ref plf, .ref plo, .ref plb, .ref pla]))]) hD hS hA [2] rfl
      refine va_calli (va_runV (As := [.int x_9, .int x_10, .long r_11]) (rest := []) ⟨hx, hb, hml, hown, hts⟩ (c_X3_stepsBetween l dC dI H.size pl plw pld plc pls plm plf plo plb pla x_9 x_10 r_11 ) (cwV 3 hts g_X6_far_X3_stepsBetween rfl rfl rfl (by decide +kernel) ⟨Nat.le_of_ble_eq_true rfl, Nat.le_of_ble_eq_true rfl⟩) ⟨fun a U g mk q => by obtain ⟨q0, q1, qP, qK, qD⟩ := q; exact ⟨q0, q1, qP, va_K.moved (u := U) (U := U.calling g mk a) (Vm.Alike.refl U.vm) qK, qD⟩, va_recv hKc hPc (ci := 3) (q0 := 0) rfl rfl, fun U hU hW => ⟨rfl, by rw [hU], by rw [hU]; exact hPc, va_K.moved hW.alike hKc, hDc.weaken (fun _ _ _ _ => trivial)⟩⟩ rfl rfl hl.1 rfl (lv_room (Nat.le_of_ble_eq_true rfl)) dX6_far_39 ⟨Nat.le_of_ble_eq_true rfl, Nat.le_of_ble_eq_true rfl⟩) hS (fun q _ h => hFc q h) hFc (fun r_13 u t H1 locs ht hvm hw_14 hB hz1 hk1 hS => ?_)
      obtain ⟨hP1, hK1, hD1⟩ := hB
      have hP1 : va_P (dC, dI) vwCl [(pl, .inr (3, [.int plw, .int pld, .int plc, .int pls, .long plm, .ref plf, .ref plo, .ref plb, .ref pla]))] t.heap := hP1
      rw [ht] at hP1
      try dsimp only at hw_14
      obtain ⟨hP, hD⟩ := va_join (wr := [(h0, .inr (6, [.ref tp, .int ts, .int fn, .int fp, .ref rd, .ref gd, .ref im, .ref rw, .ref gn, .ref ho, .ref sq])), (gd, .inr (0, [.ref pl, .int gdl, .long gdh, .long gdw, .int gdi, .int gde, .int gdc, .ref gdt, .int gdg, .ref gdu, .int gdn, .ref gdx]))]) (w1 := [(pl, .inr (3, [.int plw, .int pld, .int plc, .int pls, .long plm, .ref plf, .ref plo, .ref plb, .ref pla]))]) hP hD [2] [0, 1] rfl rfl (by decide) (by decide) hk1 hFc hP1 hD1
      generalize H1 = H at hP hS ⊢
      have hP : va_P (dC, dI) vwCl [(h0, .inr (6, [.ref tp, .int ts, .int fn, .int fp, .ref rd, .ref gd, .ref im, .ref rw, .ref gn, .ref ho, .ref sq])), (gd, .inr (0, [.ref pl, .int gdl, .long gdh, .long gdw, .int gdi, .int gde, .int gdc, .ref gdt, .int gdg, .ref gdu, .int gdn, .ref gdx])), (pl, .inr (3, [.int plw, .int pld, .int plc, .int pls, .long plm, .ref plf, .ref plo, .ref plb, .ref pla]))] H := hP
      have hD : va_D A [(h0, .inr (6, [.ref tp, .int ts, .int fn, .int fp, .ref rd, .ref gd, .ref im, .ref rw, .ref gn, .ref ho, .ref sq])), (gd, .inr (0, [.ref pl, .int gdl, .long gdh, .long gdw, .int gdi, .int gde, .int gdc, .ref gdt, .int gdg, .ref gdu, .int gdn, .ref gdx])), (pl, .inr (3, [.int plw, .int pld, .int plc, .int pls, .long plm, .ref plf, .ref plo, .ref plb, .ref pla]))] := hD
      have hP9 := hP.sub (ws' := [(h0, .inr (6, [.ref tp, .int ts, .int fn, .int fp, .ref rd, .ref gd, .ref im, .ref rw, .ref gn, .ref ho, .ref sq])), (gd, .inr (0, [.ref pl, .int gdl, .long gdh, .long gdw, .int gdi, .int gde, .int gdc, .ref gdt, .int gdg, .ref gdu, .int gdn, .ref gdx])), (pl, .inr (3, [.int plw, .int pld, .int plc, .int pls, .long plm, .ref plf, .ref plo, .ref plb, .ref pla]))]) [0, 1, 2] rfl
      have hD9 := hD.sub (ws' := [(h0, .inr (6, [.ref tp, .int ts, .int fn, .int fp, .ref rd, .ref gd, .ref im, .ref rw, .ref gn, .ref ho, .ref sq])), (gd, .inr (0, [.ref pl, .int gdl, .long gdh, .long gdw, .int gdi, .int gde, .int gdc, .ref gdt, .int gdg, .ref gdu, .int gdn, .ref gdx])), (pl, .inr (3, [.int plw, .int pld, .int plc, .int pls, .long plm, .ref plf, .ref plo, .ref plb, .ref pla]))]) [0, 1, 2] (by decide) rfl
      have hK9 := hK.sub (tys' := []) [] rfl
      refine W.widen (k := 0) (n := 0) (by omega) (by omega) ?_
      exact W.iret (v := r_13) hx hb hr (fun t ht hW => ⟨⟨r_13, (), rfl, trivial, by rw [ht]; exact hP9, va_K.moved hW.alike hK9, hD9⟩, hS.F ht⟩) hS.2.2 dX6_far_42
    · obtain rfl : r_5 = 0 := r_59
      have hC_15 := hC
      refine lv_if_ne (tgt := 19) hx hb dX6_far_13 (by decide) (fun h => absurd (by decide) h) (fun _ => ?_)
      refine lv_bipush (v := -2) hx hb dX6_far_16 (by decide) ?_
      have hP9 := hP.sub (ws' := [(h0, .inr (6, [.ref tp, .int ts, .int fn, .int fp, .ref rd, .ref gd, .ref im, .ref rw, .ref gn, .ref ho, .ref sq])), (gd, .inr (0, [.ref pl, .int gdl, .long gdh, .long gdw, .int gdi, .int gde, .int gdc, .ref gdt, .int gdg, .ref gdu, .int gdn, .ref gdx])), (pl, .inr (3, [.int plw, .int pld, .int plc, .int pls, .long plm, .ref plf, .ref plo, .ref plb, .ref pla]))]) [0, 1, 2] rfl
      have hD9 := hD.sub (ws' := [(h0, .inr (6, [.ref tp, .int ts, .int fn, .int fp, .ref rd, .ref gd, .ref im, .ref rw, .ref gn, .ref ho, .ref sq])), (gd, .inr (0, [.ref pl, .int gdl, .long gdh, .long gdw, .int gdi, .int gde, .int gdc, .ref gdt, .int gdg, .ref gdu, .int gdn, .ref gdx])), (pl, .inr (3, [.int plw, .int pld, .int plc, .int pls, .long plm, .ref plf, .ref plo, .ref plb, .ref pla]))]) [0, 1, 2] (by decide) rfl
      have hK9 := hK.sub (tys' := []) [] rfl
      refine W.widen (k := 0) (n := 0) (by omega) (by omega) ?_
      exact W.iret (v := -2) hx hb hr (fun t ht hW => ⟨⟨(-2), (), rfl, trivial, by rw [ht]; exact hP9, va_K.moved hW.alike hK9, hD9⟩, hS.F ht⟩) hS.2.2 dX6_far_18
  · obtain rfl : r_1 = 0 := r_19
    have hC_17 := hC
    refine lv_if_eq (tgt := 16) hx hb dX6_far_5 (by decide) (fun _ => ?_) (fun h => absurd (by decide) h)
    refine lv_bipush (v := -2) hx hb dX6_far_16 (by decide) ?_
    have hP9 := hP.sub (ws' := [(h0, .inr (6, [.ref tp, .int ts, .int fn, .int fp, .ref rd, .ref gd, .ref im, .ref rw, .ref gn, .ref ho, .ref sq])), (gd, .inr (0, [.ref pl, .int gdl, .long gdh, .long gdw, .int gdi, .int gde, .int gdc, .ref gdt, .int gdg, .ref gdu, .int gdn, .ref gdx])), (pl, .inr (3, [.int plw, .int pld, .int plc, .int pls, .long plm, .ref plf, .ref plo, .ref plb, .ref pla]))]) [0, 1, 2] rfl
    have hD9 := hD.sub (ws' := [(h0, .inr (6, [.ref tp, .int ts, .int fn, .int fp, .ref rd, .ref gd, .ref im, .ref rw, .ref gn, .ref ho, .ref sq])), (gd, .inr (0, [.ref pl, .int gdl, .long gdh, .long gdw, .int gdi, .int gde, .int gdc, .ref gdt, .int gdg, .ref gdu, .int gdn, .ref gdx])), (pl, .inr (3, [.int plw, .int pld, .int plc, .int pls, .long plm, .ref plf, .ref plo, .ref plb, .ref pla]))]) [0, 1, 2] (by decide) rfl
    have hK9 := hK.sub (tys' := []) [] rfl
    refine W.widen (k := 0) (n := 0) (by omega) (by omega) ?_
    exact W.iret (v := -2) hx hb hr (fun t ht hW => ⟨⟨(-2), (), rfl, trivial, by rw [ht]; exact hP9, va_K.moved hW.alike hK9, hD9⟩, hS.F ht⟩) hS.2.2 dX6_far_18

theorem dX6_gate_0 : decode cX6_gate 0 = .ok (.aload_n 0, 1) := by decide +kernel
theorem dX6_gate_1 : decode cX6_gate 1 = .ok (.iload_n 1, 1) := by decide +kernel
theorem dX6_gate_2 : decode cX6_gate 2 = .ok (.invokevirtual 99, 3) := by decide +kernel
theorem dX6_gate_5 : decode cX6_gate 5 = .ok (.ifCond .eq 21, 3) := by decide +kernel
theorem dX6_gate_8 : decode cX6_gate 8 = .ok (.aload_n 0, 1) := by decide +kernel
theorem dX6_gate_9 : decode cX6_gate 9 = .ok (.getfield 33, 3) := by decide +kernel
theorem dX6_gate_12 : decode cX6_gate 12 = .ok (.iload_n 1, 1) := by decide +kernel
theorem dX6_gate_13 : decode cX6_gate 13 = .ok (.aload_n 0, 1) := by decide +kernel
theorem dX6_gate_14 : decode cX6_gate 14 = .ok (.getfield 33, 3) := by decide +kernel
theorem dX6_gate_17 : decode cX6_gate 17 = .ok (.getfield 117, 3) := by decide +kernel
theorem dX6_gate_20 : decode cX6_gate 20 = .ok (.invokevirtual 148, 3) := by decide +kernel
theorem dX6_gate_23 : decode cX6_gate 23 = .ok (.goto 5, 3) := by decide +kernel
theorem dX6_gate_26 : decode cX6_gate 26 = .ok (.bipush (-2), 2) := by decide +kernel
theorem dX6_gate_28 : decode cX6_gate 28 = .ok (.ireturn, 1) := by decide +kernel
def wz_X6_gate : List Cond := .code yX6_gate cX6_gate 2 (some .int) :: ([Cond.fieldLink RX6 33 "HedgeMaze" "garden" "LHedgeMaze$Garden;", Cond.fieldLink RX6 117 "HedgeMaze$Garden" "hedges" "J", Cond.methodLink RX6 99 yX6_isCell, Cond.instanceMethod yX6_isCell, Cond.selects RX6 yX6_isCell yX6_isCell, Cond.initialized RX6, Cond.code yX6_isCell cX6_isCell 2 (some .boolean), Cond.fieldLink RX6 90 "HedgeMaze$Garden" "plan" "LHedgeMaze$Plan;", Cond.fieldLink RX6 169 "HedgeMaze$Plan" "cellCount" "I", Cond.methodLink RX6 148 yX0_stepsToGate, Cond.instanceMethod yX0_stepsToGate, Cond.selects RX0 yX0_stepsToGate yX0_stepsToGate, Cond.initialized RX0, Cond.code yX0_stepsToGate cX0_stepsToGate 4 (some .int), Cond.fieldLink RX0 12 "HedgeMaze$Garden" "plan" "LHedgeMaze$Plan;", Cond.methodLink RX0 80 yX0_gateCells, Cond.instanceMethod yX0_gateCells, Cond.selects RX0 yX0_gateCells yX0_gateCells, Cond.code yX0_gateCells cX0_gateCells 3 (some .int), Cond.fieldLink RX0 36 "HedgeMaze$Garden" "gateCount" "I", Cond.fieldLink RX0 39 "HedgeMaze$Garden" "gates" "[I", Cond.methodLink RX0 71 yX0_openWith, Cond.instanceMethod yX0_openWith, Cond.selects RX0 yX0_openWith yX0_openWith, Cond.code yX0_openWith cX0_openWith 3 (some .long), Cond.fieldLink RX0 75 "HedgeMaze$Plan" "allSides" "J", Cond.fieldLink RX0 26 "HedgeMaze$Garden" "walls" "J", Cond.constantLong RX0 78 (-1), Cond.methodLink RX0 84 yX3_stepsBetween, Cond.instanceMethod yX3_stepsBetween, Cond.selects RX3 yX3_stepsBetween yX3_stepsBetween, Cond.initialized RX3, Cond.code yX3_stepsBetween cX3_stepsBetween 8 (some .int), Cond.methodLink RX3 71 yX3_grow, Cond.instanceMethod yX3_grow, Cond.selects RX3 yX3_grow yX3_grow, Cond.code yX3_grow cX3_grow 6 (some .int), Cond.fieldLink RX3 9 "HedgeMaze$Plan" "wide" "I"] ++ wsX60 ++ wsX00 ++ wsX30)
theorem wd_X6_gate_0 : Cond.fieldLink RX6 33 "HedgeMaze" "garden" "LHedgeMaze$Garden;" ∈ wz_X6_gate := List.mem_of_getElem? (i := 1) rfl
theorem wd_X6_gate_1 : Cond.fieldLink RX6 117 "HedgeMaze$Garden" "hedges" "J" ∈ wz_X6_gate := List.mem_of_getElem? (i := 2) rfl
theorem in_X6_gate_X6 : ∀ w ∈ wsX60, w ∈ wz_X6_gate := fun _ h => List.mem_cons_of_mem _ (List.mem_append_left _ (List.mem_append_left _ (List.mem_append_right _ h)))
theorem in_X6_gate_X0 : ∀ w ∈ wsX00, w ∈ wz_X6_gate := fun _ h => List.mem_cons_of_mem _ (List.mem_append_left _ (List.mem_append_right _ h))
set_option maxRecDepth 20000 in
theorem g_X6_gate_X6_isCell : GoodIn wz_X6_gate (wsV RX6 99 RX6 yX6_isCell wz_X6_isCell) := goodIn_r _ [3, 4, 5, 6, 7, 1, 8, 9, 39, 40, 41, 42, 43, 44, 45, 46, 47, 48, 49, 50, 51, 52, 53, 54, 55, 56, 57, 58, 59, 60, 61, 62, 63, 64, 65, 66, 67, 68, 69, 70] rfl (by decide +kernel)
set_option maxRecDepth 20000 in
theorem g_X6_gate_X0_stepsToGate : GoodIn wz_X6_gate (wsV RX6 148 RX0 yX0_stepsToGate wz_X0_stepsToGate) := goodIn_r _ [10, 11, 12, 13, 14, 15, 16, 17, 18, 13, 19, 20, 21, 22, 23, 24, 25, 26, 27, 28, 29, 30, 31, 32, 33, 34, 35, 36, 37, 38, 50, 51, 52, 53, 54, 55, 56, 57, 58, 59, 60, 61, 62, 63, 64, 65, 66, 67, 68, 69, 70] rfl (by decide +kernel)
set_option maxHeartbeats 4000000 in
set_option maxRecDepth 100000 in
theorem c_X6_gate (l : Launch) (dC : Nat → ClassId) (dI : Nat → Nat → Nat) (sz : Nat) (h0 : Nat) (tp : Nat) (ts : Int32) (fn : Int32) (fp : Int32) (rd : Nat) (gd : Nat) (im : Nat) (rw : Nat) (gn : Nat) (ho : Nat) (sq : Nat) (gdl : Int32) (gdh : Int64) (gdw : Int64) (gdi : Int32) (gde : Int32) (gdc : Int32) (gdt : Nat) (gdg : Int32) (gdu : Nat) (gdn : Int32) (gdx : Nat) (gdkt : ClassId) (gdT : Nat → Int32) (pl : Nat) (plw : Int32) (pld : Int32) (plc : Int32) (pls : Int32) (plm : Int64) (plf : Nat) (plo : Nat) (plb : Nat) (pla : Nat) (p0 : Int32) (h_gdc : 0 ≤ gdc.toInt ∧ gdc.toInt ≤ 4) (hR_gdt : RG gdT 4 0 24) : Met l yX6_gate wz_X6_gate ({ frames := 3, cells := 0, slots := 0, locals := 75 }) (va_Pc [.ref h0, .int p0] (fun U => U.heap.size = sz ∧ va_P (dC, dI) vwCl [(h0, .inr (6, [.ref tp, .int ts, .int fn, .int fp, .ref rd, .ref gd, .ref im, .ref rw, .ref gn, .ref ho, .ref sq])), (gd, .inr (0, [.ref pl, .int gdl, .long gdh, .long gdw, .int gdi, .int gde, .int gdc, .ref gdt, .int gdg, .ref gdu, .int gdn, .ref gdx])), (gdt, .inl (gdkt, 4, .inl gdT)), (pl, .inr (3, [.int plw, .int pld, .int plc, .int pls, .long plm, .ref plf, .ref plo, .ref plb, .ref pla]))] U.heap ∧ va_K (dC, dI) vwCl [(gdkt, .int)] U ∧ va_D (fun _ => True) [(h0, .inr (6, [.ref tp, .int ts, .int fn, .int fp, .ref rd, .ref gd, .ref im, .ref rw, .ref gn, .ref ho, .ref sq])), (gd, .inr (0, [.ref pl, .int gdl, .long gdh, .long gdw, .int gdi, .int gde, .int gdc, .ref gdt, .int gdg, .ref gdu, .int gdn, .ref gdx])), (gdt, .inl (gdkt, 4, .inl gdT)), (pl, .inr (3, [.int plw, .int pld, .int plc, .int pls, .long plm, .ref plf, .ref plo, .ref plb, .ref pla]))])) (va_Qi (fun (r : Int32) (u : Unit) => True) (fun (u : Unit) (t : State) => va_P (dC, dI) vwCl [(h0, .inr (6, [.ref tp, .int ts, .int fn, .int fp, .ref rd, .ref gd, .ref im, .ref rw, .ref gn, .ref ho, .ref sq])), (gd, .inr (0, [.ref pl, .int gdl, .long gdh, .long gdw, .int gdi, .int gde, .int gdc, .ref gdt, .int gdg, .ref gdu, .int gdn, .ref gdx])), (gdt, .inl (gdkt, 4, .inl gdT)), (pl, .inr (3, [.int plw, .int pld, .int plc, .int pls, .long plm, .ref plf, .ref plo, .ref plb, .ref pla]))] t.heap ∧ va_K (dC, dI) vwCl [] t ∧ va_D (va_A [(h0, .inr (6, [.ref tp, .int ts, .int fn, .int fp, .ref rd, .ref gd, .ref im, .ref rw, .ref gn, .ref ho, .ref sq])), (gd, .inr (0, [.ref pl, .int gdl, .long gdh, .long gdw, .int gdi, .int gde, .int gdc, .ref gdt, .int gdg, .ref gdu, .int gdn, .ref gdx])), (gdt, .inl (gdkt, 4, .inl gdT)), (pl, .inr (3, [.int plw, .int pld, .int plc, .int pls, .long plm, .ref plf, .ref plo, .ref plb, .ref pla]))] sz) [(h0, .inr (6, [.ref tp, .int ts, .int fn, .int fp, .ref rd, .ref gd, .ref im, .ref rw, .ref gn, .ref ho, .ref sq])), (gd, .inr (0, [.ref pl, .int gdl, .long gdh, .long gdw, .int gdi, .int gde, .int gdc, .ref gdt, .int gdg, .ref gdu, .int gdn, .ref gdx])), (gdt, .inl (gdkt, 4, .inl gdT)), (pl, .inr (3, [.int plw, .int pld, .int plc, .int pls, .long plm, .ref plf, .ref plo, .ref plb, .ref pla]))]) (va_A [(h0, .inr (6, [.ref tp, .int ts, .int fn, .int fp, .ref rd, .ref gd, .ref im, .ref rw, .ref gn, .ref ho, .ref sq])), (gd, .inr (0, [.ref pl, .int gdl, .long gdh, .long gdw, .int gdi, .int gde, .int gdc, .ref gdt, .int gdg, .ref gdu, .int gdn, .ref gdx])), (gdt, .inl (gdkt, 4, .inl gdT)), (pl, .inr (3, [.int plw, .int pld, .int plc, .int pls, .long plm, .ref plf, .ref plo, .ref plb, .ref pla]))] sz)) 0 0 (va_A [(h0, .inr (6, [.ref tp, .int ts, .int fn, .int fp, .ref rd, .ref gd, .ref im, .ref rw, .ref gn, .ref ho, .ref sq])), (gd, .inr (0, [.ref pl, .int gdl, .long gdh, .long gdw, .int gdi, .int gde, .int gdc, .ref gdt, .int gdg, .ref gdu, .int gdn, .ref gdx])), (gdt, .inl (gdkt, 4, .inl gdT)), (pl, .inr (3, [.int plw, .int pld, .int plc, .int pls, .long plm, .ref plf, .ref plo, .ref plb, .ref pla]))] sz) := by
  refine Met.ofW (cc := cX6_gate) (maxL := 2) (ret := (some .int)) (by decide) rfl ?_
  intro p e s m args below meth c s₁ B hml hv
  obtain ⟨rfl, hsz, hP, hK, hD0⟩ := hv
  have hx := B.exec
  have hb := B.bytes
  have hr := B.returns
  have hts := atoms_spec (ws := wz_X6_gate) B.pre
  have hown : s.vm.findClass RX6 = some m.cls := findClass_of_methodNamed B.named
  have hlocks := B.notSynchronized
  subst hsz
  have hD := hD0.self (sz := s.heap.size)
  generalize hAe : va_A [(h0, .inr (6, [.ref tp, .int ts, .int fn, .int fp, .ref rd, .ref gd, .ref im, .ref rw, .ref gn, .ref ho, .ref sq])), (gd, .inr (0, [.ref pl, .int gdl, .long gdh, .long gdw, .int gdi, .int gde, .int gdc, .ref gdt, .int gdg, .ref gdu, .int gdn, .ref gdx])), (gdt, .inl (gdkt, 4, .inl gdT)), (pl, .inr (3, [.int plw, .int pld, .int plc, .int pls, .long plm, .ref plf, .ref plo, .ref plb, .ref pla]))] s.heap.size = A at hD ⊢
  have hA : ∀ q : Nat, s.heap.size ≤ q → A q := fun q h => by rw [← hAe]; exact Or.inr h
  have hS : va_S A s.heap s.heap [] := va_S.rf
  have hP : va_P (dC, dI) vwCl [(h0, .inr (6, [.ref tp, .int ts, .int fn, .int fp, .ref rd, .ref gd, .ref im, .ref rw, .ref gn, .ref ho, .ref sq])), (gd, .inr (0, [.ref pl, .int gdl, .long gdh, .long gdw, .int gdi, .int gde, .int gdc, .ref gdt, .int gdg, .ref gdu, .int gdn, .ref gdx])), (gdt, .inl (gdkt, 4, .inl gdT)), (pl, .inr (3, [.int plw, .int pld, .int plc, .int pls, .long plm, .ref plf, .ref plo, .ref plb, .ref pla]))] s.heap := hP
  have hl := lv_entry ([.ref h0, .int p0]) (n := 2) (Nat.le_of_ble_eq_true rfl)
  rw [lg_entry_eq]
  generalize (lg_sl ([.ref h0, .int p0]) ++ List.replicate (2 - (lg_sl ([.ref h0, .int p0])).length) Slot.unset).toArray = ls at hl ⊢
  have hl : lv_has ls 2 [(0, .ref h0), (1, .int p0)] := hl
  refine lv_aload_n hx hb dX6_gate_0 rfl (lv_at hl 0 rfl) ?_
  refine lv_iload_n hx hb dX6_gate_1 rfl (lv_at hl 1 rfl) ?_
  have hPc := hP.sub (ws' := [(h0, .inr (6, [.ref tp, .int ts, .int fn, .int fp, .ref rd, .ref gd, .ref im, .ref rw, .ref gn, .ref ho, .ref sq])), (gd, .inr (0, [.ref pl, .int gdl, .long gdh, .long gdw, .int gdi, .int gde, .int gdc, .ref gdt, .int gdg, .ref gdu, .int gdn, .ref gdx])), (pl, .inr (3, [.int plw, .int pld, .int plc, .int pls, .long plm, .ref plf, .ref plo, .ref plb, .ref pla]))]) [0, 1, 3] rfl
  have hDc := hD.sub (ws' := [(h0, .inr (6, [.ref tp, .int ts, .int fn, .int fp, .ref rd, .ref gd, .ref im, .ref rw, .ref gn, .ref ho, .ref sq])), (gd, .inr (0, [.ref pl, .int gdl, .long gdh, .long gdw, .int gdi, .int gde, .int gdc, .ref gdt, .int gdg, .ref gdu, .int gdn, .ref gdx])), (pl, .inr (3, [.int plw, .int pld, .int plc, .int pls, .long plm, .ref plf, .ref plo, .ref plb, .ref pla]))]) [0, 1, 3] (by decide) rfl
  have hKc := hK.sub (tys' := []) [] rfl
  have hFc := va_free (wc := [(h0, .inr (6, [.ref tp, .int ts, .int fn, .int fp, .ref rd, .ref gd, .ref im, .ref rw, .ref gn, .ref ho, .ref sq])), (gd, .inr (0, [.ref pl, .int gdl, .long gdh, .long gdw, .int gdi, .int gde, .int gdc, .ref gdt, .int gdg, .ref gdu, .int gdn, .ref gdx])), (pl, .inr (3, [.int plw, .int pld, .int plc, .int pls, .long plm, .ref plf, .ref plo, .ref plb, .ref pla]))]) hD hS hA [0, 1, 3] rfl
  refine va_calli (va_runV (As := [.int p0]) (rest := []) ⟨hx, hb, hml, hown, hts⟩ (c_X6_isCell l dC dI s.heap.size h0 tp ts fn fp rd gd im rw gn ho sq gdl gdh gdw gdi gde gdc gdt gdg gdu gdn gdx pl plw pld plc pls plm plf plo plb pla p0 ) (cwV 1 hts g_X6_gate_X6_isCell rfl rfl rfl (by decide +kernel) ⟨Nat.le_of_ble_eq_true rfl, Nat.le_of_ble_eq_true rfl⟩) ⟨fun a U g mk q => by obtain ⟨q0, q1, qP, qK, qD⟩ := q; exact ⟨q0, q1, qP, va_K.moved (u := U) (U := U.calling g mk a) (Vm.Alike.refl U.vm) qK, qD⟩, va_recv hKc hPc (ci := 6) (q0 := 0) rfl rfl, fun U hU hW => ⟨rfl, by rw [hU], by rw [hU]; exact hPc, va_K.moved hW.alike hKc, hDc.weaken (fun _ _ _ _ => trivial)⟩⟩ rfl rfl hl.1 rfl (lv_room (Nat.le_of_ble_eq_true rfl)) dX6_gate_2 ⟨Nat.le_of_ble_eq_true rfl, Nat.le_of_ble_eq_true rfl⟩) hS (fun q _ h => hFc q h) hFc (fun r_1 u t H1 locs ht hvm hw_2 hB hz1 hk1 hS => ?_)
  obtain ⟨hP1, hK1, hD1⟩ := hB
  have hP1 : va_P (dC, dI) vwCl [(h0, .inr (6, [.ref tp, .int ts, .int fn, .int fp, .ref rd, .ref gd, .ref im, .ref rw, .ref gn, .ref ho, .ref sq])), (gd, .inr (0, [.ref pl, .int gdl, .long gdh, .long gdw, .int gdi, .int gde, .int gdc, .ref gdt, .int gdg, .ref gdu, .int gdn, .ref gdx])), (pl, .inr (3, [.int plw, .int pld, .int plc, .int pls, .long plm, .ref plf, .ref plo, .ref plb, .ref pla]))] t.heap := hP1
  rw [ht] at hP1
  try dsimp only at hw_2
  obtain ⟨hP, hD⟩ := va_join (wr := [(gdt, .inl (gdkt, 4, .inl gdT))]) (w1 := [(h0, .inr (6, [.ref tp, .int ts, .int fn, .int fp, .ref rd, .ref gd, .ref im, .ref rw, .ref gn, .ref ho, .ref sq])), (gd, .inr (0, [.ref pl, .int gdl, .long gdh, .long gdw, .int gdi, .int gde, .int gdc, .ref gdt, .int gdg, .ref gdu, .int gdn, .ref gdx])), (pl, .inr (3, [.int plw, .int pld, .int plc, .int pls, .long plm, .ref plf, .ref plo, .ref plb, .ref pla]))]) hP hD [0, 1, 3] [2] rfl rfl (by decide) (by decide) hk1 hFc hP1 hD1
  generalize H1 = H at hP hS ⊢
  have hP : va_P (dC, dI) vwCl [(gdt, .inl (gdkt, 4, .inl gdT)), (h0, .inr (6, [.ref tp, .int ts, .int fn, .int fp, .ref rd, .ref gd, .ref im, .ref rw, .ref gn, .ref ho, .ref sq])), (gd, .inr (0, [.ref pl, .int gdl, .long gdh, .long gdw, .int gdi, .int gde, .int gdc, .ref gdt, .int gdg, .ref gdu, .int gdn, .ref gdx])), (pl, .inr (3, [.int plw, .int pld, .int plc, .int pls, .long plm, .ref plf, .ref plo, .ref plb, .ref pla]))] H := hP
  have hD : va_D A [(gdt, .inl (gdkt, 4, .inl gdT)), (h0, .inr (6, [.ref tp, .int ts, .int fn, .int fp, .ref rd, .ref gd, .ref im, .ref rw, .ref gn, .ref ho, .ref sq])), (gd, .inr (0, [.ref pl, .int gdl, .long gdh, .long gdw, .int gdi, .int gde, .int gdc, .ref gdt, .int gdg, .ref gdu, .int gdn, .ref gdx])), (pl, .inr (3, [.int plw, .int pld, .int plc, .int pls, .long plm, .ref plf, .ref plo, .ref plb, .ref pla]))] := hD
  rcases i_bool hw_2 with ⟨r_19, hC⟩ | ⟨r_19, hC⟩
  · obtain rfl : r_1 = 1 := r_19
    have hC_3 := hC
    refine lv_if_eq (tgt := 26) hx hb dX6_gate_5 (by decide) (fun h => absurd h (by decide)) (fun _ => ?_)
    refine lv_aload_n hx hb dX6_gate_8 rfl (lv_at hl 0 rfl) ?_
    refine va_get (D := (dC, dI)) (ci := 6) (v := .ref gd) (C := RX6) (T := TX6) (N := 11) hx hb hts in_X6_gate_X6 hown hK hP 1 rfl rfl 5 (by decide) (hts _ wd_X6_gate_0) (fun _ h9 => h9) rfl dX6_gate_9 ?_
    refine lv_iload_n hx hb dX6_gate_12 rfl (lv_at hl 1 rfl) ?_
    refine lv_aload_n hx hb dX6_gate_13 rfl (lv_at hl 0 rfl) ?_
    refine va_get (D := (dC, dI)) (ci := 6) (v := .ref gd) (C := RX6) (T := TX6) (N := 11) hx hb hts in_X6_gate_X6 hown hK hP 1 rfl rfl 5 (by decide) (hts _ wd_X6_gate_0) (fun _ h9 => h9) rfl dX6_gate_14 ?_
    refine va_get (D := (dC, dI)) (ci := 0) (v := .long gdh) (C := RX0) (T := TX0) (N := 12) hx hb hts in_X6_gate_X0 hown hK hP 2 rfl rfl 2 (by decide) (hts _ wd_X6_gate_1) (fun _ h9 => h9) rfl dX6_gate_17 ?_
    have hPc := hP.sub (ws' := [(gd, .inr (0, [.ref pl, .int gdl, .long gdh, .long gdw, .int gdi, .int gde, .int gdc, .ref gdt, .int gdg, .ref gdu, .int gdn, .ref gdx])), (gdt, .inl (gdkt, 4, .inl gdT)), (pl, .inr (3, [.int plw, .int pld, .int plc, .int pls, .long plm, .ref plf, .ref plo, .ref plb, .ref pla]))]) [2, 0, 3] rfl
    have hDc := hD.sub (ws' := [(gd, .inr (0, [.ref pl, .int gdl, .long gdh, .long gdw, .int gdi, .int gde, .int gdc, .ref gdt, .int gdg, .ref gdu, .int gdn, .ref gdx])), (gdt, .inl (gdkt, 4, .inl gdT)), (pl, .inr (3, [.int plw, .int pld, .int plc, .int pls, .long plm, .ref plf, .ref plo, .ref plb, .ref pla]))]) [2, 0, 3] (by decide) rfl
    have hKc := hK.sub (tys' := [(gdkt, .int)]) [0] rfl
    have hFc := va_free (wc := [(gd, .inr (0, [.ref pl, .int gdl, .long gdh, .long gdw, .int gdi, .int gde, .int gdc, .ref gdt, .int gdg, .ref gdu, .int gdn, .ref gdx])), (gdt, .inl (gdkt, 4, .inl gdT)), (pl, .inr (3, [.int plw, .int pld, .int plc, .int pls, .long plm, .ref plf, .ref plo, .ref plb, .ref pla]))]) hD hS hA [2, 0, 3] rfl
    refine va_calli (va_runV (As := [.int p0, .long gdh]) (rest := []) ⟨hx, hb, hml, hown, hts⟩ (c_X0_stepsToGate l dC dI H.size gd gdl gdh gdw gdi gde gdc gdt gdg gdu gdn gdx gdkt gdT pl plw pld plc pls plm plf plo plb pla p0 gdh (by omega) hR_gdt) (cwV 2 hts g_X6_gate_X0_stepsToGate rfl rfl rfl (by decide +kernel) ⟨Nat.le_of_ble_eq_true rfl, Nat.le_of_ble_eq_true rfl⟩) ⟨fun a U g mk q => by obtain ⟨q0, q1, qP, qK, qD⟩ := q; exact ⟨q0, q1, qP, va_K.moved (u := U) (U := U.calling g mk a) (Vm.Alike.refl U.vm) qK, qD⟩, va_recv hKc hPc (ci := 0) (q0 := 0) rfl rfl, fun U hU hW => ⟨rfl, by rw [hU], by rw [hU]; exact hPc, va_K.moved hW.alike hKc, hDc.weaken (fun _ _ _ _ => trivial)⟩⟩ rfl rfl hl.1 rfl (lv_room (Nat.le_of_ble_eq_true rfl)) dX6_gate_20 ⟨Nat.le_of_ble_eq_true rfl, Nat.le_of_ble_eq_true rfl⟩) hS (fun q _ h => hFc q h) hFc (fun r_5 u t H1 locs ht hvm hw_6 hB hz1 hk1 hS => ?_)
    obtain ⟨hP1, hK1, hD1⟩ := hB
    have hP1 : va_P (dC, dI) vwCl [(gd, .inr (0, [.ref pl, .int gdl, .long gdh, .long gdw, .int gdi, .int gde, .int gdc, .ref gdt, .int gdg, .ref gdu, .int gdn, .ref gdx])), (gdt, .inl (gdkt, 4, .inl gdT)), (pl, .inr (3, [.int plw, .int pld, .int plc, .int pls, .long plm, .ref plf, .ref plo, .ref plb, .ref pla]))] t.heap := hP1
    rw [ht] at hP1
    try dsimp only at hw_6
    obtain ⟨hP, hD⟩ := va_join (wr := [(h0, .inr (6, [.ref tp, .int ts, .int fn, .int fp, .ref rd, .ref gd, .ref im, .ref rw, .ref gn, .ref ho, .ref sq]))]) (w1 := [(gd, .inr (0, [.ref pl, .int gdl, .long gdh, .long gdw, .int gdi, .int gde, .int gdc, .ref gdt, .int gdg, .ref gdu, .int gdn, .ref gdx])), (gdt, .inl (gdkt, 4, .inl gdT)), (pl, .inr (3, [.int plw, .int pld, .int plc, .int pls, .long plm, .ref plf, .ref plo, .ref plb, .ref pla]))]) hP hD [2, 0, 3] [1] rfl rfl (by decide) (by decide) hk1 hFc hP1 hD1
    generalize H1 = H at hP hS ⊢
    have hP : va_P (dC, dI) vwCl [(h0, .inr (6, [.ref tp, .int ts, .int fn, .int fp, .ref rd, .ref gd, .ref im, .ref rw, .ref gn, .ref ho, .ref sq])), (gd, .inr (0, [.ref pl, .int gdl, .long gdh, .long gdw, .int gdi, .int gde, .int gdc, .ref gdt, .int gdg, .ref gdu, .int gdn, .ref gdx])), (gdt, .inl (gdkt, 4, .inl gdT)), (pl, .inr (3, [.int plw, .int pld, .int plc, .int pls, .long plm, .ref plf, .ref plo, .ref plb, .ref pla]))] H := hP
    have hD : va_D A [(h0, .inr (6, [.ref tp, .int ts, .int fn, .int fp, .ref rd, .ref gd, .ref im, .ref rw, .ref gn, .ref ho, .ref sq])), (gd, .inr (0, [.ref pl, .int gdl, .long gdh, .long gdw, .int gdi, .int gde, .int gdc, .ref gdt, .int gdg, .ref gdu, .int gdn, .ref gdx])), (gdt, .inl (gdkt, 4, .inl gdT)), (pl, .inr (3, [.int plw, .int pld, .int plc, .int pls, .long plm, .ref plf, .ref plo, .ref plb, .ref pla]))] := hD
    refine lv_goto (tgt := 28) hx hb dX6_gate_23 (by decide) ?_
    have hP9 := hP.sub (ws' := [(h0, .inr (6, [.ref tp, .int ts, .int fn, .int fp, .ref rd, .ref gd, .ref im, .ref rw, .ref gn, .ref ho, .ref sq])), (gd, .inr (0, [.ref pl, .int gdl, .long gdh, .long gdw, .int gdi, .int gde, .int gdc, .ref gdt, .int gdg, .ref gdu, .int gdn, .ref gdx])), (gdt, .inl (gdkt, 4, .inl gdT)), (pl, .inr (3, [.int plw, .int pld, .int plc, .int pls, .long plm, .ref plf, .ref plo, .ref plb, .ref pla]))]) [0, 1, 2, 3] rfl
    have hD9 := hD.sub (ws' := [(h0, .inr (6, [.ref tp, .int ts, .int fn, .int fp, .ref rd, .ref gd, .ref im, .ref rw, .ref gn, .ref ho, .ref sq])), (gd, .inr (0, [.ref pl, .int gdl, .long gdh, .long gdw, .int gdi, .int gde, .int gdc, .ref gdt, .int gdg, .ref gdu, .int gdn, .ref gdx])), (gdt, .inl (gdkt, 4, .inl gdT)), (pl, .inr (3, [.int plw, .int pld, .int plc, .int pls, .long plm, .ref plf, .ref plo, .ref plb, .ref pla]))]) [0, 1, 2, 3] (by decide) rfl
    have hK9 := hK.sub (tys' := []) [] rfl
    refine W.widen (k := 0) (n := 0) (by omega) (by omega) ?_
    exact W.iret (v := r_5) hx hb hr (fun t ht hW => ⟨⟨r_5, (), rfl, trivial, by rw [ht]; exact hP9, va_K.moved hW.alike hK9, hD9⟩, hS.F ht⟩) hS.2.2 dX6_gate_28
  · obtain rfl : r_1 = 0 := r_19
    have hC_7 := hC
    refine lv_if_eq (tgt := 26) hx hb dX6_gate_5 (by decide) (fun _ => ?_) (fun h => absurd (by decide) h)
    refine lv_bipush (v := -2) hx hb dX6_gate_26 (by decide) ?_
    have hP9 := hP.sub (ws' := [(h0, .inr (6, [.ref tp, .int ts, .int fn, .int fp, .ref rd, .ref gd, .ref im, .ref rw, .ref gn, .ref ho, .ref sq])), (gd, .inr (0, [.ref pl, .int gdl, .long gdh, .long gdw, .int gdi, .int gde, .int gdc, .ref gdt, .int gdg, .ref gdu, .int gdn, .ref gdx])), (gdt, .inl (gdkt, 4, .inl gdT)), (pl, .inr (3, [.int plw, .int pld, .int plc, .int pls, .long plm, .ref plf, .ref plo, .ref plb, .ref pla]))]) [1, 2, 0, 3] rfl
    have hD9 := hD.sub (ws' := [(h0, .inr (6, [.ref tp, .int ts, .int fn, .int fp, .ref rd, .ref gd, .ref im, .ref rw, .ref gn, .ref ho, .ref sq])), (gd, .inr (0, [.ref pl, .int gdl, .long gdh, .long gdw, .int gdi, .int gde, .int gdc, .ref gdt, .int gdg, .ref gdu, .int gdn, .ref gdx])), (gdt, .inl (gdkt, 4, .inl gdT)), (pl, .inr (3, [.int plw, .int pld, .int plc, .int pls, .long plm, .ref plf, .ref plo, .ref plb, .ref pla]))]) [1, 2, 0, 3] (by decide) rfl
    have hK9 := hK.sub (tys' := []) [] rfl
    refine W.widen (k := 0) (n := 0) (by omega) (by omega) ?_
    exact W.iret (v := -2) hx hb hr (fun t ht hW => ⟨⟨(-2), (), rfl, trivial, by rw [ht]; exact hP9, va_K.moved hW.alike hK9, hD9⟩, hS.F ht⟩) hS.2.2 dX6_gate_28

theorem dX6_within_0 : decode cX6_within 0 = .ok (.aload_n 0, 1) := by decide +kernel
theorem dX6_within_1 : decode cX6_within 1 = .ok (.iload_n 1, 1) := by decide +kernel
theorem dX6_within_2 : decode cX6_within 2 = .ok (.invokevirtual 99, 3) := by decide +kernel
theorem dX6_within_5 : decode cX6_within 5 = .ok (.ifCond .eq 13, 3) := by decide +kernel
theorem dX6_within_8 : decode cX6_within 8 = .ok (.iload_n 2, 1) := by decide +kernel
theorem dX6_within_9 : decode cX6_within 9 = .ok (.ifCond .lt 9, 3) := by decide +kernel
theorem dX6_within_12 : decode cX6_within 12 = .ok (.iload_n 2, 1) := by decide +kernel
theorem dX6_within_13 : decode cX6_within 13 = .ok (.bipush 99, 2) := by decide +kernel
theorem dX6_within_15 : decode cX6_within 15 = .ok (.if_icmp .le 6, 3) := by decide +kernel
theorem dX6_within_18 : decode cX6_within 18 = .ok (.bipush (-2), 2) := by decide +kernel
theorem dX6_within_20 : decode cX6_within 20 = .ok (.ireturn, 1) := by decide +kernel
theorem dX6_within_21 : decode cX6_within 21 = .ok (.aload_n 0, 1) := by decide +kernel
theorem dX6_within_22 : decode cX6_within 22 = .ok (.getfield 33, 3) := by decide +kernel
theorem dX6_within_25 : decode cX6_within 25 = .ok (.getfield 90, 3) := by decide +kernel
theorem dX6_within_28 : decode cX6_within 28 = .ok (.iconst 1, 1) := by decide +kernel
theorem dX6_within_29 : decode cX6_within 29 = .ok (.iload_n 1, 1) := by decide +kernel
theorem dX6_within_30 : decode cX6_within 30 = .ok (.ishl, 1) := by decide +kernel
theorem dX6_within_31 : decode cX6_within 31 = .ok (.aload_n 0, 1) := by decide +kernel
theorem dX6_within_32 : decode cX6_within 32 = .ok (.getfield 33, 3) := by decide +kernel
theorem dX6_within_35 : decode cX6_within 35 = .ok (.invokevirtual 128, 3) := by decide +kernel
theorem dX6_within_38 : decode cX6_within 38 = .ok (.iload_n 2, 1) := by decide +kernel
theorem dX6_within_39 : decode cX6_within 39 = .ok (.invokevirtual 152, 3) := by decide +kernel
theorem dX6_within_42 : decode cX6_within 42 = .ok (.invokestatic 156, 3) := by decide +kernel
theorem dX6_within_45 : decode cX6_within 45 = .ok (.ireturn, 1) := by decide +kernel
def wz_X6_within : List Cond := .code yX6_within cX6_within 3 (some .int) :: ([Cond.fieldLink RX6 33 "HedgeMaze" "garden" "LHedgeMaze$Garden;", Cond.fieldLink RX6 90 "HedgeMaze$Garden" "plan" "LHedgeMaze$Plan;", Cond.methodLink RX6 99 yX6_isCell, Cond.instanceMethod yX6_isCell, Cond.selects RX6 yX6_isCell yX6_isCell, Cond.initialized RX6, Cond.code yX6_isCell cX6_isCell 2 (some .boolean), Cond.fieldLink RX6 169 "HedgeMaze$Plan" "cellCount" "I", Cond.methodLink RX6 128 yX0_openSides, Cond.instanceMethod yX0_openSides, Cond.selects RX0 yX0_openSides yX0_openSides, Cond.initialized RX0, Cond.code yX0_openSides cX0_openSides 1 (some .long), Cond.fieldLink RX0 22 "HedgeMaze$Garden" "hedges" "J", Cond.methodLink RX0 71 yX0_openWith, Cond.instanceMethod yX0_openWith, Cond.selects RX0 yX0_openWith yX0_openWith, Cond.code yX0_openWith cX0_openWith 3 (some .long), Cond.fieldLink RX0 12 "HedgeMaze$Garden" "plan" "LHedgeMaze$Plan;", Cond.fieldLink RX0 75 "HedgeMaze$Plan" "allSides" "J", Cond.fieldLink RX0 26 "HedgeMaze$Garden" "walls" "J", Cond.constantLong RX0 78 (-1), Cond.methodLink RX6 152 yX3_spread, Cond.instanceMethod yX3_spread, Cond.selects RX3 yX3_spread yX3_spread, Cond.initialized RX3, Cond.code yX3_spread cX3_spread 9 (some .int), Cond.methodLink RX3 42 Lib.Math.min.name, Cond.static Lib.Math.min.name, Cond.initialized "java/lang/Math", Cond.code Lib.Math.min.name Lib.Math.min.code 2 (some .int), Cond.methodLink RX3 71 yX3_grow, Cond.instanceMethod yX3_grow, Cond.selects RX3 yX3_grow yX3_grow, Cond.code yX3_grow cX3_grow 6 (some .int), Cond.fieldLink RX3 9 "HedgeMaze$Plan" "wide" "I", Cond.methodLink RX6 156 yJ6_bitCount_0f7a4, Cond.static yJ6_bitCount_0f7a4, Cond.initialized RJ6, Cond.code yJ6_bitCount_0f7a4 cJ6_bitCount_0f7a4 1 (some .int), Cond.constant RJ6 265 (1431655765), Cond.constant RJ6 266 (858993459), Cond.constant RJ6 267 (252645135)] ++ wsX60 ++ wsX00 ++ wsX30)
theorem wd_X6_within_0 : Cond.fieldLink RX6 33 "HedgeMaze" "garden" "LHedgeMaze$Garden;" ∈ wz_X6_within := List.mem_of_getElem? (i := 1) rfl
theorem wd_X6_within_1 : Cond.fieldLink RX6 90 "HedgeMaze$Garden" "plan" "LHedgeMaze$Plan;" ∈ wz_X6_within := List.mem_of_getElem? (i := 2) rfl
theorem in_X6_within_X6 : ∀ w ∈ wsX60, w ∈ wz_X6_within := fun _ h => List.mem_cons_of_mem _ (List.mem_append_left _ (List.mem_append_left _ (List.mem_append_right _ h)))
theorem in_X6_within_X0 : ∀ w ∈ wsX00, w ∈ wz_X6_within := fun _ h => List.mem_cons_of_mem _ (List.mem_append_left _ (List.mem_append_right _ h))
set_option maxRecDepth 20000 in
theorem g_X6_within_X6_isCell : GoodIn wz_X6_within (wsV RX6 99 RX6 yX6_isCell wz_X6_isCell) := goodIn_r _ [3, 4, 5, 6, 7, 1, 2, 8, 44, 45, 46, 47, 48, 49, 50, 51, 52, 53, 54, 55, 56, 57, 58, 59, 60, 61, 62, 63, 64, 65, 66, 67, 68, 69, 70, 71, 72, 73, 74, 75] rfl (by decide +kernel)
set_option maxRecDepth 20000 in
theorem g_X6_within_X0_openSides : GoodIn wz_X6_within (wsV RX6 128 RX0 yX0_openSides wz_X0_openSides) := goodIn_r _ [9, 10, 11, 12, 13, 14, 15, 16, 17, 12, 18, 19, 20, 21, 22, 55, 56, 57, 58, 59, 60, 61, 62, 63, 64, 65, 66, 67, 68, 69, 70, 71, 72, 73, 74, 75] rfl (by decide +kernel)
set_option maxRecDepth 20000 in
theorem g_X6_within_X3_spread : GoodIn wz_X6_within (wsV RX6 152 RX3 yX3_spread wz_X3_spread) := goodIn_r _ [23, 24, 25, 26, 27, 28, 29, 30, 31, 32, 33, 34, 26, 35, 36, 67, 68, 69, 70, 71, 72, 73, 74, 75] rfl (by decide +kernel)
set_option maxRecDepth 20000 in
theorem g_X6_within_J6_bitCount_0f7a4 : GoodIn wz_X6_within (va_wsS RX6 156 yJ6_bitCount_0f7a4 wz_J6_bitCount_0f7a4) := goodIn_r _ [37, 38, 39, 40, 41, 42, 43] rfl (by decide +kernel)
set_option maxHeartbeats 4000000 in
set_option maxRecDepth 100000 in
theorem c_X6_within (l : Launch) (dC : Nat → ClassId) (dI : Nat → Nat → Nat) (sz : Nat) (h0 : Nat) (tp : Nat) (ts : Int32) (fn : Int32) (fp : Int32) (rd : Nat) (gd : Nat) (im : Nat) (rw : Nat) (gn : Nat) (ho : Nat) (sq : Nat) (gdl : Int32) (gdh : Int64) (gdw : Int64) (gdi : Int32) (gde : Int32) (gdc : Int32) (gdt : Nat) (gdg : Int32) (gdu : Nat) (gdn : Int32) (gdx : Nat) (pl : Nat) (plw : Int32) (pld : Int32) (plc : Int32) (pls : Int32) (plm : Int64) (plf : Nat) (plo : Nat) (plb : Nat) (pla : Nat) (p0 : Int32) (p1 : Int32)  : Met l yX6_within wz_X6_within ({ frames := 2, cells := 0, slots := 0, locals := 68 }) (va_Pc [.ref h0, .int p0, .int p1] (fun U => U.heap.size = sz ∧ va_P (dC, dI) vwCl [(h0, .inr (6, [.ref tp, .int ts, .int fn, .int fp, .ref rd, .ref gd, .ref im, .ref rw, .ref gn, .ref ho, .ref sq])), (gd, .inr (0, [.ref pl, .int gdl, .long gdh, .long gdw, .int gdi, .int gde, .int gdc, .ref gdt, .int gdg, .ref gdu, .int gdn, .ref gdx])), (pl, .inr (3, [.int plw, .int pld, .int plc, .int pls, .long plm, .ref plf, .ref plo, .ref plb, .ref pla]))] U.heap ∧ va_K (dC, dI) vwCl [] U ∧ va_D (fun _ => True) [(h0, .inr (6, [.ref tp, .int ts, .int fn, .int fp, .ref rd, .ref gd, .ref im, .ref rw, .ref gn, .ref ho, .ref sq])), (gd, .inr (0, [.ref pl, .int gdl, .long gdh, .long gdw, .int gdi, .int gde, .int gdc, .ref gdt, .int gdg, .ref gdu, .int gdn, .ref gdx])), (pl, .inr (3, [.int plw, .int pld, .int plc, .int pls, .long plm, .ref plf, .ref plo, .ref plb, .ref pla]))])) (va_Qi (fun (r : Int32) (u : Unit) => True) (fun (u : Unit) (t : State) => va_P (dC, dI) vwCl [(h0, .inr (6, [.ref tp, .int ts, .int fn, .int fp, .ref rd, .ref gd, .ref im, .ref rw, .ref gn, .ref ho, .ref sq])), (gd, .inr (0, [.ref pl, .int gdl, .long gdh, .long gdw, .int gdi, .int gde, .int gdc, .ref gdt, .int gdg, .ref gdu, .int gdn, .ref gdx])), (pl, .inr (3, [.int plw, .int pld, .int plc, .int pls, .long plm, .ref plf, .ref plo, .ref plb, .ref pla]))] t.heap ∧ va_K (dC, dI) vwCl [] t ∧ va_D (va_A [(h0, .inr (6, [.ref tp, .int ts, .int fn, .int fp, .ref rd, .ref gd, .ref im, .ref rw, .ref gn, .ref ho, .ref sq])), (gd, .inr (0, [.ref pl, .int gdl, .long gdh, .long gdw, .int gdi, .int gde, .int gdc, .ref gdt, .int gdg, .ref gdu, .int gdn, .ref gdx])), (pl, .inr (3, [.int plw, .int pld, .int plc, .int pls, .long plm, .ref plf, .ref plo, .ref plb, .ref pla]))] sz) [(h0, .inr (6, [.ref tp, .int ts, .int fn, .int fp, .ref rd, .ref gd, .ref im, .ref rw, .ref gn, .ref ho, .ref sq])), (gd, .inr (0, [.ref pl, .int gdl, .long gdh, .long gdw, .int gdi, .int gde, .int gdc, .ref gdt, .int gdg, .ref gdu, .int gdn, .ref gdx])), (pl, .inr (3, [.int plw, .int pld, .int plc, .int pls, .long plm, .ref plf, .ref plo, .ref plb, .ref pla]))]) (va_A [(h0, .inr (6, [.ref tp, .int ts, .int fn, .int fp, .ref rd, .ref gd, .ref im, .ref rw, .ref gn, .ref ho, .ref sq])), (gd, .inr (0, [.ref pl, .int gdl, .long gdh, .long gdw, .int gdi, .int gde, .int gdc, .ref gdt, .int gdg, .ref gdu, .int gdn, .ref gdx])), (pl, .inr (3, [.int plw, .int pld, .int plc, .int pls, .long plm, .ref plf, .ref plo, .ref plb, .ref pla]))] sz)) 0 0 (va_A [(h0, .inr (6, [.ref tp, .int ts, .int fn, .int fp, .ref rd, .ref gd, .ref im, .ref rw, .ref gn, .ref ho, .ref sq])), (gd, .inr (0, [.ref pl, .int gdl, .long gdh, .long gdw, .int gdi, .int gde, .int gdc, .ref gdt, .int gdg, .ref gdu, .int gdn, .ref gdx])), (pl, .inr (3, [.int plw, .int pld, .int plc, .int pls, .long plm, .ref plf, .ref plo, .ref plb, .ref pla]))] sz) := by
  refine Met.ofW (cc := cX6_within) (maxL := 3) (ret := (some .int)) (by decide) rfl ?_
  intro p e s m args below meth c s₁ B hml hv
  obtain ⟨rfl, hsz, hP, hK, hD0⟩ := hv
  have hx := B.exec
  have hb := B.bytes
  have hr := B.returns
  have hts := atoms_spec (ws := wz_X6_within) B.pre
  have hown : s.vm.findClass RX6 = some m.cls := findClass_of_methodNamed B.named
  have hlocks := B.notSynchronized
  subst hsz
  have hD := hD0.self (sz := s.heap.size)
  generalize hAe : va_A [(h0, .inr (6, [.ref tp, .int ts, .int fn, .int fp, .ref rd, .ref gd, .ref im, .ref rw, .ref gn, .ref ho, .ref sq])), (gd, .inr (0, [.ref pl, .int gdl, .long gdh, .long gdw, .int gdi, .int gde, .int gdc, .ref gdt, .int gdg, .ref gdu, .int gdn, .ref gdx])), (pl, .inr (3, [.int plw, .int pld, .int plc, .int pls, .long plm, .ref plf, .ref plo, .ref plb, .ref pla]))] s.heap.size = A at hD ⊢
  have hA : ∀ q : Nat, s.heap.size ≤ q → A q := fun q h => by rw [← hAe]; exact Or.inr h
  have hS : va_S A s.heap s.heap [] := va_S.rf
  have hP : va_P (dC, dI) vwCl [(h0, .inr (6, [.ref tp, .int ts, .int fn, .int fp, .ref rd, .ref gd, .ref im, .ref rw, .ref gn, .ref ho, .ref sq])), (gd, .inr (0, [.ref pl, .int gdl, .long gdh, .long gdw, .int gdi, .int gde, .int gdc, .ref gdt, .int gdg, .ref gdu, .int gdn, .ref gdx])), (pl, .inr (3, [.int plw, .int pld, .int plc, .int pls, .long plm, .ref plf, .ref plo, .ref plb, .ref pla]))] s.heap := hP
  have hl := lv_entry ([.ref h0, .int p0, .int p1]) (n := 3) (Nat.le_of_ble_eq_true rfl)
  rw [lg_entry_eq]
  generalize (lg_sl ([.ref h0, .int p0, .int p1]) ++ List.replicate (3 - (lg_sl ([.ref h0, .int p0, .int p1])).length) Slot.unset).toArray = ls at hl ⊢
  have hl : lv_has ls 3 [(0, .ref h0), (1, .int p0), (2, .int p1)] := hl
  refine lv_aload_n hx hb dX6_within_0 rfl (lv_at hl 0 rfl) ?_
  refine lv_iload_n hx hb dX6_within_1 rfl (lv_at hl 1 rfl) ?_
  have hPc := hP.sub (ws' := [(h0, .inr (6, [.ref tp, .int ts, .int fn, .int fp, .ref rd, .ref gd, .ref im, .ref rw, .ref gn, .ref ho, .ref sq])), (gd, .inr (0, [.ref pl, .int gdl, .long gdh, .long gdw, .int gdi, .int gde, .int gdc, .ref gdt, .int gdg, .ref gdu, .int gdn, .ref gdx])), (pl, .inr (3, [.int plw, .int pld, .int plc, .int pls, .long plm, .ref plf, .ref plo, .ref plb, .ref pla]))]) [0, 1, 2] rfl
  have hDc := hD.sub (ws' := [(h0, .inr (6, [.ref tp, .int ts, .int fn, .int fp, .ref rd, .ref gd, .ref im, .ref rw, .ref gn, .ref ho, .ref sq])), (gd, .inr (0, [.ref pl, .int gdl, .long gdh, .long gdw, .int gdi, .int gde, .int gdc, .ref gdt, .int gdg, .ref gdu, .int gdn, .ref gdx])), (pl, .inr (3, [.int plw, .int pld, .int plc, .int pls, .long plm, .ref plf, .ref plo, .ref plb, .ref pla]))]) [0, 1, 2] (by decide) rfl
  have hKc := hK.sub (tys' := []) [] rfl
  have hFc := va_free (wc := [(h0, .inr (6, [.ref tp, .int ts, .int fn, .int fp, .ref rd, .ref gd, .ref im, .ref rw, .ref gn, .ref ho, .ref sq])), (gd, .inr (0, [.ref pl, .int gdl, .long gdh, .long gdw, .int gdi, .int gde, .int gdc, .ref gdt, .int gdg, .ref gdu, .int gdn, .ref gdx])), (pl, .inr (3, [.int plw, .int pld, .int plc, .int pls, .long plm, .ref plf, .ref plo, .ref plb, .ref pla]))]) hD hS hA [0, 1, 2] rfl
  refine va_calli (va_runV (As := [.int p0]) (rest := []) ⟨hx, hb, hml, hown, hts⟩ (c_X6_isCell l dC dI s.heap.size h0 tp ts fn fp rd gd im rw gn ho sq gdl gdh gdw gdi gde gdc gdt gdg gdu gdn gdx pl plw pld plc pls plm plf plo plb pla p0 ) (cwV 1 hts g_X6_within_X6_isCell rfl rfl rfl (by decide +kernel) ⟨Nat.le_of_ble_eq_true rfl, Nat.le_of_ble_eq_true rfl⟩) ⟨fun a U g mk q => by obtain ⟨q0, q1, qP, qK, qD⟩ := q; exact ⟨q0, q1, qP, va_K.moved (u := U) (U := U.calling g mk a) (Vm.Alike.refl U.vm) qK, qD⟩, va_recv hKc hPc (ci := 6) (q0 := 0) rfl rfl, fun U hU hW => ⟨rfl, by rw [hU], by rw [hU]; exact hPc, va_K.moved hW.alike hKc, hDc.weaken (fun _ _ _ _ => trivial)⟩⟩ rfl rfl hl.1 rfl (lv_room (Nat.le_of_ble_eq_true rfl)) dX6_within_2 ⟨Nat.le_of_ble_eq_true rfl, Nat.le_of_ble_eq_true rfl⟩) hS (fun q _ h => hFc q h) hFc (fun r_1 u t H1 locs ht hvm hw_2 hB hz1 hk1 hS => ?_)
  obtain ⟨hP1, hK1, hD1⟩ := hB
  have hP1 : va_P (dC, dI) vwCl [(h0, .inr (6, [.ref tp, .int ts, .int fn, .int fp, .ref rd, .ref gd, .ref im, .ref rw, .ref gn, .ref ho, .ref sq])), (gd, .inr (0, [.ref pl, .int gdl, .long gdh, .long gdw, .int gdi, .int gde, .int gdc, .ref gdt, .int gdg, .ref gdu, .int gdn, .ref gdx])), (pl, .inr (3, [.int plw, .int pld, .int plc, .int pls, .long plm, .ref plf, .ref plo, .ref plb, .ref pla]))] t.heap := hP1
  rw [ht] at hP1
  try dsimp only at hw_2
  obtain ⟨hP, hD⟩ := va_join (wr := []) (w1 := [(h0, .inr (6, [.ref tp, .int ts, .int fn, .int fp, .ref rd, .ref gd, .ref im, .ref rw, .ref gn, .ref ho, .ref sq])), (gd, .inr (0, [.ref pl, .int gdl, .long gdh, .long gdw, .int gdi, .int gde, .int gdc, .ref gdt, .int gdg, .ref gdu, .int gdn, .ref gdx])), (pl, .inr (3, [.int plw, .int pld, .int plc, .int pls, .long plm, .ref plf, .ref plo, .ref plb, .ref pla]))]) hP hD [0, 1, 2] [] rfl rfl (by decide) (by decide) hk1 hFc hP1 hD1
  generalize H1 = H at hP hS ⊢
  have hP : va_P (dC, dI) vwCl [(h0, .inr (6, [.ref tp, .int ts, .int fn, .int fp, .ref rd, .ref gd, .ref im, .ref rw, .ref gn, .ref ho, .ref sq])), (gd, .inr (0, [.ref pl, .int gdl, .long gdh, .long gdw, .int gdi, .int gde, .int gdc, .ref gdt, .int gdg, .ref gdu, .int gdn, .ref gdx])), (pl, .inr (3, [.int plw, .int pld, .int plc, .int pls, .long plm, .ref plf, .ref plo, .ref plb, .ref pla]))] H := hP
  have hD : va_D A [(h0, .inr (6, [.ref tp, .int ts, .int fn, .int fp, .ref rd, .ref gd, .ref im, .ref rw, .ref gn, .ref ho, .ref sq])), (gd, .inr (0, [.ref pl, .int gdl, .long gdh, .long gdw, .int gdi, .int gde, .int gdc, .ref gdt, .int gdg, .ref gdu, .int gdn, .ref gdx])), (pl, .inr (3, [.int plw, .int pld, .int plc, .int pls, .long plm, .ref plf, .ref plo, .ref plb, .ref pla]))] := hD
  rcases i_bool hw_2 with ⟨r_19, hC⟩ | ⟨r_19, hC⟩
  · obtain rfl : r_1 = 1 := r_19
    have hC_3 := hC
    refine lv_if_eq (tgt := 18) hx hb dX6_within_5 (by decide) (fun h => absurd h (by decide)) (fun _ => ?_)
    refine lv_iload_n hx hb dX6_within_8 rfl (lv_at hl 2 rfl) ?_
    refine lv_if_lt (tgt := 18) hx hb dX6_within_9 (by decide) (fun c_5 => ?_) (fun c_5 => ?_)
    · have c_5 : p1.toInt < 0 := i_lt (a := p1) (b := 0) rfl (by decide) c_5
      refine lv_bipush (v := -2) hx hb dX6_within_18 (by decide) ?_
      have hP9 := hP.sub (ws' := [(h0, .inr (6, [.ref tp, .int ts, .int fn, .int fp, .ref rd, .ref gd, .ref im, .ref rw, .ref gn, .ref ho, .ref sq])), (gd, .inr (0, [.ref pl, .int gdl, .long gdh, .long gdw, .int gdi, .int gde, .int gdc, .ref gdt, .int gdg, .ref gdu, .int gdn, .ref gdx])), (pl, .inr (3, [.int plw, .int pld, .int plc, .int pls, .long plm, .ref plf, .ref plo, .ref plb, .ref pla]))]) [0, 1, 2] rfl
      have hD9 := hD.sub (ws' := [(h0, .inr (6, [.ref tp, .int ts, .int fn, .int fp, .ref rd, .ref gd, .ref im, .ref rw, .ref gn, .ref ho, .ref sq])), (gd, .inr (0, [.ref pl, .int gdl, .long gdh, .long gdw, .int gdi, .int gde, .int gdc, .ref gdt, .int gdg, .ref gdu, .int gdn, .ref gdx])), (pl, .inr (3, [.int plw, .int pld, .int plc, .int pls, .long plm, .ref plf, .ref plo, .ref plb, .ref pla]))]) [0, 1, 2] (by decide) rfl
      have hK9 := hK.sub (tys' := []) [] rfl
      refine W.widen (k := 0) (n := 0) (by omega) (by omega) ?_
      exact W.iret (v := -2) hx hb hr (fun t ht hW => ⟨⟨(-2), (), rfl, trivial, by rw [ht]; exact hP9, va_K.moved hW.alike hK9, hD9⟩, hS.F ht⟩) hS.2.2 dX6_within_20
    · have c_5 : 0 ≤ p1.toInt := i_nlt (a := p1) (b := 0) rfl (by decide) c_5
      refine lv_iload_n hx hb dX6_within_12 rfl (lv_at hl 2 rfl) ?_
      refine lv_bipush (v := 99) hx hb dX6_within_13 (by decide) ?_
      refine lv_icmp_le (tgt := 21) hx hb dX6_within_15 (by decide) (fun c_6 => ?_) (fun c_6 => ?_)
      · have c_6 : p1.toInt ≤ 99 := i_le (a := p1) (b := 99) rfl (by decide) c_6
        refine lv_aload_n hx hb dX6_within_21 rfl (lv_at hl 0 rfl) ?_
        refine va_get (D := (dC, dI)) (ci := 6) (v := .ref gd) (C := RX6) (T := TX6) (N := 11) hx hb hts in_X6_within_X6 hown hK hP 0 rfl rfl 5 (by decide) (hts _ wd_X6_within_0) (fun _ h9 => h9) rfl dX6_within_22 ?_
        refine va_get (D := (dC, dI)) (ci := 0) (v := .ref pl) (C := RX0) (T := TX0) (N := 12) hx hb hts in_X6_within_X0 hown hK hP 1 rfl rfl 0 (by decide) (hts _ wd_X6_within_1) (fun _ h9 => h9) rfl dX6_within_25 ?_
        refine lv_iconst (v := 1) hx hb dX6_within_28 (by decide) ?_
        refine lv_iload_n hx hb dX6_within_29 rfl (lv_at hl 1 rfl) ?_
        refine lv_ishl hx hb dX6_within_30 ?_
        refine lv_topi (fun x_7 ex_7 => ?_)
        refine lv_aload_n hx hb dX6_within_31 rfl (lv_at hl 0 rfl) ?_
        refine va_get (D := (dC, dI)) (ci := 6) (v := .ref gd) (C := RX6) (T := TX6) (N := 11) hx hb hts in_X6_within_X6 hown hK hP 0 rfl rfl 5 (by decide) (hts _ wd_X6_within_0) (fun _ h9 => h9) rfl dX6_within_32 ?_
        have hPc := hP.sub (ws' := [(gd, .inr (0, [.ref pl, .int gdl, .long gdh, .long gdw, .int gdi, .int gde, .int gdc, .ref gdt, .int gdg, .ref gdu, .int gdn, .ref gdx])), (pl, .inr (3, [.int plw, .int pld, .int plc, .int pls, .long plm, .ref plf, .ref plo, .ref plb, .ref pla]))]) [1, 2] rfl
        have hDc := hD.sub (ws' := [(gd, .inr (0, [.ref pl, .int gdl, .long gdh, .long gdw, .int gdi, .int gde, .int gdc, .ref gdt, .int gdg, .ref gdu, .int gdn, .ref gdx])), (pl, .inr (3, [.int plw, .int pld, .int plc, .int pls, .long plm, .ref plf, .ref plo, .ref plb, .ref pla]))]) [1, 2] (by decide) rfl
        have hKc := hK.sub (tys' := []) [] rfl
        have hFc := va_free (wc := [(gd, .inr (0, [.ref pl, .int gdl, .long gdh, .long gdw, .int gdi, .int gde, .int gdc, .ref gdt, .int gdg, .ref gdu, .int gdn, .ref gdx])), (pl, .inr (3, [.int plw, .int pld, .int plc, .int pls, .long plm, .ref plf, .ref plo, .ref plb, .ref pla]))]) hD hS hA [1, 2] rfl
        refine va_calll (va_runV (As := []) (rest := [.int x_7, .ref pl]) ⟨hx, hb, hml, hown, hts⟩ (c_X0_openSides l dC dI H.size gd gdl gdh gdw gdi gde gdc gdt gdg gdu gdn gdx pl plw pld plc pls plm plf plo plb pla ) (cwV 0 hts g_X6_within_X0_openSides rfl rfl rfl (by decide +kernel) ⟨Nat.le_of_ble_eq_true rfl, Nat.le_of_ble_eq_true rfl⟩) ⟨fun a U g mk q => by obtain ⟨q0, q1, qP, qK, qD⟩ := q; exact ⟨q0, q1, qP, va_K.moved (u := U) (U := U.calling g mk a) (Vm.Alike.refl U.vm) qK, qD⟩, va_recv hKc hPc (ci := 0) (q0 := 0) rfl rfl, fun U hU hW => ⟨rfl, by rw [hU], by rw [hU]; exact hPc, va_K.moved hW.alike hKc, hDc.weaken (fun _ _ _ _ => trivial)⟩⟩ rfl rfl hl.1 rfl (lv_room (Nat.le_of_ble_eq_true rfl)) dX6_within_35 ⟨Nat.le_of_ble_eq_true rfl, Nat.le_of_ble_eq_true rfl⟩) hS (fun q _ h => hFc q h) hFc (fun r_8 u t H1 locs ht hvm hw_9 hB hz1 hk1 hS => ?_)
        obtain ⟨hP1, hK1, hD1⟩ := hB
        have hP1 : va_P (dC, dI) vwCl [(gd, .inr (0, [.ref pl, .int gdl, .long gdh, .long gdw, .int gdi, .int gde, .int gdc, .ref gdt, .int gdg, .ref gdu, .int gdn, .ref gdx])), (pl, .inr (3, [.int plw, .int pld, .int plc, .int pls, .long plm, .ref plf, .ref plo, .ref plb, .ref pla]))] t.heap := hP1
        rw [ht] at hP1
        try dsimp only at hw_9
        obtain ⟨hP, hD⟩ := va_join (wr := [(h0, .inr (6, [.ref tp, .int ts, .int fn, .int fp, .ref rd, .ref gd, .ref im, .ref rw, .ref gn, .ref ho, .ref sq]))]) (w1 := [(gd, .inr (0, [.ref pl, .int gdl, .long gdh, .long gdw, .int gdi, .int gde, .int gdc, .ref gdt, .int gdg, .ref gdu, .int gdn, .ref gdx])), (pl, .inr (3, [.int plw, .int pld, .int plc, .int pls, .long plm, .ref plf, .ref plo, .ref plb, .ref pla]))]) hP hD [1, 2] [0] rfl rfl (by decide) (by decide) hk1 hFc hP1 hD1
        generalize H1 = H at hP hS ⊢
        have hP : va_P (dC, dI) vwCl [(h0, .inr (6, [.ref tp, .int ts, .int fn, .int fp, .ref rd, .ref gd, .ref im, .ref rw, .ref gn, .ref ho, .ref sq])), (gd, .inr (0, [.ref pl, .int gdl, .long gdh, .long gdw, .int gdi, .int gde, .int gdc, .ref gdt, .int gdg, .ref gdu, .int gdn, .ref gdx])), (pl, .inr (3, [.int plw, .int pld, .int plc, .int pls, .long plm, .ref plf, .ref plo, .ref plb, .ref pla]))] H := hP
        have hD : va_D A [(h0, .inr (6, [.ref tp, .int ts, .int fn, .int fp, .ref rd, .ref gd, .ref im, .ref rw, .ref gn, .ref ho, .ref sq])), (gd, .inr (0, [.ref pl, .int gdl, .long gdh, .long gdw, .int gdi, .int gde, .int gdc, .ref gdt, .int gdg, .ref gdu, .int gdn, .ref gdx])), (pl, .inr (3, [.int plw, .int pld, .int plc, .int pls, .long plm, .ref plf, .ref plo, .ref plb, .ref pla]))] := hD
        refine lv_iload_n hx hb dX6_within_38 rfl (lv_at hl 2 rfl) ?_
        have hPc := hP.sub (ws' := [(pl, .inr (3, [.int plw, .int pld, .int plc, .int pls, .long plm, .ref plf, .ref plo, .ref plb, .ref pla]))]) [2] rfl
        have hDc := hD.sub (ws' := [(pl, .inr (3, [.int plw, .int pld, .int plc, .int pls, .long plm, .ref plf, .ref plo, .ref plb, .ref pla]))]) [2] (by decide) rfl
        have hKc := hK.sub (tys' := []) [] rfl
        have hFc := va_free (wc := [(pl, .inr (3, [.int plw, .int pld, .int plc, .int pls, .long plm, .ref plf, .ref plo, .ref plb, .ref pla]))]) hD hS hA [2] rfl
        refine va_calli (va_runV (As := [.int x_7, .long r_8, .int p1]) (rest := []) ⟨hx, hb, hml, hown, hts⟩ (c_X3_spread l dC dI H.size pl plw pld plc pls plm plf plo plb pla x_7 r_8 p1 ) (cwV 3 hts g_X6_within_X3_spread rfl rfl rfl (by decide +kernel) ⟨Nat.le_of_ble_eq_true rfl, Nat.le_of_ble_eq_true rfl⟩) ⟨fun a U g mk q => by obtain ⟨q0, q1, qP, qK, qD⟩ := q; exact ⟨q0, q1, qP, va_K.moved (u := U) (U := U.calling g mk a) (Vm.Alike.refl U.vm) qK, qD⟩, va_recv hKc hPc (ci := 3) (q0 := 0) rfl rfl, fun U hU hW => ⟨rfl, by rw [hU], by rw [hU]; exact hPc, va_K.moved hW.alike hKc, hDc.weaken (fun _ _ _ _ => trivial)⟩⟩ rfl rfl hl.1 rfl (lv_room (Nat.le_of_ble_eq_true rfl)) dX6_within_39 ⟨Nat.le_of_ble_eq_true rfl, Nat.le_of_ble_eq_true rfl⟩) hS (fun q _ h => hFc q h) hFc (fun r_10 u t H1 locs ht hvm hw_11 hB hz1 hk1 hS => ?_)
        obtain ⟨hP1, hK1, hD1⟩ := hB
        have hP1 : va_P (dC, dI) vwCl [(pl, .inr (3, [.int plw, .int pld, .int plc, .int pls, .long plm, .ref plf, .ref plo, .ref plb, .ref pla]))] t.heap := hP1
        rw [ht] at hP1
        try dsimp only at hw_11
        obtain ⟨hP, hD⟩ := va_join (wr := [(h0, .inr (6, [.ref tp, .int ts, .int fn, .int fp, .ref rd, .ref gd, .ref im, .ref rw, .ref gn, .ref ho, .ref sq])), (gd, .inr (0, [.ref pl, .int gdl, .long gdh, .long gdw, .int gdi, .int gde, .int gdc, .ref gdt, .int gdg, .ref gdu, .int gdn, .ref gdx]))]) (w1 := [(pl, .inr (3, [.int plw, .int pld, .int plc, .int pls, .long plm, .ref plf, .ref plo, .ref plb, .ref pla]))]) hP hD [2] [0, 1] rfl rfl (by decide) (by decide) hk1 hFc hP1 hD1
        generalize H1 = H at hP hS ⊢
        have hP : va_P (dC, dI) vwCl [(h0, .inr (6, [.ref tp, .int ts, .int fn, .int fp, .ref rd, .ref gd, .ref im, .ref rw, .ref gn, .ref ho, .ref sq])), (gd, .inr (0, [.ref pl, .int gdl, .long gdh, .long gdw, .int gdi, .int gde, .int gdc, .ref gdt, .int gdg, .ref gdu, .int gdn, .ref gdx])), (pl, .inr (3, [.int plw, .int pld, .int plc, .int pls, .long plm, .ref plf, .ref plo, .ref plb, .ref pla]))] H := hP
        have hD : va_D A [(h0, .inr (6, [.ref tp, .int ts, .int fn, .int fp, .ref rd, .ref gd, .ref im, .ref rw, .ref gn, .ref ho, .ref sq])), (gd, .inr (0, [.ref pl, .int gdl, .long gdh, .long gdw, .int gdi, .int gde, .int gdc, .ref gdt, .int gdg, .ref gdu, .int gdn, .ref gdx])), (pl, .inr (3, [.int plw, .int pld, .int plc, .int pls, .long plm, .ref plf, .ref plo, .ref plb, .ref pla]))] := hD
        have hPc := hP.sub (ws' := []) [] rfl
        have hDc := hD.sub (ws' := []) [] (by decide) rfl
        have hKc := hK.sub (tys' := []) [] rfl
        have hFc := va_free (wc := []) hD hS hA [] rfl
        refine va_calli (va_runS (As := [.int r_10]) (rest := []) ⟨hx, hb, hml, hown, hts⟩ (c_J6_bitCount_0f7a4 l dC dI H.size r_10 ) (va_cwS 1 hts g_X6_within_J6_bitCount_0f7a4 rfl rfl rfl (by decide +kernel) ⟨Nat.le_of_ble_eq_true rfl, Nat.le_of_ble_eq_true rfl⟩) ⟨fun a U g mk q => by obtain ⟨q0, q1, qP, qK, qD⟩ := q; exact ⟨q0, q1, qP, va_K.moved (u := U) (U := U.calling g mk a) (Vm.Alike.refl U.vm) qK, qD⟩, fun U hU hW => ⟨rfl, by rw [hU], by rw [hU]; exact hPc, va_K.moved hW.alike hKc, hDc.weaken (fun _ _ _ _ => trivial)⟩⟩ rfl rfl hl.1 rfl (lv_room (Nat.le_of_ble_eq_true rfl)) dX6_within_42 ⟨Nat.le_of_ble_eq_true rfl, Nat.le_of_ble_eq_true rfl⟩) hS (fun q _ h => hFc q h) hFc (fun r_12 u t H1 locs ht hvm hw_13 hB hz1 hk1 hS => ?_)
        have hP1 : va_P (dC, dI) vwCl [] H1 := i_nilP
        have hD1 : va_D (va_A [] H.size) [] := i_nilD
        try dsimp only at hw_13
        obtain ⟨hP, hD⟩ := va_join (wr := [(h0, .inr (6, [.ref tp, .int ts, .int fn, .int fp, .ref rd, .ref gd, .ref im, .ref rw, .ref gn, .ref ho, .ref sq])), (gd, .inr (0, [.ref pl, .int gdl, .long gdh, .long gdw, .int gdi, .int gde, .int gdc, .ref gdt, .int gdg, .ref gdu, .int gdn, .ref gdx])), (pl, .inr (3, [.int plw, .int pld, .int plc, .int pls, .long plm, .ref plf, .ref plo, .ref plb, .ref pla]))]) (w1 := []) hP hD [] [0, 1, 2] rfl rfl (by decide) (by decide) hk1 hFc hP1 hD1
        generalize H1 = H at hP hS ⊢
        have hP : va_P (dC, dI) vwCl [(h0, .inr (6, [.ref tp, .int ts, .int fn, .int fp, .ref rd, .ref gd, .ref im, .ref rw, .ref gn, .ref ho, .ref sq])), (gd, .inr (0, [.ref pl, .int gdl, .long gdh, .long gdw, .int gdi, .int gde, .int gdc, .ref gdt, .int gdg, .ref gdu, .int gdn, .ref gdx])), (pl, .inr (3, [.int plw, .int pld, .int plc, .int pls, .long plm, .ref plf, .ref plo, .ref plb, .ref pla]))] H := hP
        have hD : va_D A [(h0, .inr (6, [.ref tp, .int ts, .int fn, .int fp, .ref rd, .ref gd, .ref im, .ref rw, .ref gn, .ref ho, .ref sq])), (gd, .inr (0, [.ref pl, .int gdl, .long gdh, .long gdw, .int gdi, .int gde, .int gdc, .ref gdt, .int gdg, .ref gdu, .int gdn, .ref gdx])), (pl, .inr (3, [.int plw, .int pld, .int plc, .int pls, .long plm, .ref plf, .ref plo, .ref plb, .ref pla]))] := hD
        have hP9 := hP.sub (ws' := [(h0, .inr (6, [.ref tp, .int ts, .int fn, .int fp, .ref rd, .ref gd, .ref im, .ref rw, .ref gn, .ref ho, .ref sq])), (gd, .inr (0, [.ref pl, .int gdl, .long gdh, .long gdw, .int gdi, .int gde, .int gdc, .ref gdt, .int gdg, .ref gdu, .int gdn, .ref gdx])), (pl, .inr (3, [.int plw, .int pld, .int plc, .int pls, .long plm, .ref plf, .ref plo, .ref plb, .ref pla]))]) [0, 1, 2] rfl
        have hD9 := hD.sub (ws' := [(h0, .inr (6, [.ref tp, .int ts, .int fn, .int fp, .ref rd, .ref gd, .ref im, .ref rw, .ref gn, .ref ho, .ref sq])), (gd, .inr (0, [.ref pl, .int gdl, .long gdh, .long gdw, .int gdi, .int gde, .int gdc, .ref gdt, .int gdg, .ref gdu, .int gdn, .ref gdx])), (pl, .inr (3, [.int plw, .int pld, .int plc, .int pls, .long plm, .ref plf, .ref plo, .ref plb, .ref pla]))]) [0, 1, 2] (by decide) rfl
        have hK9 := hK.sub (tys' := []) [] rfl
        refine W.widen (k := 0) (n := 0) (by omega) (by omega) ?_
        exact W.iret (v := r_12) hx hb hr (fun t ht hW => ⟨⟨r_12, (), rfl, trivial, by rw [ht]; exact hP9, va_K.moved hW.alike hK9, hD9⟩, hS.F ht⟩) hS.2.2 dX6_within_45
      · have c_6 : 99 < p1.toInt := i_nle (a := p1) (b := 99) rfl (by decide) c_6
        refine lv_bipush (v := -2) hx hb dX6_within_18 (by decide) ?_
        have hP9 := hP.sub (ws' := [(h0, .inr (6, [.ref tp, .int ts, .int fn, .int fp, .ref rd, .ref gd, .ref im, .ref rw, .ref gn, .ref ho, .ref sq])), (gd, .inr (0, [.ref pl, .int gdl, .long gdh, .long gdw, .int gdi, .int gde, .int gdc, .ref gdt, .int gdg, .ref gdu, .int gdn, .ref gdx])), (pl, .inr (3, [.int plw, .int pld, .int plc, .int pls, .long plm, .ref plf, .ref plo, .ref plb, .ref pla]))]) [0, 1, 2] rfl
        have hD9 := hD.sub (ws' := [(h0, .inr (6, [.ref tp, .int ts, .int fn, .int fp, .ref rd, .ref gd, .ref im, .ref rw, .ref gn, .ref ho, .ref sq])), (gd, .inr (0, [.ref pl, .int gdl, .long gdh, .long gdw, .int gdi, .int gde, .int gdc, .ref gdt, .int gdg, .ref gdu, .int gdn, .ref gdx])), (pl, .inr (3, [.int plw, .int pld, .int plc, .int pls, .long plm, .ref plf, .ref plo, .ref plb, .ref pla]))]) [0, 1, 2] (by decide) rfl
        have hK9 := hK.sub (tys' := []) [] rfl
        refine W.widen (k := 0) (n := 0) (by omega) (by omega) ?_
        exact W.iret (v := -2) hx hb hr (fun t ht hW => ⟨⟨(-2), (), rfl, trivial, by rw [ht]; exact hP9, va_K.moved hW.alike hK9, hD9⟩, hS.F ht⟩) hS.2.2 dX6_within_20
  · obtain rfl : r_1 = 0 := r_19
    have hC_14 := hC
    refine lv_if_eq (tgt := 18) hx hb dX6_within_5 (by decide) (fun _ => ?_) (fun h => absurd (by decide) h)
    refine lv_bipush (v := -2) hx hb dX6_within_18 (by decide) ?_
    have hP9 := hP.sub (ws' := [(h0, .inr (6, [.ref tp, .int ts, .int fn, .int fp, .ref rd, .ref gd, .ref im, .ref rw, .ref gn, .ref ho, .ref sq])), (gd, .inr (0, [.ref pl, .int gdl, .long gdh, .long gdw, .int gdi, .int gde, .int gdc, .ref gdt, .int gdg, .ref gdu, .int gdn, .ref gdx])), (pl, .inr (3, [.int plw, .int pld, .int plc, .int pls, .long plm, .ref plf, .ref plo, .ref plb, .ref pla]))]) [0, 1, 2] rfl
    have hD9 := hD.sub (ws' := [(h0, .inr (6, [.ref tp, .int ts, .int fn, .int fp, .ref rd, .ref gd, .ref im, .ref rw, .ref gn, .ref ho, .ref sq])), (gd, .inr (0, [.ref pl, .int gdl, .long gdh, .long gdw, .int gdi, .int gde, .int gdc, .ref gdt, .int gdg, .ref gdu, .int gdn, .ref gdx])), (pl, .inr (3, [.int plw, .int pld, .int plc, .int pls, .long plm, .ref plf, .ref plo, .ref plb, .ref pla]))]) [0, 1, 2] (by decide) rfl
    have hK9 := hK.sub (tys' := []) [] rfl
    refine W.widen (k := 0) (n := 0) (by omega) (by omega) ?_
    exact W.iret (v := -2) hx hb hr (fun t ht hW => ⟨⟨(-2), (), rfl, trivial, by rw [ht]; exact hP9, va_K.moved hW.alike hK9, hD9⟩, hS.F ht⟩) hS.2.2 dX6_within_20

theorem dX6_shape_0 : decode cX6_shape 0 = .ok (.aload_n 0, 1) := by decide +kernel
theorem dX6_shape_1 : decode cX6_shape 1 = .ok (.invokevirtual 86, 3) := by decide +kernel
theorem dX6_shape_4 : decode cX6_shape 4 = .ok (.ifCond .ne 6, 3) := by decide +kernel
theorem dX6_shape_7 : decode cX6_shape 7 = .ok (.bipush (-2), 2) := by decide +kernel
theorem dX6_shape_9 : decode cX6_shape 9 = .ok (.ireturn, 1) := by decide +kernel
theorem dX6_shape_10 : decode cX6_shape 10 = .ok (.aload_n 0, 1) := by decide +kernel
theorem dX6_shape_11 : decode cX6_shape 11 = .ok (.getfield 33, 3) := by decide +kernel
theorem dX6_shape_14 : decode cX6_shape 14 = .ok (.invokevirtual 128, 3) := by decide +kernel
theorem dX6_shape_17 : decode cX6_shape 17 = .ok (.lstore_n 2, 1) := by decide +kernel
theorem dX6_shape_18 : decode cX6_shape 18 = .ok (.iload_n 1, 1) := by decide +kernel
theorem dX6_shape_19 : decode cX6_shape 19 = .ok (.tableswitch 76 0 3 #[29, 41, 59, 71], 29) := by decide +kernel
theorem dX6_shape_48 : decode cX6_shape 48 = .ok (.aload_n 0, 1) := by decide +kernel
theorem dX6_shape_49 : decode cX6_shape 49 = .ok (.getfield 33, 3) := by decide +kernel
theorem dX6_shape_52 : decode cX6_shape 52 = .ok (.getfield 90, 3) := by decide +kernel
theorem dX6_shape_55 : decode cX6_shape 55 = .ok (.lload_n 2, 1) := by decide +kernel
theorem dX6_shape_56 : decode cX6_shape 56 = .ok (.invokevirtual 161, 3) := by decide +kernel
theorem dX6_shape_59 : decode cX6_shape 59 = .ok (.ireturn, 1) := by decide +kernel
theorem dX6_shape_60 : decode cX6_shape 60 = .ok (.lload_n 2, 1) := by decide +kernel
theorem dX6_shape_61 : decode cX6_shape 61 = .ok (.invokestatic 165, 3) := by decide +kernel
theorem dX6_shape_64 : decode cX6_shape 64 = .ok (.aload_n 0, 1) := by decide +kernel
theorem dX6_shape_65 : decode cX6_shape 65 = .ok (.getfield 33, 3) := by decide +kernel
theorem dX6_shape_68 : decode cX6_shape 68 = .ok (.getfield 90, 3) := by decide +kernel
theorem dX6_shape_71 : decode cX6_shape 71 = .ok (.getfield 169, 3) := by decide +kernel
theorem dX6_shape_74 : decode cX6_shape 74 = .ok (.iconst 1, 1) := by decide +kernel
theorem dX6_shape_75 : decode cX6_shape 75 = .ok (.isub, 1) := by decide +kernel
theorem dX6_shape_76 : decode cX6_shape 76 = .ok (.isub, 1) := by decide +kernel
theorem dX6_shape_77 : decode cX6_shape 77 = .ok (.ireturn, 1) := by decide +kernel
theorem dX6_shape_78 : decode cX6_shape 78 = .ok (.aload_n 0, 1) := by decide +kernel
theorem dX6_shape_79 : decode cX6_shape 79 = .ok (.getfield 33, 3) := by decide +kernel
theorem dX6_shape_82 : decode cX6_shape 82 = .ok (.getfield 90, 3) := by decide +kernel
theorem dX6_shape_85 : decode cX6_shape 85 = .ok (.lload_n 2, 1) := by decide +kernel
theorem dX6_shape_86 : decode cX6_shape 86 = .ok (.invokevirtual 172, 3) := by decide +kernel
theorem dX6_shape_89 : decode cX6_shape 89 = .ok (.ireturn, 1) := by decide +kernel
theorem dX6_shape_90 : decode cX6_shape 90 = .ok (.lload_n 2, 1) := by decide +kernel
theorem dX6_shape_91 : decode cX6_shape 91 = .ok (.invokestatic 165, 3) := by decide +kernel
theorem dX6_shape_94 : decode cX6_shape 94 = .ok (.ireturn, 1) := by decide +kernel
theorem dX6_shape_95 : decode cX6_shape 95 = .ok (.bipush (-2), 2) := by decide +kernel
theorem dX6_shape_97 : decode cX6_shape 97 = .ok (.ireturn, 1) := by decide +kernel
def wz_X6_shape : List Cond := .code yX6_shape cX6_shape 4 (some .int) :: ([Cond.fieldLink RX6 33 "HedgeMaze" "garden" "LHedgeMaze$Garden;", Cond.fieldLink RX6 90 "HedgeMaze$Garden" "plan" "LHedgeMaze$Plan;", Cond.fieldLink RX6 169 "HedgeMaze$Plan" "cellCount" "I", Cond.methodLink RX6 86 yX6_hasMaze, Cond.instanceMethod yX6_hasMaze, Cond.selects RX6 yX6_hasMaze yX6_hasMaze, Cond.initialized RX6, Cond.code yX6_hasMaze cX6_hasMaze 1 (some .boolean), Cond.fieldLink RX6 83 "HedgeMaze$Garden" "lines" "I", Cond.methodLink RX6 128 yX0_openSides, Cond.instanceMethod yX0_openSides, Cond.selects RX0 yX0_openSides yX0_openSides, Cond.initialized RX0, Cond.code yX0_openSides cX0_openSides 1 (some .long), Cond.fieldLink RX0 22 "HedgeMaze$Garden" "hedges" "J", Cond.methodLink RX0 71 yX0_openWith, Cond.instanceMethod yX0_openWith, Cond.selects RX0 yX0_openWith yX0_openWith, Cond.code yX0_openWith cX0_openWith 3 (some .long), Cond.fieldLink RX0 12 "HedgeMaze$Garden" "plan" "LHedgeMaze$Plan;", Cond.fieldLink RX0 75 "HedgeMaze$Plan" "allSides" "J", Cond.fieldLink RX0 26 "HedgeMaze$Garden" "walls" "J", Cond.constantLong RX0 78 (-1), Cond.methodLink RX6 161 yX3_countDeadEnds, Cond.instanceMethod yX3_countDeadEnds, Cond.selects RX3 yX3_countDeadEnds yX3_countDeadEnds, Cond.initialized RX3, Cond.code yX3_countDeadEnds cX3_countDeadEnds 7 (some .int), Cond.fieldLink RX3 18 "HedgeMaze$Plan" "cellCount" "I", Cond.methodLink RX3 62 yX3_sideAt, Cond.instanceMethod yX3_sideAt, Cond.selects RX3 yX3_sideAt yX3_sideAt, Cond.code yX3_sideAt cX3_sideAt 4 (some .int), Cond.fieldLink RX3 39 "HedgeMaze$Plan" "around" "[I", Cond.methodLink RX3 67 yX3_has, Cond.instanceMethod yX3_has, Cond.selects RX3 yX3_has yX3_has, Cond.code yX3_has cX3_has 4 (some .boolean), Cond.methodLink RX3 58 yX3_bitOf, Cond.instanceMethod yX3_bitOf, Cond.selects RX3 yX3_bitOf yX3_bitOf, Cond.code yX3_bitOf cX3_bitOf 3 (some .long), Cond.fieldLink RX3 21 "HedgeMaze$Plan" "sideCount" "I", Cond.fieldLink RX3 35 "HedgeMaze$Plan" "bits" "[J", Cond.methodLink RX6 165 yJ13_bitCount_95d88, Cond.static yJ13_bitCount_95d88, Cond.initialized RJ13, Cond.code yJ13_bitCount_95d88 cJ13_bitCount_95d88 2 (some .int), Cond.constantLong RJ13 314 (6148914691236517205), Cond.constantLong RJ13 316 (3689348814741910323), Cond.constantLong RJ13 318 (1085102592571150095), Cond.methodLink RX6 172 yX3_mostSteps, Cond.instanceMethod yX3_mostSteps, Cond.selects RX3 yX3_mostSteps yX3_mostSteps, Cond.code yX3_mostSteps cX3_mostSteps 6 (some .int), Cond.methodLink RX3 90 Lib.Math.max.name, Cond.static Lib.Math.max.name, Cond.initialized "java/lang/Math", Cond.code Lib.Math.max.name Lib.Math.max.code 2 (some .int), Cond.methodLink RX3 86 yX3_stepsBetween, Cond.instanceMethod yX3_stepsBetween, Cond.selects RX3 yX3_stepsBetween yX3_stepsBetween, Cond.code yX3_stepsBetween cX3_stepsBetween 8 (some .int), Cond.methodLink RX3 71 yX3_grow, Cond.instanceMethod yX3_grow, Cond.selects RX3 yX3_grow yX3_grow, Cond.code yX3_grow cX3_grow 6 (some .int), Cond.fieldLink RX3 9 "HedgeMaze$Plan" "wide" "I"] ++ wsX60 ++ wsX00 ++ wsX30)
theorem wd_X6_shape_0 : Cond.fieldLink RX6 33 "HedgeMaze" "garden" "LHedgeMaze$Garden;" ∈ wz_X6_shape := List.mem_of_getElem? (i := 1) rfl
theorem wd_X6_shape_1 : Cond.fieldLink RX6 90 "HedgeMaze$Garden" "plan" "LHedgeMaze$Plan;" ∈ wz_X6_shape := List.mem_of_getElem? (i := 2) rfl
theorem wd_X6_shape_2 : Cond.fieldLink RX6 169 "HedgeMaze$Plan" "cellCount" "I" ∈ wz_X6_shape := List.mem_of_getElem? (i := 3) rfl
theorem in_X6_shape_X6 : ∀ w ∈ wsX60, w ∈ wz_X6_shape := fun _ h => List.mem_cons_of_mem _ (List.mem_append_left _ (List.mem_append_left _ (List.mem_append_right _ h)))
theorem in_X6_shape_X0 : ∀ w ∈ wsX00, w ∈ wz_X6_shape := fun _ h => List.mem_cons_of_mem _ (List.mem_append_left _ (List.mem_append_right _ h))
theorem in_X6_shape_X3 : ∀ w ∈ wsX30, w ∈ wz_X6_shape := fun _ h => List.mem_cons_of_mem _ (List.mem_append_right _ h)
set_option maxRecDepth 20000 in
theorem g_X6_shape_X6_hasMaze : GoodIn wz_X6_shape (wsV RX6 86 RX6 yX6_hasMaze wz_X6_hasMaze) := goodIn_r _ [4, 5, 6, 7, 8, 1, 9, 69, 70, 71, 72, 73, 74, 75, 76, 77, 78, 79, 80, 81, 82, 83, 84, 85, 86, 87, 88, 89, 90, 91] rfl (by decide +kernel)
set_option maxRecDepth 20000 in
theorem g_X6_shape_X0_openSides : GoodIn wz_X6_shape (wsV RX6 128 RX0 yX0_openSides wz_X0_openSides) := goodIn_r _ [10, 11, 12, 13, 14, 15, 16, 17, 18, 13, 19, 20, 21, 22, 23, 80, 81, 82, 83, 84, 85, 86, 87, 88, 89, 90, 91, 92, 93, 94, 95, 96, 97, 98, 99, 100] rfl (by decide +kernel)
set_option maxRecDepth 20000 in
theorem g_X6_shape_X3_countDeadEnds : GoodIn wz_X6_shape (wsV RX6 161 RX3 yX3_countDeadEnds wz_X3_countDeadEnds) := goodIn_r _ [24, 25, 26, 27, 28, 29, 30, 31, 32, 27, 33, 34, 35, 36, 37, 38, 39, 40, 41, 42, 43, 44, 92, 93, 94, 95, 96, 97, 98, 99, 100] rfl (by decide +kernel)
set_option maxRecDepth 20000 in
theorem g_X6_shape_J13_bitCount_95d88 : GoodIn wz_X6_shape (va_wsS RX6 165 yJ13_bitCount_95d88 wz_J13_bitCount_95d88) := goodIn_r _ [45, 46, 47, 48, 49, 50, 51] rfl (by decide +kernel)
set_option maxRecDepth 20000 in
theorem g_X6_shape_X3_mostSteps : GoodIn wz_X6_shape (wsV RX6 172 RX3 yX3_mostSteps wz_X3_mostSteps) := goodIn_r _ [52, 53, 54, 27, 55, 29, 56, 57, 58, 59, 60, 61, 62, 27, 63, 64, 65, 66, 67, 68, 92, 93, 94, 95, 96, 97, 98, 99, 100] rfl (by decide +kernel)
set_option maxHeartbeats 4000000 in
set_option maxRecDepth 100000 in
theorem c_X6_shape (l : Launch) (dC : Nat → ClassId) (dI : Nat → Nat → Nat) (sz : Nat) (h0 : Nat) (tp : Nat) (ts : Int32) (fn : Int32) (fp : Int32) (rd : Nat) (gd : Nat) (im : Nat) (rw : Nat) (gn : Nat) (ho : Nat) (sq : Nat) (gdl : Int32) (gdh : Int64) (gdw : Int64) (gdi : Int32) (gde : Int32) (gdc : Int32) (gdt : Nat) (gdg : Int32) (gdu : Nat) (gdn : Int32) (gdx : Nat) (pl : Nat) (plw : Int32) (pld : Int32) (plc : Int32) (pls : Int32) (plm : Int64) (plf : Nat) (plo : Nat) (plb : Nat) (pla : Nat) (plkb : ClassId) (plB : Nat → Int64) (plka : ClassId) (plA : Nat → Int32) (p0 : Int32) (h_pls : 0 ≤ pls.toInt ∧ pls.toInt ≤ 40) (h_plc : 0 ≤ plc.toInt ∧ plc.toInt ≤ 25) : Met l yX6_shape wz_X6_shape ({ frames := 3, cells := 0, slots := 0, locals := 77 }) (va_Pc [.ref h0, .int p0] (fun U => U.heap.size = sz ∧ va_P (dC, dI) vwCl [(h0, .inr (6, [.ref tp, .int ts, .int fn, .int fp, .ref rd, .ref gd, .ref im, .ref rw, .ref gn, .ref ho, .ref sq])), (gd, .inr (0, [.ref pl, .int gdl, .long gdh, .long gdw, .int gdi, .int gde, .int gdc, .ref gdt, .int gdg, .ref gdu, .int gdn, .ref gdx])), (pl, .inr (3, [.int plw, .int pld, .int plc, .int pls, .long plm, .ref plf, .ref plo, .ref plb, .ref pla])), (plb, .inl (plkb, 40, .inr (.inl plB))), (pla, .inl (plka, 100, .inl plA))] U.heap ∧ va_K (dC, dI) vwCl [(plkb, .long), (plka, .int)] U ∧ va_D (fun _ => True) [(h0, .inr (6, [.ref tp, .int ts, .int fn, .int fp, .ref rd, .ref gd, .ref im, .ref rw, .ref gn, .ref ho, .ref sq])), (gd, .inr (0, [.ref pl, .int gdl, .long gdh, .long gdw, .int gdi, .int gde, .int gdc, .ref gdt, .int gdg, .ref gdu, .int gdn, .ref gdx])), (pl, .inr (3, [.int plw, .int pld, .int plc, .int pls, .long plm, .ref plf, .ref plo, .ref plb, .ref pla])), (plb, .inl (plkb, 40, .inr (.inl plB))), (pla, .inl (plka, 100, .inl plA))])) (va_Qi (fun (r : Int32) (u : Unit) => True) (fun (u : Unit) (t : State) => va_P (dC, dI) vwCl [(h0, .inr (6, [.ref tp, .int ts, .int fn, .int fp, .ref rd, .ref gd, .ref im, .ref rw, .ref gn, .ref ho, .ref sq])), (gd, .inr (0, [.ref pl, .int gdl, .long gdh, .long gdw, .int gdi, .int gde, .int gdc, .ref gdt, .int gdg, .ref gdu, .int gdn, .ref gdx])), (pl, .inr (3, [.int plw, .int pld, .int plc, .int pls, .long plm, .ref plf, .ref plo, .ref plb, .ref pla])), (plb, .inl (plkb, 40, .inr (.inl plB))), (pla, .inl (plka, 100, .inl plA))] t.heap ∧ va_K (dC, dI) vwCl [] t ∧ va_D (va_A [(h0, .inr (6, [.ref tp, .int ts, .int fn, .int fp, .ref rd, .ref gd, .ref im, .ref rw, .ref gn, .ref ho, .ref sq])), (gd, .inr (0, [.ref pl, .int gdl, .long gdh, .long gdw, .int gdi, .int gde, .int gdc, .ref gdt, .int gdg, .ref gdu, .int gdn, .ref gdx])), (pl, .inr (3, [.int plw, .int pld, .int plc, .int pls, .long plm, .ref plf, .ref plo, .ref plb, .ref pla])), (plb, .inl (plkb, 40, .inr (.inl plB))), (pla, .inl (plka, 100, .inl plA))] sz) [(h0, .inr (6, [.ref tp, .int ts, .int fn, .int fp, .ref rd, .ref gd, .ref im, .ref rw, .ref gn, .ref ho, .ref sq])), (gd, .inr (0, [.ref pl, .int gdl, .long gdh, .long gdw, .int gdi, .int gde, .int gdc, .ref gdt, .int gdg, .ref gdu, .int gdn, .ref gdx])), (pl, .inr (3, [.int plw, .int pld, .int plc, .int pls, .long plm, .ref plf, .ref plo, .ref plb, .ref pla])), (plb, .inl (plkb, 40, .inr (.inl plB))), (pla, .inl (plka, 100, .inl plA))]) (va_A [(h0, .inr (6, [.ref tp, .int ts, .int fn, .int fp, .ref rd, .ref gd, .ref im, .ref rw, .ref gn, .ref ho, .ref sq])), (gd, .inr (0, [.ref pl, .int gdl, .long gdh, .long gdw, .int gdi, .int gde, .int gdc, .ref gdt, .int gdg, .ref gdu, .int gdn, .ref gdx])), (pl, .inr (3, [.int plw, .int pld, .int plc, .int pls, .long plm, .ref plf, .ref plo, .ref plb, .ref pla])), (plb, .inl (plkb, 40, .inr (.inl plB))), (pla, .inl (plka, 100, .inl plA))] sz)) 0 0 (va_A [(h0, .inr (6, [.ref tp, .int ts, .int fn, .int fp, .ref rd, .ref gd, .ref im, .ref rw, .ref gn, .ref ho, .ref sq])), (gd, .inr (0, [.ref pl, .int gdl, .long gdh, .long gdw, .int gdi, .int gde, .int gdc, .ref gdt, .int gdg, .ref gdu, .int gdn, .ref gdx])), (pl, .inr (3, [.int plw, .int pld, .int plc, .int pls, .long plm, .ref plf, .ref plo, .ref plb, .ref pla])), (plb, .inl (plkb, 40, .inr (.inl plB))), (pla, .inl (plka, 100, .inl plA))] sz) := by
  refine Met.ofW (cc := cX6_shape) (maxL := 4) (ret := (some .int)) (by decide) rfl ?_
  intro p e s m args below meth c s₁ B hml hv
  obtain ⟨rfl, hsz, hP, hK, hD0⟩ := hv
  have hx := B.exec
  have hb := B.bytes
  have hr := B.returns
  have hts := atoms_spec (ws := wz_X6_shape) B.pre
  have hown : s.vm.findClass RX6 = some m.cls := findClass_of_methodNamed B.named
  have hlocks := B.notSynchronized
  subst hsz
  have hD := hD0.self (sz := s.heap.size)
  generalize hAe : va_A [(h0, .inr (6, [.ref tp, .int ts, .int fn, .int fp, .ref rd, .ref gd, .ref im, .ref rw, .ref gn, .ref ho, .ref sq])), (gd, .inr (0, [.ref pl, .int gdl, .long gdh, .long gdw, .int gdi, .int gde, .int gdc, .ref gdt, .int gdg, .ref gdu, .int gdn, .ref gdx])), (pl, .inr (3, [.int plw, .int pld, .int plc, .int pls, .long plm, .ref plf, .ref plo, .ref plb, .ref pla])), (plb, .inl (plkb, 40, .inr (.inl plB))), (pla, .inl (plka, 100, .inl plA))] s.heap.size = A at hD ⊢
  have hA : ∀ q : Nat, s.heap.size ≤ q → A q := fun q h => by rw [← hAe]; exact Or.inr h
  have hS : va_S A s.heap s.heap [] := va_S.rf
  have hP : va_P (dC, dI) vwCl [(h0, .inr (6, [.ref tp, .int ts, .int fn, .int fp, .ref rd, .ref gd, .ref im, .ref rw, .ref gn, .ref ho, .ref sq])), (gd, .inr (0, [.ref pl, .int gdl, .long gdh, .long gdw, .int gdi, .int gde, .int gdc, .ref gdt, .int gdg, .ref gdu, .int gdn, .ref gdx])), (pl, .inr (3, [.int plw, .int pld, .int plc, .int pls, .long plm, .ref plf, .ref plo, .ref plb, .ref pla])), (plb, .inl (plkb, 40, .inr (.inl plB))), (pla, .inl (plka, 100, .inl plA))] s.heap := hP
  have hl := lv_entry ([.ref h0, .int p0]) (n := 4) (Nat.le_of_ble_eq_true rfl)
  rw [lg_entry_eq]
  generalize (lg_sl ([.ref h0, .int p0]) ++ List.replicate (4 - (lg_sl ([.ref h0, .int p0])).length) Slot.unset).toArray = ls at hl ⊢
  have hl : lv_has ls 4 [(0, .ref h0), (1, .int p0)] := hl
  refine lv_aload_n hx hb dX6_shape_0 rfl (lv_at hl 0 rfl) ?_
  have hPc := hP.sub (ws' := [(h0, .inr (6, [.ref tp, .int ts, .int fn, .int fp, .ref rd, .ref gd, .ref im, .ref rw, .ref gn, .ref ho, .ref sq])), (gd, .inr (0, [.ref pl, .int gdl, .long gdh, .long gdw, .int gdi, .int gde, .int gdc, .ref gdt, .int gdg, .ref gdu, .int gdn, .ref gdx]))]) [0, 1] rfl
  have hDc := hD.sub (ws' := [(h0, .inr (6, [.ref tp, .int ts, .int fn, .int fp, .ref rd, .ref gd, .ref im, .ref rw, .ref gn, .ref ho, .ref sq])), (gd, .inr (0, [.ref pl, .int gdl, .long gdh, .long gdw, .int gdi, .int gde, .int gdc, .ref gdt, .int gdg, .ref gdu, .int gdn, .ref gdx]))]) [0, 1] (by decide) rfl
  have hKc := hK.sub (tys' := []) [] rfl
  have hFc := va_free (wc := [(h0, .inr (6, [.ref tp, .int ts, .int fn, .int fp, .ref rd, .ref gd, .ref im, .ref rw, .ref gn, .ref ho, .ref sq])), (gd, .inr (0, [.ref pl, .int gdl, .long gdh, .long gdw, .int gdi, .int gde, .int gdc, .ref gdt, .int gdg, .ref gdu, .int gdn, .ref gdx]))]) hD hS hA [0, 1] rfl
  refine va_calli (va_runV (As := []) (rest := []) ⟨hx, hb, hml, hown, hts⟩ (c_X6_hasMaze l dC dI s.heap.size h0 tp ts fn fp rd gd im rw gn ho sq gdl gdh gdw gdi gde gdc gdt gdg gdu gdn gdx pl ) (cwV 0 hts g_X6_shape_X6_hasMaze rfl rfl rfl (by decide +kernel) ⟨Nat.le_of_ble_eq_true rfl, Nat.le_of_ble_eq_true rfl⟩) ⟨fun a U g mk q => by obtain ⟨q0, q1, qP, qK, qD⟩ := q; exact ⟨q0, q1, qP, va_K.moved (u := U) (U := U.calling g mk a) (Vm.Alike.refl U.vm) qK, qD⟩, va_recv hKc hPc (ci := 6) (q0 := 0) rfl rfl, fun U hU hW => ⟨rfl, by rw [hU], by rw [hU]; exact hPc, va_K.moved hW.alike hKc, hDc.weaken (fun _ _ _ _ => trivial)⟩⟩ rfl rfl hl.1 rfl (lv_room (Nat.le_of_ble_eq_true rfl)) dX6_shape_1 ⟨Nat.le_of_ble_eq_true rfl, Nat.le_of_ble_eq_true rfl⟩) hS (fun q _ h => hFc q h) hFc (fun r_1 u t H1 locs ht hvm hw_2 hB hz1 hk1 hS => ?_)
  obtain ⟨hP1, hK1, hD1⟩ := hB
  have hP1 : va_P (dC, dI) vwCl [(h0, .inr (6, [.ref tp, .int ts, .int fn, .int fp, .ref rd, .ref gd, .ref im, .ref rw, .ref gn, .ref ho, .ref sq])), (gd, .inr (0, [.ref pl, .int gdl, .long gdh, .long gdw, .int gdi, .int gde, .int gdc, .ref gdt, .int gdg, .ref gdu, .int gdn, .ref gdx]))] t.heap := hP1
  rw [ht] at hP1
  try dsimp only at hw_2
  obtain ⟨hP, hD⟩ := va_join (wr := [(pl, .inr (3, [.int plw, .int pld, .int plc, .int pls, .long plm, .ref plf, .ref plo, .ref plb, .ref pla])), (plb, .inl (plkb, 40, .inr (.inl plB))), (pla, .inl (plka, 100, .inl plA))]) (w1 := [(h0, .inr (6, [.ref tp, .int ts, .int fn, .int fp, .ref rd, .ref gd, .ref im, .ref rw, .ref gn, .ref ho, .ref sq])), (gd, .inr (0, [.ref pl, .int gdl, .long gdh, .long gdw, .int gdi, .int gde, .int gdc, .ref gdt, .int gdg, .ref gdu, .int gdn, .ref gdx]))]) hP hD [0, 1] [2, 3, 4] rfl rfl (by decide) (by decide) hk1 hFc hP1 hD1
  generalize H1 = H at hP hS ⊢
  have hP : va_P (dC, dI) vwCl [(pl, .inr (3, [.int plw, .int pld, .int plc, .int pls, .long plm, .ref plf, .ref plo, .ref plb, .ref pla])), (plb, .inl (plkb, 40, .inr (.inl plB))), (pla, .inl (plka, 100, .inl plA)), (h0, .inr (6, [.ref tp, .int ts, .int fn, .int fp, .ref rd, .ref gd, .ref im, .ref rw, .ref gn, .ref ho, .ref sq])), (gd, .inr (0, [.ref pl, .int gdl, .long gdh, .long gdw, .int gdi, .int gde, .int gdc, .ref gdt, .int gdg, .ref gdu, .int gdn, .ref gdx]))] H := hP
  have hD : va_D A [(pl, .inr (3, [.int plw, .int pld, .int plc, .int pls, .long plm, .ref plf, .ref plo, .ref plb, .ref pla])), (plb, .inl (plkb, 40, .inr (.inl plB))), (pla, .inl (plka, 100, .inl plA)), (h0, .inr (6, [.ref tp, .int ts, .int fn, .int fp, .ref rd, .ref gd, .ref im, .ref rw, .ref gn, .ref ho, .ref sq])), (gd, .inr (0, [.ref pl, .int gdl, .long gdh, .long gdw, .int gdi, .int gde, .int gdc, .ref gdt, .int gdg, .ref gdu, .int gdn, .ref gdx]))] := hD
  rcases i_bool hw_2 with ⟨r_19, hC⟩ | ⟨r_19, hC⟩
  · obtain rfl : r_1 = 1 := r_19
    have hC_3 := hC
    refine lv_if_ne (tgt := 10) hx hb dX6_shape_4 (by decide) (fun _ => ?_) (fun h => absurd h (by decide))
    refine lv_aload_n hx hb dX6_shape_10 rfl (lv_at hl 0 rfl) ?_
    refine va_get (D := (dC, dI)) (ci := 6) (v := .ref gd) (C := RX6) (T := TX6) (N := 11) hx hb hts in_X6_shape_X6 hown hK hP 3 rfl rfl 5 (by decide) (hts _ wd_X6_shape_0) (fun _ h9 => h9) rfl dX6_shape_11 ?_
    have hPc := hP.sub (ws' := [(gd, .inr (0, [.ref pl, .int gdl, .long gdh, .long gdw, .int gdi, .int gde, .int gdc, .ref gdt, .int gdg, .ref gdu, .int gdn, .ref gdx])), (pl, .inr (3, [.int plw, .int pld, .int plc, .int pls, .long plm, .ref plf, .ref plo, .ref plb, .ref pla]))]) [4, 0] rfl
    have hDc := hD.sub (ws' := [(gd, .inr (0, [.ref pl, .int gdl, .long gdh, .long gdw, .int gdi, .int gde, .int gdc, .ref gdt, .int gdg, .ref gdu, .int gdn, .ref gdx])), (pl, .inr (3, [.int plw, .int pld, .int plc, .int pls, .long plm, .ref plf, .ref plo, .ref plb, .ref pla]))]) [4, 0] (by decide) rfl
    have hKc := hK.sub (tys' := []) [] rfl
    have hFc := va_free (wc := [(gd, .inr (0, [.ref pl, .int gdl, .long gdh, .long gdw, .int gdi, .int gde, .int gdc, .ref gdt, .int gdg, .ref gdu, .int gdn, .ref gdx])), (pl, .inr (3, [.int plw, .int pld, .int plc, .int pls, .long plm, .ref plf, .ref plo, .ref plb, .ref pla]))]) hD hS hA [4, 0] rfl
    refine va_calll (va_runV (As := []) (rest := []) ⟨hx, hb, hml, hown, hts⟩ (c_X0_openSides l dC dI H.size gd gdl gdh gdw gdi gde gdc gdt gdg gdu gdn gdx pl plw pld plc pls plm plf plo plb pla ) (cwV 0 hts g_X6_shape_X0_openSides rfl rfl rfl (by decide +kernel) ⟨Nat.le_of_ble_eq_true rfl, Nat.le_of_ble_eq_true rfl⟩) ⟨fun a U g mk q => by obtain ⟨q0, q1, qP, qK, qD⟩ := q; exact ⟨q0, q1, qP, va_K.moved (u := U) (U := U.calling g mk a) (Vm.Alike.refl U.vm) qK, qD⟩, va_recv hKc hPc (ci := 0) (q0 := 0) rfl rfl, fun U hU hW => ⟨rfl, by rw [hU], by rw [hU]; exact hPc, va_K.moved hW.alike hKc, hDc.weaken (fun _ _ _ _ => trivial)⟩⟩ rfl rfl hl.1 rfl (lv_room (Nat.le_of_ble_eq_true rfl)) dX6_shape_14 ⟨Nat.le_of_ble_eq_true rfl, Nat.le_of_ble_eq_true rfl⟩) hS (fun q _ h => hFc q h) hFc (fun r_5 u t H1 locs ht hvm hw_6 hB hz1 hk1 hS => ?_)
    obtain ⟨hP1, hK1, hD1⟩ := hB
    have hP1 : va_P (dC, dI) vwCl [(gd, .inr (0, [.ref pl, .int gdl, .long gdh, .long gdw, .int gdi, .int gde, .int gdc, .ref gdt, .int gdg, .ref gdu, .int gdn, .ref gdx])), (pl, .inr (3, [.int plw, .int pld, .int plc, .int pls, .long plm, .ref plf, .ref plo, .ref plb, .ref pla]))] t.heap := hP1
    rw [ht] at hP1
    try dsimp only at hw_6
    obtain ⟨hP, hD⟩ := va_join (wr := [(plb, .inl (plkb, 40, .inr (.inl plB))), (pla, .inl (plka, 100, .inl plA)), (h0, .inr (6, [.ref tp, .int ts, .int fn, .int fp, .ref rd, .ref gd, .ref im, .ref rw, .ref gn, .ref ho, .ref sq]))]) (w1 := [(gd, .inr (0, [.ref pl, .int gdl, .long gdh, .long gdw, .int gdi, .int gde, .int gdc, .ref gdt, .int gdg, .ref gdu, .int gdn, .ref gdx])), (pl, .inr (3, [.int plw, .int pld, .int plc, .int pls, .long plm, .ref plf, .ref plo, .ref plb, .ref pla]))]) hP hD [4, 0] [1, 2, 3] rfl rfl (by decide) (by decide) hk1 hFc hP1 hD1
    generalize H1 = H at hP hS ⊢
    have hP : va_P (dC, dI) vwCl [(plb, .inl (plkb, 40, .inr (.inl plB))), (pla, .inl (plka, 100, .inl plA)), (h0, .inr (6, [.ref tp, .int ts, .int fn, .int fp, .ref rd, .ref gd, .ref im, .ref rw, .ref gn, .ref ho, .ref sq])), (gd, .inr (0, [.ref pl, .int gdl, .long gdh, .long gdw, .int gdi, .int gde, .int gdc, .ref gdt, .int gdg, .ref gdu, .int gdn, .ref gdx])), (pl, .inr (3, [.int plw, .int pld, .int plc, .int pls, .long plm, .ref plf, .ref plo, .ref plb, .ref pla]))] H := hP
    have hD : va_D A [(plb, .inl (plkb, 40, .inr (.inl plB))), (pla, .inl (plka, 100, .inl plA)), (h0, .inr (6, [.ref tp, .int ts, .int fn, .int fp, .ref rd, .ref gd, .ref im, .ref rw, .ref gn, .ref ho, .ref sq])), (gd, .inr (0, [.ref pl, .int gdl, .long gdh, .long gdw, .int gdi, .int gde, .int gdc, .ref gdt, .int gdg, .ref gdu, .int gdn, .ref gdx])), (pl, .inr (3, [.int plw, .int pld, .int plc, .int pls, .long plm, .ref plf, .ref plo, .ref plb, .ref pla]))] := hD
    refine lv_lstore_n (lv' := [(2, .long r_5), (0, .ref h0), (1, .int p0)]) hx hb dX6_shape_17 rfl hl (by decide) rfl (fun ls hl => ?_)
    refine lv_iload_n hx hb dX6_shape_18 rfl (lv_at hl 2 rfl) ?_
    rcases i_sw (a := p0) rfl (lo := 0) (hi := 3) with hsw | hsw | hsw
    · refine lv_tableOut (tgt := 95) hx hb dX6_shape_19 (Or.inl (i_clo rfl hsw)) (by decide) ?_
      refine lv_bipush (v := -2) hx hb dX6_shape_95 (by decide) ?_
      have hP9 := hP.sub (ws' := [(h0, .inr (6, [.ref tp, .int ts, .int fn, .int fp, .ref rd, .ref gd, .ref im, .ref rw, .ref gn, .ref ho, .ref sq])), (gd, .inr (0, [.ref pl, .int gdl, .long gdh, .long gdw, .int gdi, .int gde, .int gdc, .ref gdt, .int gdg, .ref gdu, .int gdn, .ref gdx])), (pl, .inr (3, [.int plw, .int pld, .int plc, .int pls, .long plm, .ref plf, .ref plo, .ref plb, .ref pla])), (plb, .inl (plkb, 40, .inr (.inl plB))), (pla, .inl (plka, 100, .inl plA))]) [2, 3, 4, 0, 1] rfl
      have hD9 := hD.sub (ws' := [(h0, .inr (6, [.ref tp, .int ts, .int fn, .int fp, .ref rd, .ref gd, .ref im, .ref rw, .ref gn, .ref ho, .ref sq])), (gd, .inr (0, [.ref pl, .int gdl, .long gdh, .long gdw, .int gdi, .int gde, .int gdc, .ref gdt, .int gdg, .ref gdu, .int gdn, .ref gdx])), (pl, .inr (3, [.int plw, .int pld, .int plc, .int pls, .long plm, .ref plf, .ref plo, .ref plb, .ref pla])), (plb, .inl (plkb, 40, .inr (.inl plB))), (pla, .inl (plka, 100, .inl plA))]) [2, 3, 4, 0, 1] (by decide) rfl
      have hK9 := hK.sub (tys' := []) [] rfl
      refine W.widen (k := 0) (n := 0) (by omega) (by omega) ?_
      exact W.iret (v := -2) hx hb hr (fun t ht hW => ⟨⟨(-2), (), rfl, trivial, by rw [ht]; exact hP9, va_K.moved hW.alike hK9, hD9⟩, hS.F ht⟩) hS.2.2 dX6_shape_97
    · refine lv_tableOut (tgt := 95) hx hb dX6_shape_19 (Or.inr (i_chi rfl hsw)) (by decide) ?_
      refine lv_bipush (v := -2) hx hb dX6_shape_95 (by decide) ?_
      have hP9 := hP.sub (ws' := [(h0, .inr (6, [.ref tp, .int ts, .int fn, .int fp, .ref rd, .ref gd, .ref im, .ref rw, .ref gn, .ref ho, .ref sq])), (gd, .inr (0, [.ref pl, .int gdl, .long gdh, .long gdw, .int gdi, .int gde, .int gdc, .ref gdt, .int gdg, .ref gdu, .int gdn, .ref gdx])), (pl, .inr (3, [.int plw, .int pld, .int plc, .int pls, .long plm, .ref plf, .ref plo, .ref plb, .ref pla])), (plb, .inl (plkb, 40, .inr (.inl plB))), (pla, .inl (plka, 100, .inl plA))]) [2, 3, 4, 0, 1] rfl
      have hD9 := hD.sub (ws' := [(h0, .inr (6, [.ref tp, .int ts, .int fn, .int fp, .ref rd, .ref gd, .ref im, .ref rw, .ref gn, .ref ho, .ref sq])), (gd, .inr (0, [.ref pl, .int gdl, .long gdh, .long gdw, .int gdi, .int gde, .int gdc, .ref gdt, .int gdg, .ref gdu, .int gdn, .ref gdx])), (pl, .inr (3, [.int plw, .int pld, .int plc, .int pls, .long plm, .ref plf, .ref plo, .ref plb, .ref pla])), (plb, .inl (plkb, 40, .inr (.inl plB))), (pla, .inl (plka, 100, .inl plA))]) [2, 3, 4, 0, 1] (by decide) rfl
      have hK9 := hK.sub (tys' := []) [] rfl
      refine W.widen (k := 0) (n := 0) (by omega) (by omega) ?_
      exact W.iret (v := -2) hx hb hr (fun t ht hW => ⟨⟨(-2), (), rfl, trivial, by rw [ht]; exact hP9, va_K.moved hW.alike hK9, hD9⟩, hS.F ht⟩) hS.2.2 dX6_shape_97
    · have hsw2 : p0.toInt = 0 ∨ p0.toInt = 1 ∨ p0.toInt = 2 ∨ p0.toInt = 3 := by omega
      rcases hsw2 with hsw2 | hsw2 | hsw2 | hsw2
      · have hxz : p0.toInt = 0 := (rfl : p0.toInt = p0.toInt).trans hsw2
        refine lv_tableIn (off := 29) (tgt := 48) hx hb dX6_shape_19 (by rw [hxz]; decide) (by rw [hxz]; decide) (by rw [hxz]; rfl) (by decide) ?_
        refine lv_aload_n hx hb dX6_shape_48 rfl (lv_at hl 1 rfl) ?_
        refine va_get (D := (dC, dI)) (ci := 6) (v := .ref gd) (C := RX6) (T := TX6) (N := 11) hx hb hts in_X6_shape_X6 hown hK hP 2 rfl rfl 5 (by decide) (hts _ wd_X6_shape_0) (fun _ h9 => h9) rfl dX6_shape_49 ?_
        refine va_get (D := (dC, dI)) (ci := 0) (v := .ref pl) (C := RX0) (T := TX0) (N := 12) hx hb hts in_X6_shape_X0 hown hK hP 3 rfl rfl 0 (by decide) (hts _ wd_X6_shape_1) (fun _ h9 => h9) rfl dX6_shape_52 ?_
        refine lv_lload_n hx hb dX6_shape_55 rfl (lv_at hl 0 rfl) ?_
        have hPc := hP.sub (ws' := [(pl, .inr (3, [.int plw, .int pld, .int plc, .int pls, .long plm, .ref plf, .ref plo, .ref plb, .ref pla])), (plb, .inl (plkb, 40, .inr (.inl plB))), (pla, .inl (plka, 100, .inl plA))]) [4, 0, 1] rfl
        have hDc := hD.sub (ws' := [(pl, .inr (3, [.int plw, .int pld, .int plc, .int pls, .long plm, .ref plf, .ref plo, .ref plb, .ref pla])), (plb, .inl (plkb, 40, .inr (.inl plB))), (pla, .inl (plka, 100, .inl plA))]) [4, 0, 1] (by decide) rfl
        have hKc := hK.sub (tys' := [(plkb, .long), (plka, .int)]) [0, 1] rfl
        have hFc := va_free (wc := [(pl, .inr (3, [.int plw, .int pld, .int plc, .int pls, .long plm, .ref plf, .ref plo, .ref plb, .ref pla])), (plb, .inl (plkb, 40, .inr (.inl plB))), (pla, .inl (plka, 100, .inl plA))]) hD hS hA [4, 0, 1] rfl
        refine va_calli (va_runV (As := [.long r_5]) (rest := []) ⟨hx, hb, hml, hown, hts⟩ (c_X3_countDeadEnds l dC dI H.size pl plw pld plc pls plm plf plo plb pla plkb plB plka plA r_5 (by omega) (by omega)) (cwV 1 hts g_X6_shape_X3_countDeadEnds rfl rfl rfl (by decide +kernel) ⟨Nat.le_of_ble_eq_true rfl, Nat.le_of_ble_eq_true rfl⟩) ⟨fun a U g mk q => by obtain ⟨q0, q1, qP, qK, qD⟩ := q; exact ⟨q0, q1, qP, va_K.moved (u := U) (U := U.calling g mk a) (Vm.Alike.refl U.vm) qK, qD⟩, va_recv hKc hPc (ci := 3) (q0 := 0) rfl rfl, fun U hU hW => ⟨rfl, by rw [hU], by rw [hU]; exact hPc, va_K.moved hW.alike hKc, hDc.weaken (fun _ _ _ _ => trivial)⟩⟩ rfl rfl hl.1 rfl (lv_room (Nat.le_of_ble_eq_true rfl)) dX6_shape_56 ⟨Nat.le_of_ble_eq_true rfl, Nat.le_of_ble_eq_true rfl⟩) hS (fun q _ h => hFc q h) hFc (fun r_7 u t H1 locs ht hvm hw_8 hB hz1 hk1 hS => ?_)
        obtain ⟨hP1, hK1, hD1⟩ := hB
        have hP1 : va_P (dC, dI) vwCl [(pl, .inr (3, [.int plw, .int pld, .int plc, .int pls, .long plm, .ref plf, .ref plo, .ref plb, .ref pla])), (plb, .inl (plkb, 40, .inr (.inl plB))), (pla, .inl (plka, 100, .inl plA))] t.heap := hP1
        rw [ht] at hP1
        try dsimp only at hw_8
        obtain ⟨hP, hD⟩ := va_join (wr := [(h0, .inr (6, [.ref tp, .int ts, .int fn, .int fp, .ref rd, .ref gd, .ref im, .ref rw, .ref gn, .ref ho, .ref sq])), (gd, .inr (0, [.ref pl, .int gdl, .long gdh, .long gdw, .int gdi, .int gde, .int gdc, .ref gdt, .int gdg, .ref gdu, .int gdn, .ref gdx]))]) (w1 := [(pl, .inr (3, [.int plw, .int pld, .int plc, .int pls, .long plm, .ref plf, .ref plo, .ref plb, .ref pla])), (plb, .inl (plkb, 40, .inr (.inl plB))), (pla, .inl (plka, 100, .inl plA))]) hP hD [4, 0, 1] [2, 3] rfl rfl (by decide) (by decide) hk1 hFc hP1 hD1
        generalize H1 = H at hP hS ⊢
        have hP : va_P (dC, dI) vwCl [(h0, .inr (6, [.ref tp, .int ts, .int fn, .int fp, .ref rd, .ref gd, .ref im, .ref rw, .ref gn, .ref ho, .ref sq])), (gd, .inr (0, [.ref pl, .int gdl, .long gdh, .long gdw, .int gdi, .int gde, .int gdc, .ref gdt, .int gdg, .ref gdu, .int gdn, .ref gdx])), (pl, .inr (3, [.int plw, .int pld, .int plc, .int pls, .long plm, .ref plf, .ref plo, .ref plb, .ref pla])), (plb, .inl (plkb, 40, .inr (.inl plB))), (pla, .inl (plka, 100, .inl plA))] H := hP
        have hD : va_D A [(h0, .inr (6, [.ref tp, .int ts, .int fn, .int fp, .ref rd, .ref gd, .ref im, .ref rw, .ref gn, .ref ho, .ref sq])), (gd, .inr (0, [.ref pl, .int gdl, .long gdh, .long gdw, .int gdi, .int gde, .int gdc, .ref gdt, .int gdg, .ref gdu, .int gdn, .ref gdx])), (pl, .inr (3, [.int plw, .int pld, .int plc, .int pls, .long plm, .ref plf, .ref plo, .ref plb, .ref pla])), (plb, .inl (plkb, 40, .inr (.inl plB))), (pla, .inl (plka, 100, .inl plA))] := hD
        have hP9 := hP.sub (ws' := [(h0, .inr (6, [.ref tp, .int ts, .int fn, .int fp, .ref rd, .ref gd, .ref im, .ref rw, .ref gn, .ref ho, .ref sq])), (gd, .inr (0, [.ref pl, .int gdl, .long gdh, .long gdw, .int gdi, .int gde, .int gdc, .ref gdt, .int gdg, .ref gdu, .int gdn, .ref gdx])), (pl, .inr (3, [.int plw, .int pld, .int plc, .int pls, .long plm, .ref plf, .ref plo, .ref plb, .ref pla])), (plb, .inl (plkb, 40, .inr (.inl plB))), (pla, .inl (plka, 100, .inl plA))]) [0, 1, 2, 3, 4] rfl
        have hD9 := hD.sub (ws' := [(h0, .inr (6, [.ref tp, .int ts, .int fn, .int fp, .ref rd, .ref gd, .ref im, .ref rw, .ref gn, .ref ho, .ref sq])), (gd, .inr (0, [.ref pl, .int gdl, .long gdh, .long gdw, .int gdi, .int gde, .int gdc, .ref gdt, .int gdg, .ref gdu, .int gdn, .ref gdx])), (pl, .inr (3, [.int plw, .int pld, .int plc, .int pls, .long plm, .ref plf, .ref plo, .ref plb, .ref pla])), (plb, .inl (plkb, 40, .inr (.inl plB))), (pla, .inl (plka, 100, .inl plA))]) [0, 1, 2, 3, 4] (by decide) rfl
        have hK9 := hK.sub (tys' := []) [] rfl
        refine W.widen (k := 0) (n := 0) (by omega) (by omega) ?_
        exact W.iret (v := r_7) hx hb hr (fun t ht hW => ⟨⟨r_7, (), rfl, trivial, by rw [ht]; exact hP9, va_K.moved hW.alike hK9, hD9⟩, hS.F ht⟩) hS.2.2 dX6_shape_59
      · have hxz : p0.toInt = 1 := (rfl : p0.toInt = p0.toInt).trans hsw2
        refine lv_tableIn (off := 41) (tgt := 60) hx hb dX6_shape_19 (by rw [hxz]; decide) (by rw [hxz]; decide) (by rw [hxz]; rfl) (by decide) ?_
        refine lv_lload_n hx hb dX6_shape_60 rfl (lv_at hl 0 rfl) ?_
        have hPc := hP.sub (ws' := []) [] rfl
        have hDc := hD.sub (ws' := []) [] (by decide) rfl
        have hKc := hK.sub (tys' := []) [] rfl
        have hFc := va_free (wc := []) hD hS hA [] rfl
        refine va_calli (va_runS (As := [.long r_5]) (rest := []) ⟨hx, hb, hml, hown, hts⟩ (c_J13_bitCount_95d88 l dC dI H.size r_5 ) (va_cwS 1 hts g_X6_shape_J13_bitCount_95d88 rfl rfl rfl (by decide +kernel) ⟨Nat.le_of_ble_eq_true rfl, Nat.le_of_ble_eq_true rfl⟩) ⟨fun a U g mk q => by obtain ⟨q0, q1, qP, qK, qD⟩ := q; exact ⟨q0, q1, qP, va_K.moved (u := U) (U := U.calling g mk a) (Vm.Alike.refl U.vm) qK, qD⟩, fun U hU hW => ⟨rfl, by rw [hU], by rw [hU]; exact hPc, va_K.moved hW.alike hKc, hDc.weaken (fun _ _ _ _ => trivial)⟩⟩ rfl rfl hl.1 rfl (lv_room (Nat.le_of_ble_eq_true rfl)) dX6_shape_61 ⟨Nat.le_of_ble_eq_true rfl, Nat.le_of_ble_eq_true rfl⟩) hS (fun q _ h => hFc q h) hFc (fun r_9 u t H1 locs ht hvm hw_10 hB hz1 hk1 hS => ?_)
        have hP1 : va_P (dC, dI) vwCl [] H1 := i_nilP
        have hD1 : va_D (va_A [] H.size) [] := i_nilD
        try dsimp only at hw_10
        obtain ⟨hP, hD⟩ := va_join (wr := [(plb, .inl (plkb, 40, .inr (.inl plB))), (pla, .inl (plka, 100, .inl plA)), (h0, .inr (6, [.ref tp, .int ts, .int fn, .int fp, .ref rd, .ref gd, .ref im, .ref rw, .ref gn, .ref ho, .ref sq])), (gd, .inr (0, [.ref pl, .int gdl, .long gdh, .long gdw, .int gdi, .int gde, .int gdc, .ref gdt, .int gdg, .ref gdu, .int gdn, .ref gdx])), (pl, .inr (3, [.int plw, .int pld, .int plc, .int pls, .long plm, .ref plf, .ref plo, .ref plb, .ref pla]))]) (w1 := []) hP hD [] [0, 1, 2, 3, 4] rfl rfl (by decide) (by decide) hk1 hFc hP1 hD1
        generalize H1 = H at hP hS ⊢
        have hP : va_P (dC, dI) vwCl [(plb, .inl (plkb, 40, .inr (.inl plB))), (pla, .inl (plka, 100, .inl plA)), (h0, .inr (6, [.ref tp, .int ts, .int fn, .int fp, .ref rd, .ref gd, .ref im, .ref rw, .ref gn, .ref ho, .ref sq])), (gd, .inr (0, [.ref pl, .int gdl, .long gdh, .long gdw, .int gdi, .int gde, .int gdc, .ref gdt, .int gdg, .ref gdu, .int gdn, .ref gdx])), (pl, .inr (3, [.int plw, .int pld, .int plc, .int pls, .long plm, .ref plf, .ref plo, .ref plb, .ref pla]))] H := hP
        have hD : va_D A [(plb, .inl (plkb, 40, .inr (.inl plB))), (pla, .inl (plka, 100, .inl plA)), (h0, .inr (6, [.ref tp, .int ts, .int fn, .int fp, .ref rd, .ref gd, .ref im, .ref rw, .ref gn, .ref ho, .ref sq])), (gd, .inr (0, [.ref pl, .int gdl, .long gdh, .long gdw, .int gdi, .int gde, .int gdc, .ref gdt, .int gdg, .ref gdu, .int gdn, .ref gdx])), (pl, .inr (3, [.int plw, .int pld, .int plc, .int pls, .long plm, .ref plf, .ref plo, .ref plb, .ref pla]))] := hD
        refine lv_aload_n hx hb dX6_shape_64 rfl (lv_at hl 1 rfl) ?_
        refine va_get (D := (dC, dI)) (ci := 6) (v := .ref gd) (C := RX6) (T := TX6) (N := 11) hx hb hts in_X6_shape_X6 hown hK hP 2 rfl rfl 5 (by decide) (hts _ wd_X6_shape_0) (fun _ h9 => h9) rfl dX6_shape_65 ?_
        refine va_get (D := (dC, dI)) (ci := 0) (v := .ref pl) (C := RX0) (T := TX0) (N := 12) hx hb hts in_X6_shape_X0 hown hK hP 3 rfl rfl 0 (by decide) (hts _ wd_X6_shape_1) (fun _ h9 => h9) rfl dX6_shape_68 ?_
        refine va_get (D := (dC, dI)) (ci := 3) (v := .int plc) (C := RX3) (T := TX3) (N := 9) hx hb hts in_X6_shape_X3 hown hK hP 4 rfl rfl 2 (by decide) (hts _ wd_X6_shape_2) (fun _ h9 => h9) rfl dX6_shape_71 ?_
        refine lv_iconst (v := 1) hx hb dX6_shape_74 (by decide) ?_
        refine lv_isub hx hb dX6_shape_75 ?_
        refine lv_topi (fun x_11 ex_11 => ?_)
        refine lv_isub hx hb dX6_shape_76 ?_
        refine lv_topi (fun x_12 ex_12 => ?_)
        have hP9 := hP.sub (ws' := [(h0, .inr (6, [.ref tp, .int ts, .int fn, .int fp, .ref rd, .ref gd, .ref im, .ref rw, .ref gn, .ref ho, .ref sq])), (gd, .inr (0, [.ref pl, .int gdl, .long gdh, .long gdw, .int gdi, .int gde, .int gdc, .ref gdt, .int gdg, .ref gdu, .int gdn, .ref gdx])), (pl, .inr (3, [.int plw, .int pld, .int plc, .int pls, .long plm, .ref plf, .ref plo, .ref plb, .ref pla])), (plb, .inl (plkb, 40, .inr (.inl plB))), (pla, .inl (plka, 100, .inl plA))]) [2, 3, 4, 0, 1] rfl
        have hD9 := hD.sub (ws' := [(h0, .inr (6, [.ref tp, .int ts, .int fn, .int fp, .ref rd, .ref gd, .ref im, .ref rw, .ref gn, .ref ho, .ref sq])), (gd, .inr (0, [.ref pl, .int gdl, .long gdh, .long gdw, .int gdi, .int gde, .int gdc, .ref gdt, .int gdg, .ref gdu, .int gdn, .ref gdx])), (pl, .inr (3, [.int plw, .int pld, .int plc, .int pls, .long plm, .ref plf, .ref plo, .ref plb, .ref pla])), (plb, .inl (plkb, 40, .inr (.inl plB))), (pla, .inl (plka, 100, .inl plA))]) [2, 3, 4, 0, 1] (by decide) rfl
        have hK9 := hK.sub (tys' := []) [] rfl
        refine W.widen (k := 0) (n := 0) (by omega) (by omega) ?_
        exact W.iret (v := x_12) hx hb hr (fun t ht hW => ⟨⟨x_12, (), rfl, trivial, by rw [ht]; exact hP9, va_K.moved hW.alike hK9, hD9⟩, hS.F ht⟩) hS.2.2 dX6_shape_77
      · have hxz : p0.toInt = 2 := (rfl : p0.toInt = p0.toInt).trans hsw2
        refine lv_tableIn (off := 59) (tgt := 78) hx hb dX6_shape_19 (by rw [hxz]; decide) (by rw [hxz]; decide) (by rw [hxz]; rfl) (by decide) ?_
        refine lv_aload_n hx hb dX6_shape_78 rfl (lv_at hl 1 rfl) ?_
        refine va_get (D := (dC, dI)) (ci := 6) (v := .ref gd) (C := RX6) (T := TX6) (N := 11) hx hb hts in_X6_shape_X6 hown hK hP 2 rfl rfl 5 (by decide) (hts _ wd_X6_shape_0) (fun _ h9 => h9) rfl dX6_shape_79 ?_
        refine va_get (D := (dC, dI)) (ci := 0) (v := .ref pl) (C := RX0) (T := TX0) (N := 12) hx hb hts in_X6_shape_X0 hown hK hP 3 rfl rfl 0 (by decide) (hts _ wd_X6_shape_1) (fun _ h9 => h9) rfl dX6_shape_82 ?_
        refine lv_lload_n hx hb dX6_shape_85 rfl (lv_at hl 0 rfl) ?_
        have hPc := hP.sub (ws' := [(pl, .inr (3, [.int plw, .int pld, .int plc, .int pls, .long plm, .ref plf, .ref plo, .ref plb, .ref pla]))]) [4] rfl
        have hDc := hD.sub (ws' := [(pl, .inr (3, [.int plw, .int pld, .int plc, .int pls, .long plm, .ref plf, .ref plo, .ref plb, .ref pla]))]) [4] (by decide) rfl
        have hKc := hK.sub (tys' := []) [] rfl
        have hFc := va_free (wc := [(pl, .inr (3, [.int plw, .int pld, .int plc, .int pls, .long plm, .ref plf, .ref plo, .ref plb, .ref pla]))]) hD hS hA [4] rfl
        refine va_calli (va_runV (As := [.long r_5]) (rest := []) ⟨hx, hb, hml, hown, hts⟩ (c_X3_mostSteps l dC dI H.size pl plw pld plc pls plm plf plo plb pla r_5 (by omega)) (cwV 1 hts g_X6_shape_X3_mostSteps rfl rfl rfl (by decide +kernel) ⟨Nat.le_of_ble_eq_true rfl, Nat.le_of_ble_eq_true rfl⟩) ⟨fun a U g mk q => by obtain ⟨q0, q1, qP, qK, qD⟩ := q; exact ⟨q0, q1, qP, va_K.moved (u := U) (U := U.calling g mk a) (Vm.Alike.refl U.vm) qK, qD⟩, va_recv hKc hPc (ci := 3) (q0 := 0) rfl rfl, fun U hU hW => ⟨rfl, by rw [hU], by rw [hU]; exact hPc, va_K.moved hW.alike hKc, hDc.weaken (fun _ _ _ _ => trivial)⟩⟩ rfl rfl hl.1 rfl (lv_room (Nat.le_of_ble_eq_true rfl)) dX6_shape_86 ⟨Nat.le_of_ble_eq_true rfl, Nat.le_of_ble_eq_true rfl⟩) hS (fun q _ h => hFc q h) hFc (fun r_13 u t H1 locs ht hvm hw_14 hB hz1 hk1 hS => ?_)
        obtain ⟨hP1, hK1, hD1⟩ := hB
        have hP1 : va_P (dC, dI) vwCl [(pl, .inr (3, [.int plw, .int pld, .int plc, .int pls, .long plm, .ref plf, .ref plo, .ref plb, .ref pla]))] t.heap := hP1
        rw [ht] at hP1
        try dsimp only at hw_14
        obtain ⟨hP, hD⟩ := va_join (wr := [(plb, .inl (plkb, 40, .inr (.inl plB))), (pla, .inl (plka, 100, .inl plA)), (h0, .inr (6, [.ref tp, .int ts, .int fn, .int fp, .ref rd, .ref gd, .ref im, .ref rw, .ref gn, .ref ho, .ref sq])), (gd, .inr (0, [.ref pl, .int gdl, .long gdh, .long gdw, .int gdi, .int gde, .int gdc, .ref gdt, .int gdg, .ref gdu, .int gdn, .ref gdx]))]) (w1 := [(pl, .inr (3, [.int plw, .int pld, .int plc, .int pls, .long plm, .ref plf, .ref plo, .ref plb, .ref pla]))]) hP hD [4] [0, 1, 2, 3] rfl rfl (by decide) (by decide) hk1 hFc hP1 hD1
        generalize H1 = H at hP hS ⊢
        have hP : va_P (dC, dI) vwCl [(plb, .inl (plkb, 40, .inr (.inl plB))), (pla, .inl (plka, 100, .inl plA)), (h0, .inr (6, [.ref tp, .int ts, .int fn, .int fp, .ref rd, .ref gd, .ref im, .ref rw, .ref gn, .ref ho, .ref sq])), (gd, .inr (0, [.ref pl, .int gdl, .long gdh, .long gdw, .int gdi, .int gde, .int gdc, .ref gdt, .int gdg, .ref gdu, .int gdn, .ref gdx])), (pl, .inr (3, [.int plw, .int pld, .int plc, .int pls, .long plm, .ref plf, .ref plo, .ref plb, .ref pla]))] H := hP
        have hD : va_D A [(plb, .inl (plkb, 40, .inr (.inl plB))), (pla, .inl (plka, 100, .inl plA)), (h0, .inr (6, [.ref tp, .int ts, .int fn, .int fp, .ref rd, .ref gd, .ref im, .ref rw, .ref gn, .ref ho, .ref sq])), (gd, .inr (0, [.ref pl, .int gdl, .long gdh, .long gdw, .int gdi, .int gde, .int gdc, .ref gdt, .int gdg, .ref gdu, .int gdn, .ref gdx])), (pl, .inr (3, [.int plw, .int pld, .int plc, .int pls, .long plm, .ref plf, .ref plo, .ref plb, .ref pla]))] := hD
        have hP9 := hP.sub (ws' := [(h0, .inr (6, [.ref tp, .int ts, .int fn, .int fp, .ref rd, .ref gd, .ref im, .ref rw, .ref gn, .ref ho, .ref sq])), (gd, .inr (0, [.ref pl, .int gdl, .long gdh, .long gdw, .int gdi, .int gde, .int gdc, .ref gdt, .int gdg, .ref gdu, .int gdn, .ref gdx])), (pl, .inr (3, [.int plw, .int pld, .int plc, .int pls, .long plm, .ref plf, .ref plo, .ref plb, .ref pla])), (plb, .inl (plkb, 40, .inr (.inl plB))), (pla, .inl (plka, 100, .inl plA))]) [2, 3, 4, 0, 1] rfl
        have hD9 := hD.sub (ws' := [(h0, .inr (6, [.ref tp, .int ts, .int fn, .int fp, .ref rd, .ref gd, .ref im, .ref rw, .ref gn, .ref ho, .ref sq])), (gd, .inr (0, [.ref pl, .int gdl, .long gdh, .long gdw, .int gdi, .int gde, .int gdc, .ref gdt, .int gdg, .ref gdu, .int gdn, .ref gdx])), (pl, .inr (3, [.int plw, .int pld, .int plc, .int pls, .long plm, .ref plf, .ref plo, .ref plb, .ref pla])), (plb, .inl (plkb, 40, .inr (.inl plB))), (pla, .inl (plka, 100, .inl plA))]) [2, 3, 4, 0, 1] (by decide) rfl
        have hK9 := hK.sub (tys' := []) [] rfl
        refine W.widen (k := 0) (n := 0) (by omega) (by omega) ?_
        exact W.iret (v := r_13) hx hb hr (fun t ht hW => ⟨⟨r_13, (), rfl, trivial, by rw [ht]; exact hP9, va_K.moved hW.alike hK9, hD9⟩, hS.F ht⟩) hS.2.2 dX6_shape_89
      · have hxz : p0.toInt = 3 := (rfl : p0.toInt = p0.toInt).trans hsw2
        refine lv_tableIn (off := 71) (tgt := 90) hx hb dX6_shape_19 (by rw [hxz]; decide) (by rw [hxz]; decide) (by rw [hxz]; rfl) (by decide) ?_
        refine lv_lload_n hx hb dX6_shape_90 rfl (lv_at hl 0 rfl) ?_
        have hPc := hP.sub (ws' := []) [] rfl
        have hDc := hD.sub (ws' := []) [] (by decide) rfl
        have hKc := hK.sub (tys' := []) [] rfl
        have hFc := va_free (wc := []) hD hS hA [] rfl
        refine va_calli (va_runS (As := [.long r_5]) (rest := []) ⟨hx, hb, hml, hown, hts⟩ (c_J13_bitCount_95d88 l dC dI H.size r_5 ) (va_cwS 1 hts g_X6_shape_J13_bitCount_95d88 rfl rfl rfl (by decide +kernel) ⟨Nat.le_of_ble_eq_true rfl, Nat.le_of_ble_eq_true rfl⟩) ⟨fun a U g mk q => by obtain ⟨q0, q1, qP, qK, qD⟩ := q; exact ⟨q0, q1, qP, va_K.moved (u := U) (U := U.calling g mk a) (Vm.Alike.refl U.vm) qK, qD⟩, fun U hU hW => ⟨rfl, by rw [hU], by rw [hU]; exact hPc, va_K.moved hW.alike hKc, hDc.weaken (fun _ _ _ _ => trivial)⟩⟩ rfl rfl hl.1 rfl (lv_room (Nat.le_of_ble_eq_true rfl)) dX6_shape_91 ⟨Nat.le_of_ble_eq_true rfl, Nat.le_of_ble_eq_true rfl⟩) hS (fun q _ h => hFc q h) hFc (fun r_15 u t H1 locs ht hvm hw_16 hB hz1 hk1 hS => ?_)
        have hP1 : va_P (dC, dI) vwCl [] H1 := i_nilP
        have hD1 : va_D (va_A [] H.size) [] := i_nilD
        try dsimp only at hw_16
        obtain ⟨hP, hD⟩ := va_join (wr := [(plb, .inl (plkb, 40, .inr (.inl plB))), (pla, .inl (plka, 100, .inl plA)), (h0, .inr (6, [.ref tp, .int ts, .int fn, .int fp, .ref rd, .ref gd, .ref im, .ref rw, .ref gn, .ref ho, .ref sq])), (gd, .inr (0, [.ref pl, .int gdl, .long gdh, .long gdw, .int gdi, .int gde, .int gdc, .ref gdt, .int gdg, .ref gdu, .int gdn, .ref gdx])), (pl, .inr (3, [.int plw, .int pld, .int plc, .int pls, .long plm, .ref plf, .ref plo, .ref plb, .ref pla]))]) (w1 := []) hP hD [] [0, 1, 2, 3, 4] rfl rfl (by decide) (by decide) hk1 hFc hP1 hD1
        generalize H1 = H at hP hS ⊢
        have hP : va_P (dC, dI) vwCl [(plb, .inl (plkb, 40, .inr (.inl plB))), (pla, .inl (plka, 100, .inl plA)), (h0, .inr (6, [.ref tp, .int ts, .int fn, .int fp, .ref rd, .ref gd, .ref im, .ref rw, .ref gn, .ref ho, .ref sq])), (gd, .inr (0, [.ref pl, .int gdl, .long gdh, .long gdw, .int gdi, .int gde, .int gdc, .ref gdt, .int gdg, .ref gdu, .int gdn, .ref gdx])), (pl, .inr (3, [.int plw, .int pld, .int plc, .int pls, .long plm, .ref plf, .ref plo, .ref plb, .ref pla]))] H := hP
        have hD : va_D A [(plb, .inl (plkb, 40, .inr (.inl plB))), (pla, .inl (plka, 100, .inl plA)), (h0, .inr (6, [.ref tp, .int ts, .int fn, .int fp, .ref rd, .ref gd, .ref im, .ref rw, .ref gn, .ref ho, .ref sq])), (gd, .inr (0, [.ref pl, .int gdl, .long gdh, .long gdw, .int gdi, .int gde, .int gdc, .ref gdt, .int gdg, .ref gdu, .int gdn, .ref gdx])), (pl, .inr (3, [.int plw, .int pld, .int plc, .int pls, .long plm, .ref plf, .ref plo, .ref plb, .ref pla]))] := hD
        have hP9 := hP.sub (ws' := [(h0, .inr (6, [.ref tp, .int ts, .int fn, .int fp, .ref rd, .ref gd, .ref im, .ref rw, .ref gn, .ref ho, .ref sq])), (gd, .inr (0, [.ref pl, .int gdl, .long gdh, .long gdw, .int gdi, .int gde, .int gdc, .ref gdt, .int gdg, .ref gdu, .int gdn, .ref gdx])), (pl, .inr (3, [.int plw, .int pld, .int plc, .int pls, .long plm, .ref plf, .ref plo, .ref plb, .ref pla])), (plb, .inl (plkb, 40, .inr (.inl plB))), (pla, .inl (plka, 100, .inl plA))]) [2, 3, 4, 0, 1] rfl
        have hD9 := hD.sub (ws' := [(h0, .inr (6, [.ref tp, .int ts, .int fn, .int fp, .ref rd, .ref gd, .ref im, .ref rw, .ref gn, .ref ho, .ref sq])), (gd, .inr (0, [.ref pl, .int gdl, .long gdh, .long gdw, .int gdi, .int gde, .int gdc, .ref gdt, .int gdg, .ref gdu, .int gdn, .ref gdx])), (pl, .inr (3, [.int plw, .int pld, .int plc, .int pls, .long plm, .ref plf, .ref plo, .ref plb, .ref pla])), (plb, .inl (plkb, 40, .inr (.inl plB))), (pla, .inl (plka, 100, .inl plA))]) [2, 3, 4, 0, 1] (by decide) rfl
        have hK9 := hK.sub (tys' := []) [] rfl
        refine W.widen (k := 0) (n := 0) (by omega) (by omega) ?_
        exact W.iret (v := r_15) hx hb hr (fun t ht hW => ⟨⟨r_15, (), rfl, trivial, by rw [ht]; exact hP9, va_K.moved hW.alike hK9, hD9⟩, hS.F ht⟩) hS.2.2 dX6_shape_94
  · obtain rfl : r_1 = 0 := r_19
    have hC_17 := hC
    refine lv_if_ne (tgt := 10) hx hb dX6_shape_4 (by decide) (fun h => absurd (by decide) h) (fun _ => ?_)
    refine lv_bipush (v := -2) hx hb dX6_shape_7 (by decide) ?_
    have hP9 := hP.sub (ws' := [(h0, .inr (6, [.ref tp, .int ts, .int fn, .int fp, .ref rd, .ref gd, .ref im, .ref rw, .ref gn, .ref ho, .ref sq])), (gd, .inr (0, [.ref pl, .int gdl, .long gdh, .long gdw, .int gdi, .int gde, .int gdc, .ref gdt, .int gdg, .ref gdu, .int gdn, .ref gdx])), (pl, .inr (3, [.int plw, .int pld, .int plc, .int pls, .long plm, .ref plf, .ref plo, .ref plb, .ref pla])), (plb, .inl (plkb, 40, .inr (.inl plB))), (pla, .inl (plka, 100, .inl plA))]) [3, 4, 0, 1, 2] rfl
    have hD9 := hD.sub (ws' := [(h0, .inr (6, [.ref tp, .int ts, .int fn, .int fp, .ref rd, .ref gd, .ref im, .ref rw, .ref gn, .ref ho, .ref sq])), (gd, .inr (0, [.ref pl, .int gdl, .long gdh, .long gdw, .int gdi, .int gde, .int gdc, .ref gdt, .int gdg, .ref gdu, .int gdn, .ref gdx])), (pl, .inr (3, [.int plw, .int pld, .int plc, .int pls, .long plm, .ref plf, .ref plo, .ref plb, .ref pla])), (plb, .inl (plkb, 40, .inr (.inl plB))), (pla, .inl (plka, 100, .inl plA))]) [3, 4, 0, 1, 2] (by decide) rfl
    have hK9 := hK.sub (tys' := []) [] rfl
    refine W.widen (k := 0) (n := 0) (by omega) (by omega) ?_
    exact W.iret (v := -2) hx hb hr (fun t ht hW => ⟨⟨(-2), (), rfl, trivial, by rw [ht]; exact hP9, va_K.moved hW.alike hK9, hD9⟩, hS.F ht⟩) hS.2.2 dX6_shape_9

theorem dX6_bridge_0 : decode cX6_bridge 0 = .ok (.aload_n 0, 1) := by decide +kernel
theorem dX6_bridge_1 : decode cX6_bridge 1 = .ok (.invokevirtual 86, 3) := by decide +kernel
theorem dX6_bridge_4 : decode cX6_bridge 4 = .ok (.ifCond .eq 8, 3) := by decide +kernel
theorem dX6_bridge_7 : decode cX6_bridge 7 = .ok (.iload_n 1, 1) := by decide +kernel
theorem dX6_bridge_8 : decode cX6_bridge 8 = .ok (.iconst (-1), 1) := by decide +kernel
theorem dX6_bridge_9 : decode cX6_bridge 9 = .ok (.if_icmp .ge 6, 3) := by decide +kernel
theorem dX6_bridge_12 : decode cX6_bridge 12 = .ok (.bipush (-2), 2) := by decide +kernel
theorem dX6_bridge_14 : decode cX6_bridge 14 = .ok (.ireturn, 1) := by decide +kernel
theorem dX6_bridge_15 : decode cX6_bridge 15 = .ok (.aload_n 0, 1) := by decide +kernel
theorem dX6_bridge_16 : decode cX6_bridge 16 = .ok (.getfield 33, 3) := by decide +kernel
theorem dX6_bridge_19 : decode cX6_bridge 19 = .ok (.invokevirtual 128, 3) := by decide +kernel
theorem dX6_bridge_22 : decode cX6_bridge 22 = .ok (.lstore_n 2, 1) := by decide +kernel
theorem dX6_bridge_23 : decode cX6_bridge 23 = .ok (.aload_n 0, 1) := by decide +kernel
theorem dX6_bridge_24 : decode cX6_bridge 24 = .ok (.getfield 33, 3) := by decide +kernel
theorem dX6_bridge_27 : decode cX6_bridge 27 = .ok (.getfield 90, 3) := by decide +kernel
theorem dX6_bridge_30 : decode cX6_bridge 30 = .ok (.lload_n 2, 1) := by decide +kernel
theorem dX6_bridge_31 : decode cX6_bridge 31 = .ok (.invokevirtual 175, 3) := by decide +kernel
theorem dX6_bridge_34 : decode cX6_bridge 34 = .ok (.lstore 4, 2) := by decide +kernel
theorem dX6_bridge_36 : decode cX6_bridge 36 = .ok (.iload_n 1, 1) := by decide +kernel
theorem dX6_bridge_37 : decode cX6_bridge 37 = .ok (.iconst (-1), 1) := by decide +kernel
theorem dX6_bridge_38 : decode cX6_bridge 38 = .ok (.if_icmp .ne 11, 3) := by decide +kernel
theorem dX6_bridge_41 : decode cX6_bridge 41 = .ok (.lload 4, 2) := by decide +kernel
theorem dX6_bridge_43 : decode cX6_bridge 43 = .ok (.invokestatic 165, 3) := by decide +kernel
theorem dX6_bridge_46 : decode cX6_bridge 46 = .ok (.goto 16, 3) := by decide +kernel
theorem dX6_bridge_49 : decode cX6_bridge 49 = .ok (.aload_n 0, 1) := by decide +kernel
theorem dX6_bridge_50 : decode cX6_bridge 50 = .ok (.getfield 33, 3) := by decide +kernel
theorem dX6_bridge_53 : decode cX6_bridge 53 = .ok (.getfield 90, 3) := by decide +kernel
theorem dX6_bridge_56 : decode cX6_bridge 56 = .ok (.lload 4, 2) := by decide +kernel
theorem dX6_bridge_58 : decode cX6_bridge 58 = .ok (.iload_n 1, 1) := by decide +kernel
theorem dX6_bridge_59 : decode cX6_bridge 59 = .ok (.invokevirtual 179, 3) := by decide +kernel
theorem dX6_bridge_62 : decode cX6_bridge 62 = .ok (.ireturn, 1) := by decide +kernel
def wz_X6_bridge : List Cond := .code yX6_bridge cX6_bridge 6 (some .int) :: ([Cond.fieldLink RX6 33 "HedgeMaze" "garden" "LHedgeMaze$Garden;", Cond.fieldLink RX6 90 "HedgeMaze$Garden" "plan" "LHedgeMaze$Plan;", Cond.methodLink RX6 86 yX6_hasMaze, Cond.instanceMethod yX6_hasMaze, Cond.selects RX6 yX6_hasMaze yX6_hasMaze, Cond.initialized RX6, Cond.code yX6_hasMaze cX6_hasMaze 1 (some .boolean), Cond.fieldLink RX6 83 "HedgeMaze$Garden" "lines" "I", Cond.methodLink RX6 128 yX0_openSides, Cond.instanceMethod yX0_openSides, Cond.selects RX0 yX0_openSides yX0_openSides, Cond.initialized RX0, Cond.code yX0_openSides cX0_openSides 1 (some .long), Cond.fieldLink RX0 22 "HedgeMaze$Garden" "hedges" "J", Cond.methodLink RX0 71 yX0_openWith, Cond.instanceMethod yX0_openWith, Cond.selects RX0 yX0_openWith yX0_openWith, Cond.code yX0_openWith cX0_openWith 3 (some .long), Cond.fieldLink RX0 12 "HedgeMaze$Garden" "plan" "LHedgeMaze$Plan;", Cond.fieldLink RX0 75 "HedgeMaze$Plan" "allSides" "J", Cond.fieldLink RX0 26 "HedgeMaze$Garden" "walls" "J", Cond.constantLong RX0 78 (-1), Cond.methodLink RX6 175 yX3_bridges, Cond.instanceMethod yX3_bridges, Cond.selects RX3 yX3_bridges yX3_bridges, Cond.initialized RX3, Cond.code yX3_bridges cX3_bridges 6 (some .long), Cond.fieldLink RX3 21 "HedgeMaze$Plan" "sideCount" "I", Cond.fieldLink RX3 35 "HedgeMaze$Plan" "bits" "[J", Cond.methodLink RX3 67 yX3_has, Cond.instanceMethod yX3_has, Cond.selects RX3 yX3_has yX3_has, Cond.code yX3_has cX3_has 4 (some .boolean), Cond.methodLink RX3 58 yX3_bitOf, Cond.instanceMethod yX3_bitOf, Cond.selects RX3 yX3_bitOf yX3_bitOf, Cond.code yX3_bitOf cX3_bitOf 3 (some .long), Cond.methodLink RX3 83 yX3_partBeside, Cond.instanceMethod yX3_partBeside, Cond.selects RX3 yX3_partBeside yX3_partBeside, Cond.code yX3_partBeside cX3_partBeside 4 (some .int), Cond.fieldLink RX3 28 "HedgeMaze$Plan" "first" "[I", Cond.constantLong RX3 65 (-1), Cond.methodLink RX3 79 yX3_allCells, Cond.instanceMethod yX3_allCells, Cond.selects RX3 yX3_allCells yX3_allCells, Cond.code yX3_allCells cX3_allCells 1 (some .int), Cond.fieldLink RX3 18 "HedgeMaze$Plan" "cellCount" "I", Cond.methodLink RX3 75 yX3_spread, Cond.instanceMethod yX3_spread, Cond.selects RX3 yX3_spread yX3_spread, Cond.code yX3_spread cX3_spread 9 (some .int), Cond.methodLink RX3 42 Lib.Math.min.name, Cond.static Lib.Math.min.name, Cond.initialized "java/lang/Math", Cond.code Lib.Math.min.name Lib.Math.min.code 2 (some .int), Cond.methodLink RX3 71 yX3_grow, Cond.instanceMethod yX3_grow, Cond.selects RX3 yX3_grow yX3_grow, Cond.code yX3_grow cX3_grow 6 (some .int), Cond.fieldLink RX3 9 "HedgeMaze$Plan" "wide" "I", Cond.methodLink RX6 179 yX3_pick, Cond.instanceMethod yX3_pick, Cond.selects RX3 yX3_pick yX3_pick, Cond.code yX3_pick cX3_pick 6 (some .int), Cond.methodLink RX6 165 yJ13_bitCount_95d88, Cond.static yJ13_bitCount_95d88, Cond.initialized RJ13, Cond.code yJ13_bitCount_95d88 cJ13_bitCount_95d88 2 (some .int), Cond.constantLong RJ13 314 (6148914691236517205), Cond.constantLong RJ13 316 (3689348814741910323), Cond.constantLong RJ13 318 (1085102592571150095)] ++ wsX60 ++ wsX00 ++ wsX30)
theorem wd_X6_bridge_0 : Cond.fieldLink RX6 33 "HedgeMaze" "garden" "LHedgeMaze$Garden;" ∈ wz_X6_bridge := List.mem_of_getElem? (i := 1) rfl
theorem wd_X6_bridge_1 : Cond.fieldLink RX6 90 "HedgeMaze$Garden" "plan" "LHedgeMaze$Plan;" ∈ wz_X6_bridge := List.mem_of_getElem? (i := 2) rfl
theorem in_X6_bridge_X6 : ∀ w ∈ wsX60, w ∈ wz_X6_bridge := fun _ h => List.mem_cons_of_mem _ (List.mem_append_left _ (List.mem_append_left _ (List.mem_append_right _ h)))
theorem in_X6_bridge_X0 : ∀ w ∈ wsX00, w ∈ wz_X6_bridge := fun _ h => List.mem_cons_of_mem _ (List.mem_append_left _ (List.mem_append_right _ h))
set_option maxRecDepth 20000 in
theorem g_X6_bridge_X6_hasMaze : GoodIn wz_X6_bridge (wsV RX6 86 RX6 yX6_hasMaze wz_X6_hasMaze) := goodIn_r _ [3, 4, 5, 6, 7, 1, 8, 73, 74, 75, 76, 77, 78, 79, 80, 81, 82, 83, 84, 85, 86, 87, 88, 89, 90, 91, 92, 93, 94, 95] rfl (by decide +kernel)
set_option maxRecDepth 20000 in
theorem g_X6_bridge_X0_openSides : GoodIn wz_X6_bridge (wsV RX6 128 RX0 yX0_openSides wz_X0_openSides) := goodIn_r _ [9, 10, 11, 12, 13, 14, 15, 16, 17, 12, 18, 19, 20, 21, 22, 84, 85, 86, 87, 88, 89, 90, 91, 92, 93, 94, 95, 96, 97, 98, 99, 100, 101, 102, 103, 104] rfl (by decide +kernel)
set_option maxRecDepth 20000 in
theorem g_X6_bridge_X3_bridges : GoodIn wz_X6_bridge (wsV RX6 175 RX3 yX3_bridges wz_X3_bridges) := goodIn_r _ [23, 24, 25, 26, 27, 28, 29, 30, 31, 32, 26, 33, 34, 35, 36, 37, 38, 39, 40, 41, 42, 43, 44, 45, 46, 47, 48, 49, 50, 51, 52, 53, 54, 55, 56, 57, 58, 59, 60, 61, 96, 97, 98, 99, 100, 101, 102, 103, 104] rfl (by decide +kernel)
set_option maxRecDepth 20000 in
theorem g_X6_bridge_X3_pick : GoodIn wz_X6_bridge (wsV RX6 179 RX3 yX3_pick wz_X3_pick) := goodIn_r _ [62, 63, 64, 26, 65, 28, 30, 31, 32, 26, 33, 34, 35, 36, 37, 29, 96, 97, 98, 99, 100, 101, 102, 103, 104] rfl (by decide +kernel)
set_option maxRecDepth 20000 in
theorem g_X6_bridge_J13_bitCount_95d88 : GoodIn wz_X6_bridge (va_wsS RX6 165 yJ13_bitCount_95d88 wz_J13_bitCount_95d88) := goodIn_r _ [66, 67, 68, 69, 70, 71, 72] rfl (by decide +kernel)
set_option maxHeartbeats 4000000 in
set_option maxRecDepth 100000 in
theorem c_X6_bridge (l : Launch) (dC : Nat → ClassId) (dI : Nat → Nat → Nat) (sz : Nat) (h0 : Nat) (tp : Nat) (ts : Int32) (fn : Int32) (fp : Int32) (rd : Nat) (gd : Nat) (im : Nat) (rw : Nat) (gn : Nat) (ho : Nat) (sq : Nat) (gdl : Int32) (gdh : Int64) (gdw : Int64) (gdi : Int32) (gde : Int32) (gdc : Int32) (gdt : Nat) (gdg : Int32) (gdu : Nat) (gdn : Int32) (gdx : Nat) (pl : Nat) (plw : Int32) (pld : Int32) (plc : Int32) (pls : Int32) (plm : Int64) (plf : Nat) (plo : Nat) (plb : Nat) (pla : Nat) (plkf : ClassId) (plF : Nat → Int32) (plkb : ClassId) (plB : Nat → Int64) (p0 : Int32) (h_pls : 0 ≤ pls.toInt ∧ pls.toInt ≤ 40) (hR_plf : RG plF 40 0 24) : Met l yX6_bridge wz_X6_bridge ({ frames := 4, cells := 0, slots := 0, locals := 116 }) (va_Pc [.ref h0, .int p0] (fun U => U.heap.size = sz ∧ va_P (dC, dI) vwCl [(h0, .inr (6, [.ref tp, .int ts, .int fn, .int fp, .ref rd, .ref gd, .ref im, .ref rw, .ref gn, .ref ho, .ref sq])), (gd, .inr (0, [.ref pl, .int gdl, .long gdh, .long gdw, .int gdi, .int gde, .int gdc, .ref gdt, .int gdg, .ref gdu, .int gdn, .ref gdx])), (pl, .inr (3, [.int plw, .int pld, .int plc, .int pls, .long plm, .ref plf, .ref plo, .ref plb, .ref pla])), (plf, .inl (plkf, 40, .inl plF)), (plb, .inl (plkb, 40, .inr (.inl plB)))] U.heap ∧ va_K (dC, dI) vwCl [(plkf, .int), (plkb, .long)] U ∧ va_D (fun _ => True) [(h0, .inr (6, [.ref tp, .int ts, .int fn, .int fp, .ref rd, .ref gd, .ref im, .ref rw, .ref gn, .ref ho, .ref sq])), (gd, .inr (0, [.ref pl, .int gdl, .long gdh, .long gdw, .int gdi, .int gde, .int gdc, .ref gdt, .int gdg, .ref gdu, .int gdn, .ref gdx])), (pl, .inr (3, [.int plw, .int pld, .int plc, .int pls, .long plm, .ref plf, .ref plo, .ref plb, .ref pla])), (plf, .inl (plkf, 40, .inl plF)), (plb, .inl (plkb, 40, .inr (.inl plB)))])) (va_Qi (fun (r : Int32) (u : Unit) => True) (fun (u : Unit) (t : State) => va_P (dC, dI) vwCl [(h0, .inr (6, [.ref tp, .int ts, .int fn, .int fp, .ref rd, .ref gd, .ref im, .ref rw, .ref gn, .ref ho, .ref sq])), (gd, .inr (0, [.ref pl, .int gdl, .long gdh, .long gdw, .int gdi, .int gde, .int gdc, .ref gdt, .int gdg, .ref gdu, .int gdn, .ref gdx])), (pl, .inr (3, [.int plw, .int pld, .int plc, .int pls, .long plm, .ref plf, .ref plo, .ref plb, .ref pla])), (plf, .inl (plkf, 40, .inl plF)), (plb, .inl (plkb, 40, .inr (.inl plB)))] t.heap ∧ va_K (dC, dI) vwCl [] t ∧ va_D (va_A [(h0, .inr (6, [.ref tp, .int ts, .int fn, .int fp, .ref rd, .ref gd, .ref im, .ref rw, .ref gn, .ref ho, .ref sq])), (gd, .inr (0, [.ref pl, .int gdl, .long gdh, .long gdw, .int gdi, .int gde, .int gdc, .ref gdt, .int gdg, .ref gdu, .int gdn, .ref gdx])), (pl, .inr (3, [.int plw, .int pld, .int plc, .int pls, .long plm, .ref plf, .ref plo, .ref plb, .ref pla])), (plf, .inl (plkf, 40, .inl plF)), (plb, .inl (plkb, 40, .inr (.inl plB)))] sz) [(h0, .inr (6, [.ref tp, .int ts, .int fn, .int fp, .ref rd, .ref gd, .ref im, .ref rw, .ref gn, .ref ho, .ref sq])), (gd, .inr (0, [.ref pl, .int gdl, .long gdh, .long gdw, .int gdi, .int gde, .int gdc, .ref gdt, .int gdg, .ref gdu, .int gdn, .ref gdx])), (pl, .inr (3, [.int plw, .int pld, .int plc, .int pls, .long plm, .ref plf, .ref plo, .ref plb, .ref pla])), (plf, .inl (plkf, 40, .inl plF)), (plb, .inl (plkb, 40, .inr (.inl plB)))]) (va_A [(h0, .inr (6, [.ref tp, .int ts, .int fn, .int fp, .ref rd, .ref gd, .ref im, .ref rw, .ref gn, .ref ho, .ref sq])), (gd, .inr (0, [.ref pl, .int gdl, .long gdh, .long gdw, .int gdi, .int gde, .int gdc, .ref gdt, .int gdg, .ref gdu, .int gdn, .ref gdx])), (pl, .inr (3, [.int plw, .int pld, .int plc, .int pls, .long plm, .ref plf, .ref plo, .ref plb, .ref pla])), (plf, .inl (plkf, 40, .inl plF)), (plb, .inl (plkb, 40, .inr (.inl plB)))] sz)) 0 0 (va_A [(h0, .inr (6, [.ref tp, .int ts, .int fn, .int fp, .ref rd, .ref gd, .ref im, .ref rw, .ref gn, .ref ho, .ref sq])), (gd, .inr (0, [.ref pl, .int gdl, .long gdh, .long gdw, .int gdi, .int gde, .int gdc, .ref gdt, .int gdg, .ref gdu, .int gdn, .ref gdx])), (pl, .inr (3, [.int plw, .int pld, .int plc, .int pls, .long plm, .ref plf, .ref plo, .ref plb, .ref pla])), (plf, .inl (plkf, 40, .inl plF)), (plb, .inl (plkb, 40, .inr (.inl plB)))] sz) := by
  refine Met.ofW (cc := cX6_bridge) (maxL := 6) (ret := (some .int)) (by decide) rfl ?_
  intro p e s m args below meth c s₁ B hml hv
  obtain ⟨rfl, hsz, hP, hK, hD0⟩ := hv
  have hx := B.exec
  have hb := B.bytes
  have hr := B.returns
  have hts := atoms_spec (ws := wz_X6_bridge) B.pre
  have hown : s.vm.findClass RX6 = some m.cls := findClass_of_methodNamed B.named
  have hlocks := B.notSynchronized
  subst hsz
  have hD := hD0.self (sz := s.heap.size)
  generalize hAe : va_A [(h0, .inr (6, [.ref tp, .int ts, .int fn, .int fp, .ref rd, .ref gd, .ref im, .ref rw, .ref gn, .ref ho, .ref sq])), (gd, .inr (0, [.ref pl, .int gdl, .long gdh, .long gdw, .int gdi, .int gde, .int gdc, .ref gdt, .int gdg, .ref gdu, .int gdn, .ref gdx])), (pl, .inr (3, [.int plw, .int pld, .int plc, .int pls, .long plm, .ref plf, .ref plo, .ref plb, .ref pla])), (plf, .inl (plkf, 40, .inl plF)), (plb, .inl (plkb, 40, .inr (.inl plB)))] s.heap.size = A at hD ⊢
  have hA : ∀ q : Nat, s.heap.size ≤ q → A q := fun q h => by rw [← hAe]; exact Or.inr h
  have hS : va_S A s.heap s.heap [] := va_S.rf
  have hP : va_P (dC, dI) vwCl [(h0, .inr (6, [.ref tp, .int ts, .int fn, .int fp, .ref rd, .ref gd, .ref im, .ref rw, .ref gn, .ref ho, .ref sq])), (gd, .inr (0, [.ref pl, .int gdl, .long gdh, .long gdw, .int gdi, .int gde, .int gdc, .ref gdt, .int gdg, .ref gdu, .int gdn, .ref gdx])), (pl, .inr (3, [.int plw, .int pld, .int plc, .int pls, .long plm, .ref plf, .ref plo, .ref plb, .ref pla])), (plf, .inl (plkf, 40, .inl plF)), (plb, .inl (plkb, 40, .inr (.inl plB)))] s.heap := hP
  have hl := lv_entry ([.ref h0, .int p0]) (n := 6) (Nat.le_of_ble_eq_true rfl)
  rw [lg_entry_eq]
  generalize (lg_sl ([.ref h0, .int p0]) ++ List.replicate (6 - (lg_sl ([.ref h0, .int p0])).length) Slot.unset).toArray = ls at hl ⊢
  have hl : lv_has ls 6 [(0, .ref h0), (1, .int p0)] := hl
  refine lv_aload_n hx hb dX6_bridge_0 rfl (lv_at hl 0 rfl) ?_
  have hPc := hP.sub (ws' := [(h0, .inr (6, [.ref tp, .int ts, .int fn, .int fp, .ref rd, .ref gd, .ref im, .ref rw, .ref gn, .ref ho, .ref sq])), (gd, .inr (0, [.ref pl, .int gdl, .long gdh, .long gdw, .int gdi, .int gde, .int gdc, .ref gdt, .int gdg, .ref gdu, .int gdn, .ref gdx]))]) [0, 1] rfl
  have hDc := hD.sub (ws' := [(h0, .inr (6, [.ref tp, .int ts, .int fn, .int fp, .ref rd, .ref gd, .ref im, .ref rw, .ref gn, .ref ho, .ref sq])), (gd, .inr (0, [.ref pl, .int gdl, .long gdh, .long gdw, .int gdi, .int gde, .int gdc, .ref gdt, .int gdg, .ref gdu, .int gdn, .ref gdx]))]) [0, 1] (by decide) rfl
  have hKc := hK.sub (tys' := []) [] rfl
  have hFc := va_free (wc := [(h0, .inr (6, [.ref tp, .int ts, .int fn, .int fp, .ref rd, .ref gd, .ref im, .ref rw, .ref gn, .ref ho, .ref sq])), (gd, .inr (0, [.ref pl, .int gdl, .long gdh, .long gdw, .int gdi, .int gde, .int gdc, .ref gdt, .int gdg, .ref gdu, .int gdn, .ref gdx]))]) hD hS hA [0, 1] rfl
  refine va_calli (va_runV (As := []) (rest := []) ⟨hx, hb, hml, hown, hts⟩ (c_X6_hasMaze l dC dI s.heap.size h0 tp ts fn fp rd gd im rw gn ho sq gdl gdh gdw gdi gde gdc gdt gdg gdu gdn gdx pl ) (cwV 0 hts g_X6_bridge_X6_hasMaze rfl rfl rfl (by decide +kernel) ⟨Nat.le_of_ble_eq_true rfl, Nat.le_of_ble_eq_true rfl⟩) ⟨fun a U g mk q => by obtain ⟨q0, q1, qP, qK, qD⟩ := q; exact ⟨q0, q1, qP, va_K.moved (u := U) (U := U.calling g mk a) (Vm.Alike.refl U.vm) qK, qD⟩, va_recv hKc hPc (ci := 6) (q0 := 0) rfl rfl, fun U hU hW => ⟨rfl, by rw [hU], by rw [hU]; exact hPc, va_K.moved hW.alike hKc, hDc.weaken (fun _ _ _ _ => trivial)⟩⟩ rfl rfl hl.1 rfl (lv_room (Nat.le_of_ble_eq_true rfl)) dX6_bridge_1 ⟨Nat.le_of_ble_eq_true rfl, Nat.le_of_ble_eq_true rfl⟩) hS (fun q _ h => hFc q h) hFc (fun r_1 u t H1 locs ht hvm hw_2 hB hz1 hk1 hS => ?_)
  obtain ⟨hP1, hK1, hD1⟩ := hB
  have hP1 : va_P (dC, dI) vwCl [(h0, .inr (6, [.ref tp, .int ts, .int fn, .int fp, .ref rd, .ref gd, .ref im, .ref rw, .ref gn, .ref ho, .ref sq])), (gd, .inr (0, [.ref pl, .int gdl, .long gdh, .long gdw, .int gdi, .int gde, .int gdc, .ref gdt, .int gdg, .ref gdu, .int gdn, .ref gdx]))] t.heap := hP1
  rw [ht] at hP1
  try dsimp only at hw_2
  obtain ⟨hP, hD⟩ := va_join (wr := [(pl, .inr (3, [.int plw, .int pld, .int plc, .int pls, .long plm, .ref plf, .ref plo, .ref plb, .ref pla])), (plf, .inl (plkf, 40, .inl plF)), (plb, .inl (plkb, 40, .inr (.inl plB)))]) (w1 := [(h0, .inr (6, [.ref tp, .int ts, .int fn, .int fp, .ref rd, .ref gd, .ref im, .ref rw, .ref gn, .ref ho, .ref sq])), (gd, .inr (0, [.ref pl, .int gdl, .long gdh, .long gdw, .int gdi, .int gde, .int gdc, .ref gdt, .int gdg, .ref gdu, .int gdn, .ref gdx]))]) hP hD [0, 1] [2, 3, 4] rfl rfl (by decide) (by decide) hk1 hFc hP1 hD1
  generalize H1 = H at hP hS ⊢
  have hP : va_P (dC, dI) vwCl [(pl, .inr (3, [.int plw, .int pld, .int plc, .int pls, .long plm, .ref plf, .ref plo, .ref plb, .ref pla])), (plf, .inl (plkf, 40, .inl plF)), (plb, .inl (plkb, 40, .inr (.inl plB))), (h0, .inr (6, [.ref tp, .int ts, .int fn, .int fp, .ref rd, .ref gd, .ref im, .ref rw, .ref gn, .ref ho, .ref sq])), (gd, .inr (0, [.ref pl, .int gdl, .long gdh, .long gdw, .int gdi, .int gde, .int gdc, .ref gdt, .int gdg, .ref gdu, .int gdn, .ref gdx]))] H := hP
  have hD : va_D A [(pl, .inr (3, [.int plw, .int pld, .int plc, .int pls, .long plm, .ref plf, .ref plo, .ref plb, .ref pla])), (plf, .inl (plkf, 40, .inl plF)), (plb, .inl (plkb, 40, .inr (.inl plB))), (h0, .inr (6, [.ref tp, .int ts, .int fn, .int fp, .ref rd, .ref gd, .ref im, .ref rw, .ref gn, .ref ho, .ref sq])), (gd, .inr (0, [.ref pl, .int gdl, .long gdh, .long gdw, .int gdi, .int gde, .int gdc, .ref gdt, .int gdg, .ref gdu, .int gdn, .ref gdx]))] := hD
  rcases i_bool hw_2 with ⟨r_19, hC⟩ | ⟨r_19, hC⟩
  · obtain rfl : r_1 = 1 := r_19
    have hC_3 := hC
    refine lv_if_eq (tgt := 12) hx hb dX6_bridge_4 (by decide) (fun h => absurd h (by decide)) (fun _ => ?_)
    refine lv_iload_n hx hb dX6_bridge_7 rfl (lv_at hl 1 rfl) ?_
    refine lv_iconst (v := -1) hx hb dX6_bridge_8 (by decide) ?_
    refine lv_icmp_ge (tgt := 15) hx hb dX6_bridge_9 (by decide) (fun c_5 => ?_) (fun c_5 => ?_)
    · have c_5 : (-1) ≤ p0.toInt := i_le (a := -1) (b := p0) (by decide) rfl c_5
      refine lv_aload_n hx hb dX6_bridge_15 rfl (lv_at hl 0 rfl) ?_
      refine va_get (D := (dC, dI)) (ci := 6) (v := .ref gd) (C := RX6) (T := TX6) (N := 11) hx hb hts in_X6_bridge_X6 hown hK hP 3 rfl rfl 5 (by decide) (hts _ wd_X6_bridge_0) (fun _ h9 => h9) rfl dX6_bridge_16 ?_
      have hPc := hP.sub (ws' := [(gd, .inr (0, [.ref pl, .int gdl, .long gdh, .long gdw, .int gdi, .int gde, .int gdc, .ref gdt, .int gdg, .ref gdu, .int gdn, .ref gdx])), (pl, .inr (3, [.int plw, .int pld, .int plc, .int pls, .long plm, .ref plf, .ref plo, .ref plb, .ref pla]))]) [4, 0] rfl
      have hDc := hD.sub (ws' := [(gd, .inr (0, [.ref pl, .int gdl, .long gdh, .long gdw, .int gdi, .int gde, .int gdc, .ref gdt, .int gdg, .ref gdu, .int gdn, .ref gdx])), (pl, .inr (3, [.int plw, .int pld, .int plc, .int pls, .long plm, .ref plf, .ref plo, .ref plb, .ref pla]))]) [4, 0] (by decide) rfl
      have hKc := hK.sub (tys' := []) [] rfl
      have hFc := va_free (wc := [(gd, .inr (0, [.ref pl, .int gdl, .long gdh, .long gdw, .int gdi, .int gde, .int gdc, .ref gdt, .int gdg, .ref gdu, .int gdn, .ref gdx])), (pl, .inr (3, [.int plw, .int pld, .int plc, .int pls, .long plm, .ref plf, .ref plo, .ref plb, .ref pla]))]) hD hS hA [4, 0] rfl
      refine va_calll (va_runV (As := []) (rest := []) ⟨hx, hb, hml, hown, hts⟩ (c_X0_openSides l dC dI H.size gd gdl gdh gdw gdi gde gdc gdt gdg gdu gdn gdx pl plw pld plc pls plm plf plo plb pla ) (cwV 0 hts g_X6_bridge_X0_openSides rfl rfl rfl (by decide +kernel) ⟨Nat.le_of_ble_eq_true rfl, Nat.le_of_ble_eq_true rfl⟩) ⟨fun a U g mk q => by obtain ⟨q0, q1, qP, qK, qD⟩ := q; exact ⟨q0, q1, qP, va_K.moved (u := U) (U := U.calling g mk a) (Vm.Alike.refl U.vm) qK, qD⟩, va_recv hKc hPc (ci := 0) (q0 := 0) rfl rfl, fun U hU hW => ⟨rfl, by rw [hU], by rw [hU]; exact hPc, va_K.moved hW.alike hKc, hDc.weaken (fun _ _ _ _ => trivial)⟩⟩ rfl rfl hl.1 rfl (lv_room (Nat.le_of_ble_eq_true rfl)) dX6_bridge_19 ⟨Nat.le_of_ble_eq_true rfl, Nat.le_of_ble_eq_true rfl⟩) hS (fun q _ h => hFc q h) hFc (fun r_6 u t H1 locs ht hvm hw_7 hB hz1 hk1 hS => ?_)
      obtain ⟨hP1, hK1, hD1⟩ := hB
      have hP1 : va_P (dC, dI) vwCl [(gd, .inr (0, [.ref pl, .int gdl, .long gdh, .long gdw, .int gdi, .int gde, .int gdc, .ref gdt, .int gdg, .ref gdu, .int gdn, .ref gdx])), (pl, .inr (3, [.int plw, .int pld, .int plc, .int pls, .long plm, .ref plf, .ref plo, .ref plb, .ref pla]))] t.heap := hP1
      rw [ht] at hP1
      try dsimp only at hw_7
      obtain ⟨hP, hD⟩ := va_join (wr := [(plf, .inl (plkf, 40, .inl plF)), (plb, .inl (plkb, 40, .inr (.inl plB))), (h0, .inr (6, [.ref tp, .int ts, .int fn, .int fp, .ref rd, .ref gd, .ref im, .ref rw, .ref gn, .ref ho, .ref sq]))]) (w1 := [(gd, .inr (0, [.ref pl, .int gdl, .long gdh, .long gdw, .int gdi, .int gde, .int gdc, .ref gdt, .int gdg, .ref gdu, .int gdn, .ref gdx])), (pl, .inr (3, [.int plw, .int pld, .int plc, .int pls, .long plm, .ref plf, .ref plo, .ref plb, .ref pla]))]) hP hD [4, 0] [1, 2, 3] rfl rfl (by decide) (by decide) hk1 hFc hP1 hD1
      generalize H1 = H at hP hS ⊢
      have hP : va_P (dC, dI) vwCl [(plf, .inl (plkf, 40, .inl plF)), (plb, .inl (plkb, 40, .inr (.inl plB))), (h0, .inr (6, [.ref tp, .int ts, .int fn, .int fp, .ref rd, .ref gd, .ref im, .ref rw, .ref gn, .ref ho, .ref sq])), (gd, .inr (0, [.ref pl, .int gdl, .long gdh, .long gdw, .int gdi, .int gde, .int gdc, .ref gdt, .int gdg, .ref gdu, .int gdn, .ref gdx])), (pl, .inr (3, [.int plw, .int pld, .int plc, .int pls, .long plm, .ref plf, .ref plo, .ref plb, .ref pla]))] H := hP
      have hD : va_D A [(plf, .inl (plkf, 40, .inl plF)), (plb, .inl (plkb, 40, .inr (.inl plB))), (h0, .inr (6, [.ref tp, .int ts, .int fn, .int fp, .ref rd, .ref gd, .ref im, .ref rw, .ref gn, .ref ho, .ref sq])), (gd, .inr (0, [.ref pl, .int gdl, .long gdh, .long gdw, .int gdi, .int gde, .int gdc, .ref gdt, .int gdg, .ref gdu, .int gdn, .ref gdx])), (pl, .inr (3, [.int plw, .int pld, .int plc, .int pls, .long plm, .ref plf, .ref plo, .ref plb, .ref pla]))] := hD
      refine lv_lstore_n (lv' := [(2, .long r_6), (0, .ref h0), (1, .int p0)]) hx hb dX6_bridge_22 rfl hl (by decide) rfl (fun ls hl => ?_)
      refine lv_aload_n hx hb dX6_bridge_23 rfl (lv_at hl 1 rfl) ?_
      refine va_get (D := (dC, dI)) (ci := 6) (v := .ref gd) (C := RX6) (T := TX6) (N := 11) hx hb hts in_X6_bridge_X6 hown hK hP 2 rfl rfl 5 (by decide) (hts _ wd_X6_bridge_0) (fun _ h9 => h9) rfl dX6_bridge_24 ?_
      refine va_get (D := (dC, dI)) (ci := 0) (v := .ref pl) (C := RX0) (T := TX0) (N := 12) hx hb hts in_X6_bridge_X0 hown hK hP 3 rfl rfl 0 (by decide) (hts _ wd_X6_bridge_1) (fun _ h9 => h9) rfl dX6_bridge_27 ?_
      refine lv_lload_n hx hb dX6_bridge_30 rfl (lv_at hl 0 rfl) ?_
      have hPc := hP.sub (ws' := [(pl, .inr (3, [.int plw, .int pld, .int plc, .int pls, .long plm, .ref plf, .ref plo, .ref plb, .ref pla])), (plf, .inl (plkf, 40, .inl plF)), (plb, .inl (plkb, 40, .inr (.inl plB)))]) [4, 0, 1] rfl
      have hDc := hD.sub (ws' := [(pl, .inr (3, [.int plw, .int pld, .int plc, .int pls, .long plm, .ref plf, .ref plo, .ref plb, .ref pla])), (plf, .inl (plkf, 40, .inl plF)), (plb, .inl (plkb, 40, .inr (.inl plB)))]) [4, 0, 1] (by decide) rfl
      have hKc := hK.sub (tys' := [(plkf, .int), (plkb, .long)]) [0, 1] rfl
      have hFc := va_free (wc := [(pl, .inr (3, [.int plw, .int pld, .int plc, .int pls, .long plm, .ref plf, .ref plo, .ref plb, .ref pla])), (plf, .inl (plkf, 40, .inl plF)), (plb, .inl (plkb, 40, .inr (.inl plB)))]) hD hS hA [4, 0, 1] rfl
      refine va_calll (va_runV (As := [.long r_6]) (rest := []) ⟨hx, hb, hml, hown, hts⟩ (c_X3_bridges l dC dI H.size pl plw pld plc pls plm plf plo plb pla plkf plF plkb plB r_6 (by omega) hR_plf) (cwV 1 hts g_X6_bridge_X3_bridges rfl rfl rfl (by decide +kernel) ⟨Nat.le_of_ble_eq_true rfl, Nat.le_of_ble_eq_true rfl⟩) ⟨fun a U g mk q => by obtain ⟨q0, q1, qP, qK, qD⟩ := q; exact ⟨q0, q1, qP, va_K.moved (u := U) (U := U.calling g mk a) (Vm.Alike.refl U.vm) qK, qD⟩, va_recv hKc hPc (ci := 3) (q0 := 0) rfl rfl, fun U hU hW => ⟨rfl, by rw [hU], by rw [hU]; exact hPc, va_K.moved hW.alike hKc, hDc.weaken (fun _ _ _ _ => trivial)⟩⟩ rfl rfl hl.1 rfl (lv_room (Nat.le_of_ble_eq_true rfl)) dX6_bridge_31 ⟨Nat.le_of_ble_eq_true rfl, Nat.le_of_ble_eq_true rfl⟩) hS (fun q _ h => hFc q h) hFc (fun r_8 u t H1 locs ht hvm hw_9 hB hz1 hk1 hS => ?_)
      obtain ⟨hP1, hK1, hD1⟩ := hB
      have hP1 : va_P (dC, dI) vwCl [(pl, .inr (3, [.int plw, .int pld, .int plc, .int pls, .long plm, .ref plf, .ref plo, .ref plb, .ref pla])), (plf, .inl (plkf, 40, .inl plF)), (plb, .inl (plkb, 40, .inr (.inl plB)))] t.heap := hP1
      rw [ht] at hP1
      try dsimp only at hw_9
      obtain ⟨hP, hD⟩ := va_join (wr := [(h0, .inr (6, [.ref tp, .int ts, .int fn, .int fp, .ref rd, .ref gd, .ref im, .ref rw, .ref gn, .ref ho, .ref sq])), (gd, .inr (0, [.ref pl, .int gdl, .long gdh, .long gdw, .int gdi, .int gde, .int gdc, .ref gdt, .int gdg, .ref gdu, .int gdn, .ref gdx]))]) (w1 := [(pl, .inr (3, [.int plw, .int pld, .int plc, .int pls, .long plm, .ref plf, .ref plo, .ref plb, .ref pla])), (plf, .inl (plkf, 40, .inl plF)), (plb, .inl (plkb, 40, .inr (.inl plB)))]) hP hD [4, 0, 1] [2, 3] rfl rfl (by decide) (by decide) hk1 hFc hP1 hD1
      generalize H1 = H at hP hS ⊢
      have hP : va_P (dC, dI) vwCl [(h0, .inr (6, [.ref tp, .int ts, .int fn, .int fp, .ref rd, .ref gd, .ref im, .ref rw, .ref gn, .ref ho, .ref sq])), (gd, .inr (0, [.ref pl, .int gdl, .long gdh, .long gdw, .int gdi, .int gde, .int gdc, .ref gdt, .int gdg, .ref gdu, .int gdn, .ref gdx])), (pl, .inr (3, [.int plw, .int pld, .int plc, .int pls, .long plm, .ref plf, .ref plo, .ref plb, .ref pla])), (plf, .inl (plkf, 40, .inl plF)), (plb, .inl (plkb, 40, .inr (.inl plB)))] H := hP
      have hD : va_D A [(h0, .inr (6, [.ref tp, .int ts, .int fn, .int fp, .ref rd, .ref gd, .ref im, .ref rw, .ref gn, .ref ho, .ref sq])), (gd, .inr (0, [.ref pl, .int gdl, .long gdh, .long gdw, .int gdi, .int gde, .int gdc, .ref gdt, .int gdg, .ref gdu, .int gdn, .ref gdx])), (pl, .inr (3, [.int plw, .int pld, .int plc, .int pls, .long plm, .ref plf, .ref plo, .ref plb, .ref pla])), (plf, .inl (plkf, 40, .inl plF)), (plb, .inl (plkb, 40, .inr (.inl plB)))] := hD
      refine lv_lstore (lv' := [(4, .long r_8), (2, .long r_6), (0, .ref h0), (1, .int p0)]) hx hb dX6_bridge_34 hl (by decide) rfl (fun ls hl => ?_)
      refine lv_iload_n hx hb dX6_bridge_36 rfl (lv_at hl 3 rfl) ?_
      refine lv_iconst (v := -1) hx hb dX6_bridge_37 (by decide) ?_
      refine lv_icmp_ne (tgt := 49) hx hb dX6_bridge_38 (by decide) (fun c_10 => ?_) (fun c_10 => ?_)
      · have c_10 : p0.toInt ≠ (-1) := i_ne (a := p0) (b := -1) rfl (by decide) c_10
        refine lv_aload_n hx hb dX6_bridge_49 rfl (lv_at hl 2 rfl) ?_
        refine va_get (D := (dC, dI)) (ci := 6) (v := .ref gd) (C := RX6) (T := TX6) (N := 11) hx hb hts in_X6_bridge_X6 hown hK hP 0 rfl rfl 5 (by decide) (hts _ wd_X6_bridge_0) (fun _ h9 => h9) rfl dX6_bridge_50 ?_
        refine va_get (D := (dC, dI)) (ci := 0) (v := .ref pl) (C := RX0) (T := TX0) (N := 12) hx hb hts in_X6_bridge_X0 hown hK hP 1 rfl rfl 0 (by decide) (hts _ wd_X6_bridge_1) (fun _ h9 => h9) rfl dX6_bridge_53 ?_
        refine lv_lload hx hb dX6_bridge_56 (lv_at hl 0 rfl) ?_
        refine lv_iload_n hx hb dX6_bridge_58 rfl (lv_at hl 3 rfl) ?_
        have hPc := hP.sub (ws' := [(pl, .inr (3, [.int plw, .int pld, .int plc, .int pls, .long plm, .ref plf, .ref plo, .ref plb, .ref pla])), (plb, .inl (plkb, 40, .inr (.inl plB)))]) [2, 4] rfl
        have hDc := hD.sub (ws' := [(pl, .inr (3, [.int plw, .int pld, .int plc, .int pls, .long plm, .ref plf, .ref plo, .ref plb, .ref pla])), (plb, .inl (plkb, 40, .inr (.inl plB)))]) [2, 4] (by decide) rfl
        have hKc := hK.sub (tys' := [(plkb, .long)]) [1] rfl
        have hFc := va_free (wc := [(pl, .inr (3, [.int plw, .int pld, .int plc, .int pls, .long plm, .ref plf, .ref plo, .ref plb, .ref pla])), (plb, .inl (plkb, 40, .inr (.inl plB)))]) hD hS hA [2, 4] rfl
        refine va_calli (va_runV (As := [.long r_8, .int p0]) (rest := []) ⟨hx, hb, hml, hown, hts⟩ (c_X3_pick l dC dI H.size pl plw pld plc pls plm plf plo plb pla plkb plB r_8 p0 (by omega)) (cwV 2 hts g_X6_bridge_X3_pick rfl rfl rfl (by decide +kernel) ⟨Nat.le_of_ble_eq_true rfl, Nat.le_of_ble_eq_true rfl⟩) ⟨fun a U g mk q => by obtain ⟨q0, q1, qP, qK, qD⟩ := q; exact ⟨q0, q1, qP, va_K.moved (u := U) (U := U.calling g mk a) (Vm.Alike.refl U.vm) qK, qD⟩, va_recv hKc hPc (ci := 3) (q0 := 0) rfl rfl, fun U hU hW => ⟨rfl, by rw [hU], by rw [hU]; exact hPc, va_K.moved hW.alike hKc, hDc.weaken (fun _ _ _ _ => trivial)⟩⟩ rfl rfl hl.1 rfl (lv_room (Nat.le_of_ble_eq_true rfl)) dX6_bridge_59 ⟨Nat.le_of_ble_eq_true rfl, Nat.le_of_ble_eq_true rfl⟩) hS (fun q _ h => hFc q h) hFc (fun r_11 u t H1 locs ht hvm hw_12 hB hz1 hk1 hS => ?_)
        obtain ⟨hP1, hK1, hD1⟩ := hB
        have hP1 : va_P (dC, dI) vwCl [(pl, .inr (3, [.int plw, .int pld, .int plc, .int pls, .long plm, .ref plf, .ref plo, .ref plb, .ref pla])), (plb, .inl (plkb, 40, .inr (.inl plB)))] t.heap := hP1
        rw [ht] at hP1
        try dsimp only at hw_12
        obtain ⟨hP, hD⟩ := va_join (wr := [(h0, .inr (6, [.ref tp, .int ts, .int fn, .int fp, .ref rd, .ref gd, .ref im, .ref rw, .ref gn, .ref ho, .ref sq])), (gd, .inr (0, [.ref pl, .int gdl, .long gdh, .long gdw, .int gdi, .int gde, .int gdc, .ref gdt, .int gdg, .ref gdu, .int gdn, .ref gdx])), (plf, .inl (plkf, 40, .inl plF))]) (w1 := [(pl, .inr (3, [.int plw, .int pld, .int plc, .int pls, .long plm, .ref plf, .ref plo, .ref plb, .ref pla])), (plb, .inl (plkb, 40, .inr (.inl plB)))]) hP hD [2, 4] [0, 1, 3] rfl rfl (by decide) (by decide) hk1 hFc hP1 hD1
        generalize H1 = H at hP hS ⊢
        have hP : va_P (dC, dI) vwCl [(h0, .inr (6, [.ref tp, .int ts, .int fn, .int fp, .ref rd, .ref gd, .ref im, .ref rw, .ref gn, .ref ho, .ref sq])), (gd, .inr (0, [.ref pl, .int gdl, .long gdh, .long gdw, .int gdi, .int gde, .int gdc, .ref gdt, .int gdg, .ref gdu, .int gdn, .ref gdx])), (plf, .inl (plkf, 40, .inl plF)), (pl, .inr (3, [.int plw, .int pld, .int plc, .int pls, .long plm, .ref plf, .ref plo, .ref plb, .ref pla])), (plb, .inl (plkb, 40, .inr (.inl plB)))] H := hP
        have hD : va_D A [(h0, .inr (6, [.ref tp, .int ts, .int fn, .int fp, .ref rd, .ref gd, .ref im, .ref rw, .ref gn, .ref ho, .ref sq])), (gd, .inr (0, [.ref pl, .int gdl, .long gdh, .long gdw, .int gdi, .int gde, .int gdc, .ref gdt, .int gdg, .ref gdu, .int gdn, .ref gdx])), (plf, .inl (plkf, 40, .inl plF)), (pl, .inr (3, [.int plw, .int pld, .int plc, .int pls, .long plm, .ref plf, .ref plo, .ref plb, .ref pla])), (plb, .inl (plkb, 40, .inr (.inl plB)))] := hD
        have hP9 := hP.sub (ws' := [(h0, .inr (6, [.ref tp, .int ts, .int fn, .int fp, .ref rd, .ref gd, .ref im, .ref rw, .ref gn, .ref ho, .ref sq])), (gd, .inr (0, [.ref pl, .int gdl, .long gdh, .long gdw, .int gdi, .int gde, .int gdc, .ref gdt, .int gdg, .ref gdu, .int gdn, .ref gdx])), (pl, .inr (3, [.int plw, .int pld, .int plc, .int pls, .long plm, .ref plf, .ref plo, .ref plb, .ref pla])), (plf, .inl (plkf, 40, .inl plF)), (plb, .inl (plkb, 40, .inr (.inl plB)))]) [0, 1, 3, 2, 4] rfl
        have hD9 := hD.sub (ws' := [(h0, .inr (6, [.ref tp, .int ts, .int fn, .int fp, .ref rd, .ref gd, .ref im, .ref rw, .ref gn, .ref ho, .ref sq])), (gd, .inr (0, [.ref pl, .int gdl, .long gdh, .long gdw, .int gdi, .int gde, .int gdc, .ref gdt, .int gdg, .ref gdu, .int gdn, .ref gdx])), (pl, .inr (3, [.int plw, .int pld, .int plc, .int pls, .long plm, .ref plf, .ref plo, .ref plb, .ref pla])), (plf, .inl (plkf, 40, .inl plF)), (plb, .inl (plkb, 40, .inr (.inl plB)))]) [0, 1, 3, 2, 4] (by decide) rfl
        have hK9 := hK.sub (tys' := []) [] rfl
        refine W.widen (k := 0) (n := 0) (by omega) (by omega) ?_
        exact W.iret (v := r_11) hx hb hr (fun t ht hW => ⟨⟨r_11, (), rfl, trivial, by rw [ht]; exact hP9, va_K.moved hW.alike hK9, hD9⟩, hS.F ht⟩) hS.2.2 dX6_bridge_62
      · have c_10 : p0.toInt = (-1) := i_eq (a := p0) (b := -1) rfl (by decide) c_10
        refine lv_lload hx hb dX6_bridge_41 (lv_at hl 0 rfl) ?_
        have hPc := hP.sub (ws' := []) [] rfl
        have hDc := hD.sub (ws' := []) [] (by decide) rfl
        have hKc := hK.sub (tys' := []) [] rfl
        have hFc := va_free (wc := []) hD hS hA [] rfl
        refine va_calli (va_runS (As := [.long r_8]) (rest := []) ⟨hx, hb, hml, hown, hts⟩ (c_J13_bitCount_95d88 l dC dI H.size r_8 ) (va_cwS 1 hts g_X6_bridge_J13_bitCount_95d88 rfl rfl rfl (by decide +kernel) ⟨Nat.le_of_ble_eq_true rfl, Nat.le_of_ble_eq_true rfl⟩) ⟨fun a U g mk q => by obtain ⟨q0, q1, qP, qK, qD⟩ := q; exact ⟨q0, q1, qP, va_K.moved (u := U) (U := U.calling g mk a) (Vm.Alike.refl U.vm) qK, qD⟩, fun U hU hW => ⟨rfl, by rw [hU], by rw [hU]; exact hPc, va_K.moved hW.alike hKc, hDc.weaken (fun _ _ _ _ => trivial)⟩⟩ rfl rfl hl.1 rfl (lv_room (Nat.le_of_ble_eq_true rfl)) dX6_bridge_43 ⟨Nat.le_of_ble_eq_true rfl, Nat.le_of_ble_eq_true rfl⟩) hS (fun q _ h => hFc q h) hFc (fun r_13 u t H1 locs ht hvm hw_14 hB hz1 hk1 hS => ?_)
        have hP1 : va_P (dC, dI) vwCl [] H1 := i_nilP
        have hD1 : va_D (va_A [] H.size) [] := i_nilD
        try dsimp only at hw_14
        obtain ⟨hP, hD⟩ := va_join (wr := [(h0, .inr (6, [.ref tp, .int ts, .int fn, .int fp, .ref rd, .ref gd, .ref im, .ref rw, .ref gn, .ref ho, .ref sq])), (gd, .inr (0, [.ref pl, .int gdl, .long gdh, .long gdw, .int gdi, .int gde, .int gdc, .ref gdt, .int gdg, .ref gdu, .int gdn, .ref gdx])), (pl, .inr (3, [.int plw, .int pld, .int plc, .int pls, .long plm, .ref plf, .ref plo, .ref plb, .ref pla])), (plf, .inl (plkf, 40, .inl plF)), (plb, .inl (plkb, 40, .inr (.inl plB)))]) (w1 := []) hP hD [] [0, 1, 2, 3, 4] rfl rfl (by decide) (by decide) hk1 hFc hP1 hD1
        generalize H1 = H at hP hS ⊢
        have hP : va_P (dC, dI) vwCl [(h0, .inr (6, [.ref tp, .int ts, .int fn, .int fp, .ref rd, .ref gd, .ref im, .ref rw, .ref gn, .ref ho, .ref sq])), (gd, .inr (0, [.ref pl, .int gdl, .long gdh, .long gdw, .int gdi, .int gde, .int gdc, .ref gdt, .int gdg, .ref gdu, .int gdn, .ref gdx])), (pl, .inr (3, [.int plw, .int pld, .int plc, .int pls, .long plm, .ref plf, .ref plo, .ref plb, .ref pla])), (plf, .inl (plkf, 40, .inl plF)), (plb, .inl (plkb, 40, .inr (.inl plB)))] H := hP
        have hD : va_D A [(h0, .inr (6, [.ref tp, .int ts, .int fn, .int fp, .ref rd, .ref gd, .ref im, .ref rw, .ref gn, .ref ho, .ref sq])), (gd, .inr (0, [.ref pl, .int gdl, .long gdh, .long gdw, .int gdi, .int gde, .int gdc, .ref gdt, .int gdg, .ref gdu, .int gdn, .ref gdx])), (pl, .inr (3, [.int plw, .int pld, .int plc, .int pls, .long plm, .ref plf, .ref plo, .ref plb, .ref pla])), (plf, .inl (plkf, 40, .inl plF)), (plb, .inl (plkb, 40, .inr (.inl plB)))] := hD
        refine lv_goto (tgt := 62) hx hb dX6_bridge_46 (by decide) ?_
        have hP9 := hP.sub (ws' := [(h0, .inr (6, [.ref tp, .int ts, .int fn, .int fp, .ref rd, .ref gd, .ref im, .ref rw, .ref gn, .ref ho, .ref sq])), (gd, .inr (0, [.ref pl, .int gdl, .long gdh, .long gdw, .int gdi, .int gde, .int gdc, .ref gdt, .int gdg, .ref gdu, .int gdn, .ref gdx])), (pl, .inr (3, [.int plw, .int pld, .int plc, .int pls, .long plm, .ref plf, .ref plo, .ref plb, .ref pla])), (plf, .inl (plkf, 40, .inl plF)), (plb, .inl (plkb, 40, .inr (.inl plB)))]) [0, 1, 2, 3, 4] rfl
        have hD9 := hD.sub (ws' := [(h0, .inr (6, [.ref tp, .int ts, .int fn, .int fp, .ref rd, .ref gd, .ref im, .ref rw, .ref gn, .ref ho, .ref sq])), (gd, .inr (0, [.ref pl, .int gdl, .long gdh, .long gdw, .int gdi, .int gde, .int gdc, .ref gdt, .int gdg, .ref gdu, .int gdn, .ref gdx])), (pl, .inr (3, [.int plw, .int pld, .int plc, .int pls, .long plm, .ref plf, .ref plo, .ref plb, .ref pla])), (plf, .inl (plkf, 40, .inl plF)), (plb, .inl (plkb, 40, .inr (.inl plB)))]) [0, 1, 2, 3, 4] (by decide) rfl
        have hK9 := hK.sub (tys' := []) [] rfl
        refine W.widen (k := 0) (n := 0) (by omega) (by omega) ?_
        exact W.iret (v := r_13) hx hb hr (fun t ht hW => ⟨⟨r_13, (), rfl, trivial, by rw [ht]; exact hP9, va_K.moved hW.alike hK9, hD9⟩, hS.F ht⟩) hS.2.2 dX6_bridge_62
    · have c_5 : p0.toInt < (-1) := i_nle (a := -1) (b := p0) (by decide) rfl c_5
      refine lv_bipush (v := -2) hx hb dX6_bridge_12 (by decide) ?_
      have hP9 := hP.sub (ws' := [(h0, .inr (6, [.ref tp, .int ts, .int fn, .int fp, .ref rd, .ref gd, .ref im, .ref rw, .ref gn, .ref ho, .ref sq])), (gd, .inr (0, [.ref pl, .int gdl, .long gdh, .long gdw, .int gdi, .int gde, .int gdc, .ref gdt, .int gdg, .ref gdu, .int gdn, .ref gdx])), (pl, .inr (3, [.int plw, .int pld, .int plc, .int pls, .long plm, .ref plf, .ref plo, .ref plb, .ref pla])), (plf, .inl (plkf, 40, .inl plF)), (plb, .inl (plkb, 40, .inr (.inl plB)))]) [3, 4, 0, 1, 2] rfl
      have hD9 := hD.sub (ws' := [(h0, .inr (6, [.ref tp, .int ts, .int fn, .int fp, .ref rd, .ref gd, .ref im, .ref rw, .ref gn, .ref ho, .ref sq])), (gd, .inr (0, [.ref pl, .int gdl, .long gdh, .long gdw, .int gdi, .int gde, .int gdc, .ref gdt, .int gdg, .ref gdu, .int gdn, .ref gdx])), (pl, .inr (3, [.int plw, .int pld, .int plc, .int pls, .long plm, .ref plf, .ref plo, .ref plb, .ref pla])), (plf, .inl (plkf, 40, .inl plF)), (plb, .inl (plkb, 40, .inr (.inl plB)))]) [3, 4, 0, 1, 2] (by decide) rfl
      have hK9 := hK.sub (tys' := []) [] rfl
      refine W.widen (k := 0) (n := 0) (by omega) (by omega) ?_
      exact W.iret (v := -2) hx hb hr (fun t ht hW => ⟨⟨(-2), (), rfl, trivial, by rw [ht]; exact hP9, va_K.moved hW.alike hK9, hD9⟩, hS.F ht⟩) hS.2.2 dX6_bridge_14
  · obtain rfl : r_1 = 0 := r_19
    have hC_15 := hC
    refine lv_if_eq (tgt := 12) hx hb dX6_bridge_4 (by decide) (fun _ => ?_) (fun h => absurd (by decide) h)
    refine lv_bipush (v := -2) hx hb dX6_bridge_12 (by decide) ?_
    have hP9 := hP.sub (ws' := [(h0, .inr (6, [.ref tp, .int ts, .int fn, .int fp, .ref rd, .ref gd, .ref im, .ref rw, .ref gn, .ref ho, .ref sq])), (gd, .inr (0, [.ref pl, .int gdl, .long gdh, .long gdw, .int gdi, .int gde, .int gdc, .ref gdt, .int gdg, .ref gdu, .int gdn, .ref gdx])), (pl, .inr (3, [.int plw, .int pld, .int plc, .int pls, .long plm, .ref plf, .ref plo, .ref plb, .ref pla])), (plf, .inl (plkf, 40, .inl plF)), (plb, .inl (plkb, 40, .inr (.inl plB)))]) [3, 4, 0, 1, 2] rfl
    have hD9 := hD.sub (ws' := [(h0, .inr (6, [.ref tp, .int ts, .int fn, .int fp, .ref rd, .ref gd, .ref im, .ref rw, .ref gn, .ref ho, .ref sq])), (gd, .inr (0, [.ref pl, .int gdl, .long gdh, .long gdw, .int gdi, .int gde, .int gdc, .ref gdt, .int gdg, .ref gdu, .int gdn, .ref gdx])), (pl, .inr (3, [.int plw, .int pld, .int plc, .int pls, .long plm, .ref plf, .ref plo, .ref plb, .ref pla])), (plf, .inl (plkf, 40, .inl plF)), (plb, .inl (plkb, 40, .inr (.inl plB)))]) [3, 4, 0, 1, 2] (by decide) rfl
    have hK9 := hK.sub (tys' := []) [] rfl
    refine W.widen (k := 0) (n := 0) (by omega) (by omega) ?_
    exact W.iret (v := -2) hx hb hr (fun t ht hW => ⟨⟨(-2), (), rfl, trivial, by rw [ht]; exact hP9, va_K.moved hW.alike hK9, hD9⟩, hS.F ht⟩) hS.2.2 dX6_bridge_14

theorem dX6_lawful_0 : decode cX6_lawful 0 = .ok (.aload_n 0, 1) := by decide +kernel
theorem dX6_lawful_1 : decode cX6_lawful 1 = .ok (.iload_n 1, 1) := by decide +kernel
theorem dX6_lawful_2 : decode cX6_lawful 2 = .ok (.i2l, 1) := by decide +kernel
theorem dX6_lawful_3 : decode cX6_lawful 3 = .ok (.invokevirtual 107, 3) := by decide +kernel
theorem dX6_lawful_6 : decode cX6_lawful 6 = .ok (.ifCond .eq 12, 3) := by decide +kernel
theorem dX6_lawful_9 : decode cX6_lawful 9 = .ok (.aload_n 0, 1) := by decide +kernel
theorem dX6_lawful_10 : decode cX6_lawful 10 = .ok (.iload_n 2, 1) := by decide +kernel
theorem dX6_lawful_11 : decode cX6_lawful 11 = .ok (.i2l, 1) := by decide +kernel
theorem dX6_lawful_12 : decode cX6_lawful 12 = .ok (.invokevirtual 107, 3) := by decide +kernel
theorem dX6_lawful_15 : decode cX6_lawful 15 = .ok (.ifCond .ne 6, 3) := by decide +kernel
theorem dX6_lawful_18 : decode cX6_lawful 18 = .ok (.bipush (-2), 2) := by decide +kernel
theorem dX6_lawful_20 : decode cX6_lawful 20 = .ok (.ireturn, 1) := by decide +kernel
theorem dX6_lawful_21 : decode cX6_lawful 21 = .ok (.aload_n 0, 1) := by decide +kernel
theorem dX6_lawful_22 : decode cX6_lawful 22 = .ok (.getfield 33, 3) := by decide +kernel
theorem dX6_lawful_25 : decode cX6_lawful 25 = .ok (.aload_n 0, 1) := by decide +kernel
theorem dX6_lawful_26 : decode cX6_lawful 26 = .ok (.getfield 33, 3) := by decide +kernel
theorem dX6_lawful_29 : decode cX6_lawful 29 = .ok (.getfield 117, 3) := by decide +kernel
theorem dX6_lawful_32 : decode cX6_lawful 32 = .ok (.iload_n 1, 1) := by decide +kernel
theorem dX6_lawful_33 : decode cX6_lawful 33 = .ok (.iload_n 2, 1) := by decide +kernel
theorem dX6_lawful_34 : decode cX6_lawful 34 = .ok (.invokevirtual 183, 3) := by decide +kernel
theorem dX6_lawful_37 : decode cX6_lawful 37 = .ok (.ireturn, 1) := by decide +kernel
def wz_X6_lawful : List Cond := .code yX6_lawful cX6_lawful 3 (some .int) :: ([Cond.fieldLink RX6 33 "HedgeMaze" "garden" "LHedgeMaze$Garden;", Cond.fieldLink RX6 117 "HedgeMaze$Garden" "hedges" "J", Cond.methodLink RX6 107 yX6_isSide, Cond.instanceMethod yX6_isSide, Cond.selects RX6 yX6_isSide yX6_isSide, Cond.initialized RX6, Cond.code yX6_isSide cX6_isSide 3 (some .boolean), Cond.fieldLink RX6 90 "HedgeMaze$Garden" "plan" "LHedgeMaze$Plan;", Cond.fieldLink RX6 94 "HedgeMaze$Plan" "sideCount" "I", Cond.methodLink RX6 183 yX0_judge, Cond.instanceMethod yX0_judge, Cond.selects RX0 yX0_judge yX0_judge, Cond.initialized RX0, Cond.code yX0_judge cX0_judge 7 (some .int), Cond.fieldLink RX0 12 "HedgeMaze$Garden" "plan" "LHedgeMaze$Plan;", Cond.methodLink RX0 97 yX3_has, Cond.instanceMethod yX3_has, Cond.selects RX3 yX3_has yX3_has, Cond.initialized RX3, Cond.code yX3_has cX3_has 4 (some .boolean), Cond.methodLink RX3 58 yX3_bitOf, Cond.instanceMethod yX3_bitOf, Cond.selects RX3 yX3_bitOf yX3_bitOf, Cond.code yX3_bitOf cX3_bitOf 3 (some .long), Cond.fieldLink RX3 21 "HedgeMaze$Plan" "sideCount" "I", Cond.fieldLink RX3 35 "HedgeMaze$Plan" "bits" "[J", Cond.methodLink RX0 71 yX0_openWith, Cond.instanceMethod yX0_openWith, Cond.selects RX0 yX0_openWith yX0_openWith, Cond.code yX0_openWith cX0_openWith 3 (some .long), Cond.fieldLink RX0 75 "HedgeMaze$Plan" "allSides" "J", Cond.fieldLink RX0 26 "HedgeMaze$Garden" "walls" "J", Cond.constantLong RX0 78 (-1), Cond.methodLink RX0 101 yX0_sidesByLaw, Cond.instanceMethod yX0_sidesByLaw, Cond.selects RX0 yX0_sidesByLaw yX0_sidesByLaw, Cond.code yX0_sidesByLaw cX0_sidesByLaw 2 (some .long), Cond.fieldLink RX0 29 "HedgeMaze$Garden" "isNear" "Z", Cond.methodLink RX0 93 yX3_sidesNear, Cond.instanceMethod yX3_sidesNear, Cond.selects RX3 yX3_sidesNear yX3_sidesNear, Cond.code yX3_sidesNear cX3_sidesNear 5 (some .long), Cond.constantLong RX3 65 (-1), Cond.fieldLink RX3 28 "HedgeMaze$Plan" "first" "[I", Cond.fieldLink RX3 32 "HedgeMaze$Plan" "other" "[I", Cond.methodLink RX3 62 yX3_sideAt, Cond.instanceMethod yX3_sideAt, Cond.selects RX3 yX3_sideAt yX3_sideAt, Cond.code yX3_sideAt cX3_sideAt 4 (some .int), Cond.fieldLink RX3 39 "HedgeMaze$Plan" "around" "[I", Cond.methodLink RX0 104 yX3_partBeside, Cond.instanceMethod yX3_partBeside, Cond.selects RX3 yX3_partBeside yX3_partBeside, Cond.code yX3_partBeside cX3_partBeside 4 (some .int), Cond.methodLink RX3 79 yX3_allCells, Cond.instanceMethod yX3_allCells, Cond.selects RX3 yX3_allCells yX3_allCells, Cond.code yX3_allCells cX3_allCells 1 (some .int), Cond.fieldLink RX3 18 "HedgeMaze$Plan" "cellCount" "I", Cond.methodLink RX3 75 yX3_spread, Cond.instanceMethod yX3_spread, Cond.selects RX3 yX3_spread yX3_spread, Cond.code yX3_spread cX3_spread 9 (some .int), Cond.methodLink RX3 42 Lib.Math.min.name, Cond.static Lib.Math.min.name, Cond.initialized "java/lang/Math", Cond.code Lib.Math.min.name Lib.Math.min.code 2 (some .int), Cond.methodLink RX3 71 yX3_grow, Cond.instanceMethod yX3_grow, Cond.selects RX3 yX3_grow yX3_grow, Cond.code yX3_grow cX3_grow 6 (some .int), Cond.fieldLink RX3 9 "HedgeMaze$Plan" "wide" "I", Cond.methodLink RX0 108 yX3_joins, Cond.instanceMethod yX3_joins, Cond.selects RX3 yX3_joins yX3_joins, Cond.code yX3_joins cX3_joins 3 (some .boolean)] ++ wsX60 ++ wsX00 ++ wsX30)
theorem wd_X6_lawful_0 : Cond.fieldLink RX6 33 "HedgeMaze" "garden" "LHedgeMaze$Garden;" ∈ wz_X6_lawful := List.mem_of_getElem? (i := 1) rfl
theorem wd_X6_lawful_1 : Cond.fieldLink RX6 117 "HedgeMaze$Garden" "hedges" "J" ∈ wz_X6_lawful := List.mem_of_getElem? (i := 2) rfl
theorem in_X6_lawful_X6 : ∀ w ∈ wsX60, w ∈ wz_X6_lawful := fun _ h => List.mem_cons_of_mem _ (List.mem_append_left _ (List.mem_append_left _ (List.mem_append_right _ h)))
theorem in_X6_lawful_X0 : ∀ w ∈ wsX00, w ∈ wz_X6_lawful := fun _ h => List.mem_cons_of_mem _ (List.mem_append_left _ (List.mem_append_right _ h))
set_option maxRecDepth 20000 in
theorem g_X6_lawful_X6_isSide : GoodIn wz_X6_lawful (wsV RX6 107 RX6 yX6_isSide wz_X6_isSide) := goodIn_r _ [3, 4, 5, 6, 7, 1, 8, 9, 77, 78, 79, 80, 81, 82, 83, 84, 85, 86, 87, 88, 89, 90, 91, 92, 93, 94, 95, 96, 97, 98, 99, 100, 101, 102, 103, 104, 105, 106, 107, 108] rfl (by decide +kernel)
set_option maxRecDepth 20000 in
theorem g_X6_lawful_X0_judge : GoodIn wz_X6_lawful (wsV RX6 183 RX0 yX0_judge wz_X0_judge) := goodIn_r _ [10, 11, 12, 13, 14, 15, 16, 17, 18, 19, 20, 21, 22, 23, 24, 25, 26, 27, 28, 29, 13, 30, 31, 32, 33, 34, 35, 36, 37, 38, 39, 40, 41, 42, 43, 44, 45, 46, 47, 48, 49, 50, 51, 52, 53, 54, 55, 56, 57, 58, 59, 60, 61, 62, 63, 64, 65, 66, 67, 68, 69, 70, 71, 72, 73, 74, 75, 76, 88, 89, 90, 91, 92, 93, 94, 95, 96, 97, 98, 99, 100, 101, 102, 103, 104, 105, 106, 107, 108] rfl (by decide +kernel)
set_option maxHeartbeats 4000000 in
set_option maxRecDepth 100000 in
theorem c_X6_lawful (l : Launch) (dC : Nat → ClassId) (dI : Nat → Nat → Nat) (sz : Nat) (h0 : Nat) (tp : Nat) (ts : Int32) (fn : Int32) (fp : Int32) (rd : Nat) (gd : Nat) (im : Nat) (rw : Nat) (gn : Nat) (ho : Nat) (sq : Nat) (gdl : Int32) (gdh : Int64) (gdw : Int64) (gdi : Int32) (gde : Int32) (gdc : Int32) (gdt : Nat) (gdg : Int32) (gdu : Nat) (gdn : Int32) (gdx : Nat) (pl : Nat) (plw : Int32) (pld : Int32) (plc : Int32) (pls : Int32) (plm : Int64) (plf : Nat) (plo : Nat) (plb : Nat) (pla : Nat) (plkf : ClassId) (plF : Nat → Int32) (plko : ClassId) (plO : Nat → Int32) (plkb : ClassId) (plB : Nat → Int64) (plka : ClassId) (plA : Nat → Int32) (p0 : Int32) (p1 : Int32) (h_pls : 0 ≤ pls.toInt ∧ pls.toInt ≤ 40) (hR_plf : RG plF 40 0 24) (hR_plo : RG plO 40 0 24) : Met l yX6_lawful wz_X6_lawful ({ frames := 4, cells := 0, slots := 0, locals := 117 }) (va_Pc [.ref h0, .int p0, .int p1] (fun U => U.heap.size = sz ∧ va_P (dC, dI) vwCl [(h0, .inr (6, [.ref tp, .int ts, .int fn, .int fp, .ref rd, .ref gd, .ref im, .ref rw, .ref gn, .ref ho, .ref sq])), (gd, .inr (0, [.ref pl, .int gdl, .long gdh, .long gdw, .int gdi, .int gde, .int gdc, .ref gdt, .int gdg, .ref gdu, .int gdn, .ref gdx])), (pl, .inr (3, [.int plw, .int pld, .int plc, .int pls, .long plm, .ref plf, .ref plo, .ref plb, .ref pla])), (plf, .inl (plkf, 40, .inl plF)), (plo, .inl (plko, 40, .inl plO)), (plb, .inl (plkb, 40, .inr (.inl plB))), (pla, .inl (plka, 100, .inl plA))] U.heap ∧ va_K (dC, dI) vwCl [(plkf, .int), (plko, .int), (plkb, .long), (plka, .int)] U ∧ va_D (fun _ => True) [(h0, .inr (6, [.ref tp, .int ts, .int fn, .int fp, .ref rd, .ref gd, .ref im, .ref rw, .ref gn, .ref ho, .ref sq])), (gd, .inr (0, [.ref pl, .int gdl, .long gdh, .long gdw, .int gdi, .int gde, .int gdc, .ref gdt, .int gdg, .ref gdu, .int gdn, .ref gdx])), (pl, .inr (3, [.int plw, .int pld, .int plc, .int pls, .long plm, .ref plf, .ref plo, .ref plb, .ref pla])), (plf, .inl (plkf, 40, .inl plF)), (plo, .inl (plko, 40, .inl plO)), (plb, .inl (plkb, 40, .inr (.inl plB))), (pla, .inl (plka, 100, .inl plA))])) (va_Qi (fun (r : Int32) (u : Unit) => True) (fun (u : Unit) (t : State) => va_P (dC, dI) vwCl [(h0, .inr (6, [.ref tp, .int ts, .int fn, .int fp, .ref rd, .ref gd, .ref im, .ref rw, .ref gn, .ref ho, .ref sq])), (gd, .inr (0, [.ref pl, .int gdl, .long gdh, .long gdw, .int gdi, .int gde, .int gdc, .ref gdt, .int gdg, .ref gdu, .int gdn, .ref gdx])), (pl, .inr (3, [.int plw, .int pld, .int plc, .int pls, .long plm, .ref plf, .ref plo, .ref plb, .ref pla])), (plf, .inl (plkf, 40, .inl plF)), (plo, .inl (plko, 40, .inl plO)), (plb, .inl (plkb, 40, .inr (.inl plB))), (pla, .inl (plka, 100, .inl plA))] t.heap ∧ va_K (dC, dI) vwCl [] t ∧ va_D (va_A [(h0, .inr (6, [.ref tp, .int ts, .int fn, .int fp, .ref rd, .ref gd, .ref im, .ref rw, .ref gn, .ref ho, .ref sq])), (gd, .inr (0, [.ref pl, .int gdl, .long gdh, .long gdw, .int gdi, .int gde, .int gdc, .ref gdt, .int gdg, .ref gdu, .int gdn, .ref gdx])), (pl, .inr (3, [.int plw, .int pld, .int plc, .int pls, .long plm, .ref plf, .ref plo, .ref plb, .ref pla])), (plf, .inl (plkf, 40, .inl plF)), (plo, .inl (plko, 40, .inl plO)), (plb, .inl (plkb, 40, .inr (.inl plB))), (pla, .inl (plka, 100, .inl plA))] sz) [(h0, .inr (6, [.ref tp, .int ts, .int fn, .int fp, .ref rd, .ref gd, .ref im, .ref rw, .ref gn, .ref ho, .ref sq])), (gd, .inr (0, [.ref pl, .int gdl, .long gdh, .long gdw, .int gdi, .int gde, .int gdc, .ref gdt, .int gdg, .ref gdu, .int gdn, .ref gdx])), (pl, .inr (3, [.int plw, .int pld, .int plc, .int pls, .long plm, .ref plf, .ref plo, .ref plb, .ref pla])), (plf, .inl (plkf, 40, .inl plF)), (plo, .inl (plko, 40, .inl plO)), (plb, .inl (plkb, 40, .inr (.inl plB))), (pla, .inl (plka, 100, .inl plA))]) (va_A [(h0, .inr (6, [.ref tp, .int ts, .int fn, .int fp, .ref rd, .ref gd, .ref im, .ref rw, .ref gn, .ref ho, .ref sq])), (gd, .inr (0, [.ref pl, .int gdl, .long gdh, .long gdw, .int gdi, .int gde, .int gdc, .ref gdt, .int gdg, .ref gdu, .int gdn, .ref gdx])), (pl, .inr (3, [.int plw, .int pld, .int plc, .int pls, .long plm, .ref plf, .ref plo, .ref plb, .ref pla])), (plf, .inl (plkf, 40, .inl plF)), (plo, .inl (plko, 40, .inl plO)), (plb, .inl (plkb, 40, .inr (.inl plB))), (pla, .inl (plka, 100, .inl plA))] sz)) 0 0 (va_A [(h0, .inr (6, [.ref tp, .int ts, .int fn, .int fp, .ref rd, .ref gd, .ref im, .ref rw, .ref gn, .ref ho, .ref sq])), (gd, .inr (0, [.ref pl, .int gdl, .long gdh, .long gdw, .int gdi, .int gde, .int gdc, .ref gdt, .int gdg, .ref gdu, .int gdn, .ref gdx])), (pl, .inr (3, [.int plw, .int pld, .int plc, .int pls, .long plm, .ref plf, .ref plo, .ref plb, .ref pla])), (plf, .inl (plkf, 40, .inl plF)), (plo, .inl (plko, 40, .inl plO)), (plb, .inl (plkb, 40, .inr (.inl plB))), (pla, .inl (plka, 100, .inl plA))] sz) := by
  refine Met.ofW (cc := cX6_lawful) (maxL := 3) (ret := (some .int)) (by decide) rfl ?_
  intro p e s m args below meth c s₁ B hml hv
  obtain ⟨rfl, hsz, hP, hK, hD0⟩ := hv
  have hx := B.exec
  have hb := B.bytes
  have hr := B.returns
  have hts := atoms_spec (ws := wz_X6_lawful) B.pre
  have hown : s.vm.findClass RX6 = some m.cls := findClass_of_methodNamed B.named
  have hlocks := B.notSynchronized
  subst hsz
  have hD := hD0.self (sz := s.heap.size)
  generalize hAe : va_A [(h0, .inr (6, [.ref tp, .int ts, .int fn, .int fp, .ref rd, .ref gd, .ref im, .ref rw, .ref gn, .ref ho, .ref sq])), (gd, .inr (0, [.ref pl, .int gdl, .long gdh, .long gdw, .int gdi, .int gde, .int gdc, .ref gdt, .int gdg, .ref gdu, .int gdn, .ref gdx])), (pl, .inr (3, [.int plw, .int pld, .int plc, .int pls, .long plm, .ref plf, .ref plo, .ref plb, .ref pla])), (plf, .inl (plkf, 40, .inl plF)), (plo, .inl (plko, 40, .inl plO)), (plb, .inl (plkb, 40, .inr (.inl plB))), (pla, .inl (plka, 100, .inl plA))] s.heap.size = A at hD ⊢
  have hA : ∀ q : Nat, s.heap.size ≤ q → A q := fun q h => by rw [← hAe]; exact Or.inr h
  have hS : va_S A s.heap s.heap [] := va_S.rf
  have hP : va_P (dC, dI) vwCl [(h0, .inr (6, [.ref tp, .int ts, .int fn, .int fp, .ref rd, .ref gd, .ref im, .ref rw, .ref gn, .ref ho, .ref sq])), (gd, .inr (0, [.ref pl, .int gdl, .long gdh, .long gdw, .int gdi, .int gde, .int gdc, .ref gdt, .int gdg, .ref gdu, .int gdn, .ref gdx])), (pl, .inr (3, [.int plw, .int pld, .int plc, .int pls, .long plm, .ref plf, .ref plo, .ref plb, .ref pla])), (plf, .inl (plkf, 40, .inl plF)), (plo, .inl (plko, 40, .inl plO)), (plb, .inl (plkb, 40, .inr (.inl plB))), (pla, .inl (plka, 100, .inl plA))] s.heap := hP
  have hl := lv_entry ([.ref h0, .int p0, .int p1]) (n := 3) (Nat.le_of_ble_eq_true rfl)
  rw [lg_entry_eq]
  generalize (lg_sl ([.ref h0, .int p0, .int p1]) ++ List.replicate (3 - (lg_sl ([.ref h0, .int p0, .int p1])).length) Slot.unset).toArray = ls at hl ⊢
  have hl : lv_has ls 3 [(0, .ref h0), (1, .int p0), (2, .int p1)] := hl
  refine lv_aload_n hx hb dX6_lawful_0 rfl (lv_at hl 0 rfl) ?_
  refine lv_iload_n hx hb dX6_lawful_1 rfl (lv_at hl 1 rfl) ?_
  refine lv_i2l (v := p0.toInt64) hx hb dX6_lawful_2 rfl ?_
  have hPc := hP.sub (ws' := [(h0, .inr (6, [.ref tp, .int ts, .int fn, .int fp, .ref rd, .ref gd, .ref im, .ref rw, .ref gn, .ref ho, .ref sq])), (gd, .inr (0, [.ref pl, .int gdl, .long gdh, .long gdw, .int gdi, .int gde, .int gdc, .ref gdt, .int gdg, .ref gdu, .int gdn, .ref gdx])), (pl, .inr (3, [.int plw, .int pld, .int plc, .int pls, .long plm, .ref plf, .ref plo, .ref plb, .ref pla]))]) [0, 1, 2] rfl
  have hDc := hD.sub (ws' := [(h0, .inr (6, [.ref tp, .int ts, .int fn, .int fp, .ref rd, .ref gd, .ref im, .ref rw, .ref gn, .ref ho, .ref sq])), (gd, .inr (0, [.ref pl, .int gdl, .long gdh, .long gdw, .int gdi, .int gde, .int gdc, .ref gdt, .int gdg, .ref gdu, .int gdn, .ref gdx])), (pl, .inr (3, [.int plw, .int pld, .int plc, .int pls, .long plm, .ref plf, .ref plo, .ref plb, .ref pla]))]) [0, 1, 2] (by decide) rfl
  have hKc := hK.sub (tys' := []) [] rfl
  have hFc := va_free (wc := [(h0, .inr (6, [.ref tp, .int ts, .int fn, .int fp, .ref rd, .ref gd, .ref im, .ref rw, .ref gn, .ref ho, .ref sq])), (gd, .inr (0, [.ref pl, .int gdl, .long gdh, .long gdw, .int gdi, .int gde, .int gdc, .ref gdt, .int gdg, .ref gdu, .int gdn, .ref gdx])), (pl, .inr (3, [.int plw, .int pld, .int plc, .int pls, .long plm, .ref plf, .ref plo, .ref plb, .ref pla]))]) hD hS hA [0, 1, 2] rfl
  refine va_calli (va_runV (As := [.long p0.toInt64]) (rest := []) ⟨hx, hb, hml, hown, hts⟩ (c_X6_isSide l dC dI s.heap.size h0 tp ts fn fp rd gd im rw gn ho sq gdl gdh gdw gdi gde gdc gdt gdg gdu gdn gdx pl plw pld plc pls plm plf plo plb pla p0.toInt64 p0.toInt ((i_wide rfl))) (cwV 1 hts g_X6_lawful_X6_isSide rfl rfl rfl (by decide +kernel) ⟨Nat.le_of_ble_eq_true rfl, Nat.le_of_ble_eq_true rfl⟩) ⟨fun a U g mk q => by obtain ⟨q0, q1, qP, qK, qD⟩ := q; exact ⟨q0, q1, qP, va_K.moved (u := U) (U := U.calling g mk a) (Vm.Alike.refl U.vm) qK, qD⟩, va_recv hKc hPc (ci := 6) (q0 := 0) rfl rfl, fun U hU hW => ⟨rfl, by rw [hU], by rw [hU]; exact hPc, va_K.moved hW.alike hKc, hDc.weaken (fun _ _ _ _ => trivial)⟩⟩ rfl rfl hl.1 rfl (lv_room (Nat.le_of_ble_eq_true rfl)) dX6_lawful_3 ⟨Nat.le_of_ble_eq_true rfl, Nat.le_of_ble_eq_true rfl⟩) hS (fun q _ h => hFc q h) hFc (fun r_1 u t H1 locs ht hvm hw_2 hB hz1 hk1 hS => ?_)
  obtain ⟨hP1, hK1, hD1⟩ := hB
  have hP1 : va_P (dC, dI) vwCl [(h0, .inr (6, [.ref tp, .int ts, .int fn, .int fp, .ref rd, .ref gd, .ref im, .ref rw, .ref gn, .ref ho, .ref sq])), (gd, .inr (0, [.ref pl, .int gdl, .long gdh, .long gdw, .int gdi, .int gde, .int gdc, .ref gdt, .int gdg, .ref gdu, .int gdn, .ref gdx])), (pl, .inr (3, [.int plw, .int pld, .int plc, .int pls, .long plm, .ref plf, .ref plo, .ref plb, .ref pla]))] t.heap := hP1
  rw [ht] at hP1
  try dsimp only at hw_2
  obtain ⟨hP, hD⟩ := va_join (wr := [(plf, .inl (plkf, 40, .inl plF)), (plo, .inl (plko, 40, .inl plO)), (plb, .inl (plkb, 40, .inr (.inl plB))), (pla, .inl (plka, 100, .inl plA))]) (w1 := [(h0, .inr (6, [.ref tp, .int ts, .int fn, .int fp, .ref rd, .ref gd, .ref im, .ref rw, .ref gn, .ref ho, .ref sq])), (gd, .inr (0, [.ref pl, .int gdl, .long gdh, .long gdw, .int gdi, .int gde, .int gdc, .ref gdt, .int gdg, .ref gdu, .int gdn, .ref gdx])), (pl, .inr (3, [.int plw, .int pld, .int plc, .int pls, .long plm, .ref plf, .ref plo, .ref plb, .ref pla]))]) hP hD [0, 1, 2] [3, 4, 5, 6] rfl rfl (by decide) (by decide) hk1 hFc hP1 hD1
  generalize H1 = H at hP hS ⊢
  have hP : va_P (dC, dI) vwCl [(plf, .inl (plkf, 40, .inl plF)), (plo, .inl (plko, 40, .inl plO)), (plb, .inl (plkb, 40, .inr (.inl plB))), (pla, .inl (plka, 100, .inl plA)), (h0, .inr (6, [.ref tp, .int ts, .int fn, .int fp, .ref rd, .ref gd, .ref im, .ref rw, .ref gn, .ref ho, .ref sq])), (gd, .inr (0, [.ref pl, .int gdl, .long gdh, .long gdw, .int gdi, .int gde, .int gdc, .ref gdt, .int gdg, .ref gdu, .int gdn, .ref gdx])), (pl, .inr (3, [.int plw, .int pld, .int plc, .int pls, .long plm, .ref plf, .ref plo, .ref plb, .ref pla]))] H := hP
  have hD : va_D A [(plf, .inl (plkf, 40, .inl plF)), (plo, .inl (plko, 40, .inl plO)), (plb, .inl (plkb, 40, .inr (.inl plB))), (pla, .inl (plka, 100, .inl plA)), (h0, .inr (6, [.ref tp, .int ts, .int fn, .int fp, .ref rd, .ref gd, .ref im, .ref rw, .ref gn, .ref ho, .ref sq])), (gd, .inr (0, [.ref pl, .int gdl, .long gdh, .long gdw, .int gdi, .int gde, .int gdc, .ref gdt, .int gdg, .ref gdu, .int gdn, .ref gdx])), (pl, .inr (3, [.int plw, .int pld, .int plc, .int pls, .long plm, .ref plf, .ref plo, .ref plb, .ref pla]))] := hD
  rcases i_bool hw_2 with ⟨r_19, hC⟩ | ⟨r_19, hC⟩
  · obtain rfl : r_1 = 1 := r_19
    have hC_3 := hC
    refine lv_if_eq (tgt := 18) hx hb dX6_lawful_6 (by decide) (fun h => absurd h (by decide)) (fun _ => ?_)
    refine lv_aload_n hx hb dX6_lawful_9 rfl (lv_at hl 0 rfl) ?_
    refine lv_iload_n hx hb dX6_lawful_10 rfl (lv_at hl 2 rfl) ?_
    refine lv_i2l (v := p1.toInt64) hx hb dX6_lawful_11 rfl ?_
    have hPc := hP.sub (ws' := [(h0, .inr (6, [.ref tp, .int ts, .int fn, .int fp, .ref rd, .ref gd, .ref im, .ref rw, .ref gn, .ref ho, .ref sq])), (gd, .inr (0, [.ref pl, .int gdl, .long gdh, .long gdw, .int gdi, .int gde, .int gdc, .ref gdt, .int gdg, .ref gdu, .int gdn, .ref gdx])), (pl, .inr (3, [.int plw, .int pld, .int plc, .int pls, .long plm, .ref plf, .ref plo, .ref plb, .ref pla]))]) [4, 5, 6] rfl
    have hDc := hD.sub (ws' := [(h0, .inr (6, [.ref tp, .int ts, .int fn, .int fp, .ref rd, .ref gd, .ref im, .ref rw, .ref gn, .ref ho, .ref sq])), (gd, .inr (0, [.ref pl, .int gdl, .long gdh, .long gdw, .int gdi, .int gde, .int gdc, .ref gdt, .int gdg, .ref gdu, .int gdn, .ref gdx])), (pl, .inr (3, [.int plw, .int pld, .int plc, .int pls, .long plm, .ref plf, .ref plo, .ref plb, .ref pla]))]) [4, 5, 6] (by decide) rfl
    have hKc := hK.sub (tys' := []) [] rfl
    have hFc := va_free (wc := [(h0, .inr (6, [.ref tp, .int ts, .int fn, .int fp, .ref rd, .ref gd, .ref im, .ref rw, .ref gn, .ref ho, .ref sq])), (gd, .inr (0, [.ref pl, .int gdl, .long gdh, .long gdw, .int gdi, .int gde, .int gdc, .ref gdt, .int gdg, .ref gdu, .int gdn, .ref gdx])), (pl, .inr (3, [.int plw, .int pld, .int plc, .int pls, .long plm, .ref plf, .ref plo, .ref plb, .ref pla]))]) hD hS hA [4, 5, 6] rfl
    refine va_calli (va_runV (As := [.long p1.toInt64]) (rest := []) ⟨hx, hb, hml, hown, hts⟩ (c_X6_isSide l dC dI H.size h0 tp ts fn fp rd gd im rw gn ho sq gdl gdh gdw gdi gde gdc gdt gdg gdu gdn gdx pl plw pld plc pls plm plf plo plb pla p1.toInt64 p1.toInt ((i_wide rfl))) (cwV 1 hts g_X6_lawful_X6_isSide rfl rfl rfl (by decide +kernel) ⟨Nat.le_of_ble_eq_true rfl, Nat.le_of_ble_eq_true rfl⟩) ⟨fun a U g mk q => by obtain ⟨q0, q1, qP, qK, qD⟩ := q; exact ⟨q0, q1, qP, va_K.moved (u := U) (U := U.calling g mk a) (Vm.Alike.refl U.vm) qK, qD⟩, va_recv hKc hPc (ci := 6) (q0 := 0) rfl rfl, fun U hU hW => ⟨rfl, by rw [hU], by rw [hU]; exact hPc, va_K.moved hW.alike hKc, hDc.weaken (fun _ _ _ _ => trivial)⟩⟩ rfl rfl hl.1 rfl (lv_room (Nat.le_of_ble_eq_true rfl)) dX6_lawful_12 ⟨Nat.le_of_ble_eq_true rfl, Nat.le_of_ble_eq_true rfl⟩) hS (fun q _ h => hFc q h) hFc (fun r_5 u t H1 locs ht hvm hw_6 hB hz1 hk1 hS => ?_)
    obtain ⟨hP1, hK1, hD1⟩ := hB
    have hP1 : va_P (dC, dI) vwCl [(h0, .inr (6, [.ref tp, .int ts, .int fn, .int fp, .ref rd, .ref gd, .ref im, .ref rw, .ref gn, .ref ho, .ref sq])), (gd, .inr (0, [.ref pl, .int gdl, .long gdh, .long gdw, .int gdi, .int gde, .int gdc, .ref gdt, .int gdg, .ref gdu, .int gdn, .ref gdx])), (pl, .inr (3, [.int plw, .int pld, .int plc, .int pls, .long plm, .ref plf, .ref plo, .ref plb, .ref pla]))] t.heap := hP1
    rw [ht] at hP1
    try dsimp only at hw_6
    obtain ⟨hP, hD⟩ := va_join (wr := [(plf, .inl (plkf, 40, .inl plF)), (plo, .inl (plko, 40, .inl plO)), (plb, .inl (plkb, 40, .inr (.inl plB))), (pla, .inl (plka, 100, .inl plA))]) (w1 := [(h0, .inr (6, [.ref tp, .int ts, .int fn, .int fp, .ref rd, .ref gd, .ref im, .ref rw, .ref gn, .ref ho, .ref sq])), (gd, .inr (0, [.ref pl, .int gdl, .long gdh, .long gdw, .int gdi, .int gde, .int gdc, .ref gdt, .int gdg, .ref gdu, .int gdn, .ref gdx])), (pl, .inr (3, [.int plw, .int pld, .int plc, .int pls, .long plm, .ref plf, .ref plo, .ref plb, .ref pla]))]) hP hD [4, 5, 6] [0, 1, 2, 3] rfl rfl (by decide) (by decide) hk1 hFc hP1 hD1
    generalize H1 = H at hP hS ⊢
    have hP : va_P (dC, dI) vwCl [(plf, .inl (plkf, 40, .inl plF)), (plo, .inl (plko, 40, .inl plO)), (plb, .inl (plkb, 40, .inr (.inl plB))), (pla, .inl (plka, 100, .inl plA)), (h0, .inr (6, [.ref tp, .int ts, .int fn, .int fp, .ref rd, .ref gd, .ref im, .ref rw, .ref gn, .ref ho, .ref sq])), (gd, .inr (0, [.ref pl, .int gdl, .long gdh, .long gdw, .int gdi, .int gde, .int gdc, .ref gdt, .int gdg, .ref gdu, .int gdn, .ref gdx])), (pl, .inr (3, [.int plw, .int pld, .int plc, .int pls, .long plm, .ref plf, .ref plo, .ref plb, .ref pla]))] H := hP
    have hD : va_D A [(plf, .inl (plkf, 40, .inl plF)), (plo, .inl (plko, 40, .inl plO)), (plb, .inl (plkb, 40, .inr (.inl plB))), (pla, .inl (plka, 100, .inl plA)), (h0, .inr (6, [.ref tp, .int ts, .int fn, .int fp, .ref rd, .ref gd, .ref im, .ref rw, .ref gn, .ref ho, .ref sq])), (gd, .inr (0, [.ref pl, .int gdl, .long gdh, .long gdw, .int gdi, .int gde, .int gdc, .ref gdt, .int gdg, .ref gdu, .int gdn, .ref gdx])), (pl, .inr (3, [.int plw, .int pld, .int plc, .int pls, .long plm, .ref plf, .ref plo, .ref plb, .ref pla]))] := hD
    rcases i_bool hw_6 with ⟨r_59, hC⟩ | ⟨r_59, hC⟩
    · obtain rfl : r_5 = 1 := r_59
      have hC_7 := hC
      refine lv_if_ne (tgt := 21) hx hb dX6_lawful_15 (by decide) (fun _ => ?_) (fun h => absurd h (by decide))
      refine lv_aload_n hx hb dX6_lawful_21 rfl (lv_at hl 0 rfl) ?_
      refine va_get (D := (dC, dI)) (ci := 6) (v := .ref gd) (C := RX6) (T := TX6) (N := 11) hx hb hts in_X6_lawful_X6 hown hK hP 4 rfl rfl 5 (by decide) (hts _ wd_X6_lawful_0) (fun _ h9 => h9) rfl dX6_lawful_22 ?_
      refine lv_aload_n hx hb dX6_lawful_25 rfl (lv_at hl 0 rfl) ?_
      refine va_get (D := (dC, dI)) (ci := 6) (v := .ref gd) (C := RX6) (T := TX6) (N := 11) hx hb hts in_X6_lawful_X6 hown hK hP 4 rfl rfl 5 (by decide) (hts _ wd_X6_lawful_0) (fun _ h9 => h9) rfl dX6_lawful_26 ?_
      refine va_get (D := (dC, dI)) (ci := 0) (v := .long gdh) (C := RX0) (T := TX0) (N := 12) hx hb hts in_X6_lawful_X0 hown hK hP 5 rfl rfl 2 (by decide) (hts _ wd_X6_lawful_1) (fun _ h9 => h9) rfl dX6_lawful_29 ?_
      refine lv_iload_n hx hb dX6_lawful_32 rfl (lv_at hl 1 rfl) ?_
      refine lv_iload_n hx hb dX6_lawful_33 rfl (lv_at hl 2 rfl) ?_
      have hPc := hP.sub (ws' := [(gd, .inr (0, [.ref pl, .int gdl, .long gdh, .long gdw, .int gdi, .int gde, .int gdc, .ref gdt, .int gdg, .ref gdu, .int gdn, .ref gdx])), (pl, .inr (3, [.int plw, .int pld, .int plc, .int pls, .long plm, .ref plf, .ref plo, .ref plb, .ref pla])), (plf, .inl (plkf, 40, .inl plF)), (plo, .inl (plko, 40, .inl plO)), (plb, .inl (plkb, 40, .inr (.inl plB))), (pla, .inl (plka, 100, .inl plA))]) [5, 6, 0, 1, 2, 3] rfl
      have hDc := hD.sub (ws' := [(gd, .inr (0, [.ref pl, .int gdl, .long gdh, .long gdw, .int gdi, .int gde, .int gdc, .ref gdt, .int gdg, .ref gdu, .int gdn, .ref gdx])), (pl, .inr (3, [.int plw, .int pld, .int plc, .int pls, .long plm, .ref plf, .ref plo, .ref plb, .ref pla])), (plf, .inl (plkf, 40, .inl plF)), (plo, .inl (plko, 40, .inl plO)), (plb, .inl (plkb, 40, .inr (.inl plB))), (pla, .inl (plka, 100, .inl plA))]) [5, 6, 0, 1, 2, 3] (by decide) rfl
      have hKc := hK.sub (tys' := [(plkf, .int), (plko, .int), (plkb, .long), (plka, .int)]) [0, 1, 2, 3] rfl
      have hFc := va_free (wc := [(gd, .inr (0, [.ref pl, .int gdl, .long gdh, .long gdw, .int gdi, .int gde, .int gdc, .ref gdt, .int gdg, .ref gdu, .int gdn, .ref gdx])), (pl, .inr (3, [.int plw, .int pld, .int plc, .int pls, .long plm, .ref plf, .ref plo, .ref plb, .ref pla])), (plf, .inl (plkf, 40, .inl plF)), (plo, .inl (plko, 40, .inl plO)), (plb, .inl (plkb, 40, .inr (.inl plB))), (pla, .inl (plka, 100, .inl plA))]) hD hS hA [5, 6, 0, 1, 2, 3] rfl
      refine va_calli (va_runV (As := [.long gdh, .int p0, .int p1]) (rest := []) ⟨hx, hb, hml, hown, hts⟩ (c_X0_judge l dC dI H.size gd gdl gdh gdw gdi gde gdc gdt gdg gdu gdn gdx pl plw pld plc pls plm plf plo plb pla plkf plF plko plO plkb plB plka plA gdh p0 p1 (by omega) hR_plf hR_plo) (cwV 3 hts g_X6_lawful_X0_judge rfl rfl rfl (by decide +kernel) ⟨Nat.le_of_ble_eq_true rfl, Nat.le_of_ble_eq_true rfl⟩) ⟨fun a U g mk q => by obtain ⟨q0, q1, qP, qK, qD⟩ := q; exact ⟨q0, q1, qP, va_K.moved (u := U) (U := U.calling g mk a) (Vm.Alike.refl U.vm) qK, qD⟩, va_recv hKc hPc (ci := 0) (q0 := 0) rfl rfl, fun U hU hW => ⟨rfl, by rw [hU], by rw [hU]; exact hPc, va_K.moved hW.alike hKc, hDc.weaken (fun _ _ _ _ => trivial)⟩⟩ rfl rfl hl.1 rfl (lv_room (Nat.le_of_ble_eq_true rfl)) dX6_lawful_34 ⟨Nat.le_of_ble_eq_true rfl, Nat.le_of_ble_eq_true rfl⟩) hS (fun q _ h => hFc q h) hFc (fun r_9 u t H1 locs ht hvm hw_10 hB hz1 hk1 hS => ?_)
      obtain ⟨hP1, hK1, hD1⟩ := hB
      have hP1 : va_P (dC, dI) vwCl [(gd, .inr (0, [.ref pl, .int gdl, .long gdh, .long gdw, .int gdi, .int gde, .int gdc, .ref gdt, .int gdg, .ref gdu, .int gdn, .ref gdx])), (pl, .inr (3, [.int plw, .int pld, .int plc, .int pls, .long plm, .ref plf, .ref plo, .ref plb, .ref pla])), (plf, .inl (plkf, 40, .inl plF)), (plo, .inl (plko, 40, .inl plO)), (plb, .inl (plkb, 40, .inr (.inl plB))), (pla, .inl (plka, 100, .inl plA))] t.heap := hP1
      rw [ht] at hP1
      try dsimp only at hw_10
      obtain ⟨hP, hD⟩ := va_join (wr := [(h0, .inr (6, [.ref tp, .int ts, .int fn, .int fp, .ref rd, .ref gd, .ref im, .ref rw, .ref gn, .ref ho, .ref sq]))]) (w1 := [(gd, .inr (0, [.ref pl, .int gdl, .long gdh, .long gdw, .int gdi, .int gde, .int gdc, .ref gdt, .int gdg, .ref gdu, .int gdn, .ref gdx])), (pl, .inr (3, [.int plw, .int pld, .int plc, .int pls, .long plm, .ref plf, .ref plo, .ref plb, .ref pla])), (plf, .inl (plkf, 40, .inl plF)), (plo, .inl (plko, 40, .inl plO)), (plb, .inl (plkb, 40, .inr (.inl plB))), (pla, .inl (plka, 100, .inl plA))]) hP hD [5, 6, 0, 1, 2, 3] [4] rfl rfl (by decide) (by decide) hk1 hFc hP1 hD1
      generalize H1 = H at hP hS ⊢
      have hP : va_P (dC, dI) vwCl [(h0, .inr (6, [.ref tp, .int ts, .int fn, .int fp, .ref rd, .ref gd, .ref im, .ref rw, .ref gn, .ref ho, .ref sq])), (gd, .inr (0, [.ref pl, .int gdl, .long gdh, .long gdw, .int gdi, .int gde, .int gdc, .ref gdt, .int gdg, .ref gdu, .int gdn, .ref gdx])), (pl, .inr (3, [.int plw, .int pld, .int plc, .int pls, .long plm, .ref plf, .ref plo, .ref plb, .ref pla])), (plf, .inl (plkf, 40, .inl plF)), (plo, .inl (plko, 40, .inl plO)), (plb, .inl (plkb, 40, .inr (.inl plB))), (pla, .inl (plka, 100, .inl plA))] H := hP
      have hD : va_D A [(h0, .inr (6, [.ref tp, .int ts, .int fn, .int fp, .ref rd, .ref gd, .ref im, .ref rw, .ref gn, .ref ho, .ref sq])), (gd, .inr (0, [.ref pl, .int gdl, .long gdh, .long gdw, .int gdi, .int gde, .int gdc, .ref gdt, .int gdg, .ref gdu, .int gdn, .ref gdx])), (pl, .inr (3, [.int plw, .int pld, .int plc, .int pls, .long plm, .ref plf, .ref plo, .ref plb, .ref pla])), (plf, .inl (plkf, 40, .inl plF)), (plo, .inl (plko, 40, .inl plO)), (plb, .inl (plkb, 40, .inr (.inl plB))), (pla, .inl (plka, 100, .inl plA))] := hD
      have hP9 := hP.sub (ws' := [(h0, .inr (6, [.ref tp, .int ts, .int fn, .int fp, .ref rd, .ref gd, .ref im, .ref rw, .ref gn, .ref ho, .ref sq])), (gd, .inr (0, [.ref pl, .int gdl, .long gdh, .long gdw, .int gdi, .int gde, .int gdc, .ref gdt, .int gdg, .ref gdu, .int gdn, .ref gdx])), (pl, .inr (3, [.int plw, .int pld, .int plc, .int pls, .long plm, .ref plf, .ref plo, .ref plb, .ref pla])), (plf, .inl (plkf, 40, .inl plF)), (plo, .inl (plko, 40, .inl plO)), (plb, .inl (plkb, 40, .inr (.inl plB))), (pla, .inl (plka, 100, .inl plA))]) [0, 1, 2, 3, 4, 5, 6] rfl
      have hD9 := hD.sub (ws' := [(h0, .inr (6, [.ref tp, .int ts, .int fn, .int fp, .ref rd, .ref gd, .ref im, .ref rw, .ref gn, .ref ho, .ref sq])), (gd, .inr (0, [.ref pl, .int gdl, .long gdh, .long gdw, .int gdi, .int gde, .int gdc, .ref gdt, .int gdg, .ref gdu, .int gdn, .ref gdx])), (pl, .inr (3, [.int plw, .int pld, .int plc, .int pls, .long plm, .ref plf, .ref plo, .ref plb, .ref pla])), (plf, .inl (plkf, 40, .inl plF)), (plo, .inl (plko, 40, .inl plO)), (plb, .inl (plkb, 40, .inr (.inl plB))), (pla, .inl (plka, 100, .inl plA))]) [0, 1, 2, 3, 4, 5, 6] (by decide) rfl
      have hK9 := hK.sub (tys' := []) [] rfl
      refine W.widen (k := 0) (n := 0) (by omega) (by omega) ?_
      exact W.iret (v := r_9) hx hb hr (fun t ht hW => ⟨⟨r_9, (), rfl, trivial, by rw [ht]; exact hP9, va_K.moved hW.alike hK9, hD9⟩, hS.F ht⟩) hS.2.2 dX6_lawful_37
    · obtain rfl : r_5 = 0 := r_59
      have hC_11 := hC
      refine lv_if_ne (tgt := 21) hx hb dX6_lawful_15 (by decide) (fun h => absurd (by decide) h) (fun _ => ?_)
      refine lv_bipush (v := -2) hx hb dX6_lawful_18 (by decide) ?_
      have hP9 := hP.sub (ws' := [(h0, .inr (6, [.ref tp, .int ts, .int fn, .int fp, .ref rd, .ref gd, .ref im, .ref rw, .ref gn, .ref ho, .ref sq])), (gd, .inr (0, [.ref pl, .int gdl, .long gdh, .long gdw, .int gdi, .int gde, .int gdc, .ref gdt, .int gdg, .ref gdu, .int gdn, .ref gdx])), (pl, .inr (3, [.int plw, .int pld, .int plc, .int pls, .long plm, .ref plf, .ref plo, .ref plb, .ref pla])), (plf, .inl (plkf, 40, .inl plF)), (plo, .inl (plko, 40, .inl plO)), (plb, .inl (plkb, 40, .inr (.inl plB))), (pla, .inl (plka, 100, .inl plA))]) [4, 5, 6, 0, 1, 2, 3] rfl
      have hD9 := hD.sub (ws' := [(h0, .inr (6, [.ref tp, .int ts, .int fn, .int fp, .ref rd, .ref gd, .ref im, .ref rw, .ref gn, .ref ho, .ref sq])), (gd, .inr (0, [.ref pl, .int gdl, .long gdh, .long gdw, .int gdi, .int gde, .int gdc, .ref gdt, .int gdg, .ref gdu, .int gdn, .ref gdx])), (pl, .inr (3, [.int plw, .int pld, .int plc, .int pls, .long plm, .ref plf, .ref plo, .ref plb, .ref pla])), (plf, .inl (plkf, 40, .inl plF)), (plo, .inl (plko, 40, .inl plO)), (plb, .inl (plkb, 40, .inr (.inl plB))), (pla, .inl (plka, 100, .inl plA))]) [4, 5, 6, 0, 1, 2, 3] (by decide) rfl
      have hK9 := hK.sub (tys' := []) [] rfl
      refine W.widen (k := 0) (n := 0) (by omega) (by omega) ?_
      exact W.iret (v := -2) hx hb hr (fun t ht hW => ⟨⟨(-2), (), rfl, trivial, by rw [ht]; exact hP9, va_K.moved hW.alike hK9, hD9⟩, hS.F ht⟩) hS.2.2 dX6_lawful_20
  · obtain rfl : r_1 = 0 := r_19
    have hC_13 := hC
    refine lv_if_eq (tgt := 18) hx hb dX6_lawful_6 (by decide) (fun _ => ?_) (fun h => absurd (by decide) h)
    refine lv_bipush (v := -2) hx hb dX6_lawful_18 (by decide) ?_
    have hP9 := hP.sub (ws' := [(h0, .inr (6, [.ref tp, .int ts, .int fn, .int fp, .ref rd, .ref gd, .ref im, .ref rw, .ref gn, .ref ho, .ref sq])), (gd, .inr (0, [.ref pl, .int gdl, .long gdh, .long gdw, .int gdi, .int gde, .int gdc, .ref gdt, .int gdg, .ref gdu, .int gdn, .ref gdx])), (pl, .inr (3, [.int plw, .int pld, .int plc, .int pls, .long plm, .ref plf, .ref plo, .ref plb, .ref pla])), (plf, .inl (plkf, 40, .inl plF)), (plo, .inl (plko, 40, .inl plO)), (plb, .inl (plkb, 40, .inr (.inl plB))), (pla, .inl (plka, 100, .inl plA))]) [4, 5, 6, 0, 1, 2, 3] rfl
    have hD9 := hD.sub (ws' := [(h0, .inr (6, [.ref tp, .int ts, .int fn, .int fp, .ref rd, .ref gd, .ref im, .ref rw, .ref gn, .ref ho, .ref sq])), (gd, .inr (0, [.ref pl, .int gdl, .long gdh, .long gdw, .int gdi, .int gde, .int gdc, .ref gdt, .int gdg, .ref gdu, .int gdn, .ref gdx])), (pl, .inr (3, [.int plw, .int pld, .int plc, .int pls, .long plm, .ref plf, .ref plo, .ref plb, .ref pla])), (plf, .inl (plkf, 40, .inl plF)), (plo, .inl (plko, 40, .inl plO)), (plb, .inl (plkb, 40, .inr (.inl plB))), (pla, .inl (plka, 100, .inl plA))]) [4, 5, 6, 0, 1, 2, 3] (by decide) rfl
    have hK9 := hK.sub (tys' := []) [] rfl
    refine W.widen (k := 0) (n := 0) (by omega) (by omega) ?_
    exact W.iret (v := -2) hx hb hr (fun t ht hW => ⟨⟨(-2), (), rfl, trivial, by rw [ht]; exact hP9, va_K.moved hW.alike hK9, hD9⟩, hS.F ht⟩) hS.2.2 dX6_lawful_20

theorem dX6_stepOn_0 : decode cX6_stepOn 0 = .ok (.aload_n 0, 1) := by decide +kernel
theorem dX6_stepOn_1 : decode cX6_stepOn 1 = .ok (.getfield 33, 3) := by decide +kernel
theorem dX6_stepOn_4 : decode cX6_stepOn 4 = .ok (.getfield 90, 3) := by decide +kernel
theorem dX6_stepOn_7 : decode cX6_stepOn 7 = .ok (.iload_n 1, 1) := by decide +kernel
theorem dX6_stepOn_8 : decode cX6_stepOn 8 = .ok (.aload_n 0, 1) := by decide +kernel
theorem dX6_stepOn_9 : decode cX6_stepOn 9 = .ok (.getfield 33, 3) := by decide +kernel
theorem dX6_stepOn_12 : decode cX6_stepOn 12 = .ok (.invokevirtual 128, 3) := by decide +kernel
theorem dX6_stepOn_15 : decode cX6_stepOn 15 = .ok (.aload_n 0, 1) := by decide +kernel
theorem dX6_stepOn_16 : decode cX6_stepOn 16 = .ok (.getfield 61, 3) := by decide +kernel
theorem dX6_stepOn_19 : decode cX6_stepOn 19 = .ok (.invokevirtual 144, 3) := by decide +kernel
theorem dX6_stepOn_22 : decode cX6_stepOn 22 = .ok (.ireturn, 1) := by decide +kernel
def wz_X6_stepOn : List Cond := .code yX6_stepOn cX6_stepOn 2 (some .int) :: ([Cond.fieldLink RX6 33 "HedgeMaze" "garden" "LHedgeMaze$Garden;", Cond.fieldLink RX6 90 "HedgeMaze$Garden" "plan" "LHedgeMaze$Plan;", Cond.fieldLink RX6 61 "HedgeMaze" "stepsThere" "[I", Cond.methodLink RX6 128 yX0_openSides, Cond.instanceMethod yX0_openSides, Cond.selects RX0 yX0_openSides yX0_openSides, Cond.initialized RX0, Cond.code yX0_openSides cX0_openSides 1 (some .long), Cond.fieldLink RX0 22 "HedgeMaze$Garden" "hedges" "J", Cond.methodLink RX0 71 yX0_openWith, Cond.instanceMethod yX0_openWith, Cond.selects RX0 yX0_openWith yX0_openWith, Cond.code yX0_openWith cX0_openWith 3 (some .long), Cond.fieldLink RX0 12 "HedgeMaze$Garden" "plan" "LHedgeMaze$Plan;", Cond.fieldLink RX0 75 "HedgeMaze$Plan" "allSides" "J", Cond.fieldLink RX0 26 "HedgeMaze$Garden" "walls" "J", Cond.constantLong RX0 78 (-1), Cond.methodLink RX6 144 yX3_nextOnWay, Cond.instanceMethod yX3_nextOnWay, Cond.selects RX3 yX3_nextOnWay yX3_nextOnWay, Cond.initialized RX3, Cond.code yX3_nextOnWay cX3_nextOnWay 8 (some .int), Cond.methodLink RX3 62 yX3_sideAt, Cond.instanceMethod yX3_sideAt, Cond.selects RX3 yX3_sideAt yX3_sideAt, Cond.code yX3_sideAt cX3_sideAt 4 (some .int), Cond.fieldLink RX3 39 "HedgeMaze$Plan" "around" "[I", Cond.methodLink RX3 93 yX3_beyond, Cond.instanceMethod yX3_beyond, Cond.selects RX3 yX3_beyond yX3_beyond, Cond.code yX3_beyond cX3_beyond 3 (some .int), Cond.fieldLink RX3 21 "HedgeMaze$Plan" "sideCount" "I", Cond.fieldLink RX3 28 "HedgeMaze$Plan" "first" "[I", Cond.fieldLink RX3 32 "HedgeMaze$Plan" "other" "[I", Cond.methodLink RX3 67 yX3_has, Cond.instanceMethod yX3_has, Cond.selects RX3 yX3_has yX3_has, Cond.code yX3_has cX3_has 4 (some .boolean), Cond.methodLink RX3 58 yX3_bitOf, Cond.instanceMethod yX3_bitOf, Cond.selects RX3 yX3_bitOf yX3_bitOf, Cond.code yX3_bitOf cX3_bitOf 3 (some .long), Cond.fieldLink RX3 35 "HedgeMaze$Plan" "bits" "[J"] ++ wsX60 ++ wsX00 ++ wsX30)
theorem wd_X6_stepOn_0 : Cond.fieldLink RX6 33 "HedgeMaze" "garden" "LHedgeMaze$Garden;" ∈ wz_X6_stepOn := List.mem_of_getElem? (i := 1) rfl
theorem wd_X6_stepOn_1 : Cond.fieldLink RX6 90 "HedgeMaze$Garden" "plan" "LHedgeMaze$Plan;" ∈ wz_X6_stepOn := List.mem_of_getElem? (i := 2) rfl
theorem wd_X6_stepOn_2 : Cond.fieldLink RX6 61 "HedgeMaze" "stepsThere" "[I" ∈ wz_X6_stepOn := List.mem_of_getElem? (i := 3) rfl
theorem in_X6_stepOn_X6 : ∀ w ∈ wsX60, w ∈ wz_X6_stepOn := fun _ h => List.mem_cons_of_mem _ (List.mem_append_left _ (List.mem_append_left _ (List.mem_append_right _ h)))
theorem in_X6_stepOn_X0 : ∀ w ∈ wsX00, w ∈ wz_X6_stepOn := fun _ h => List.mem_cons_of_mem _ (List.mem_append_left _ (List.mem_append_right _ h))
set_option maxRecDepth 20000 in
theorem g_X6_stepOn_X0_openSides : GoodIn wz_X6_stepOn (wsV RX6 128 RX0 yX0_openSides wz_X0_openSides) := goodIn_r _ [4, 5, 6, 7, 8, 9, 10, 11, 12, 7, 13, 14, 15, 16, 17, 55, 56, 57, 58, 59, 60, 61, 62, 63, 64, 65, 66, 67, 68, 69, 70, 71, 72, 73, 74, 75] rfl (by decide +kernel)
set_option maxRecDepth 20000 in
theorem g_X6_stepOn_X3_nextOnWay : GoodIn wz_X6_stepOn (wsV RX6 144 RX3 yX3_nextOnWay wz_X3_nextOnWay) := goodIn_r _ [18, 19, 20, 21, 22, 23, 24, 25, 21, 26, 27, 28, 29, 30, 31, 32, 33, 34, 35, 36, 37, 38, 39, 40, 41, 42, 43, 67, 68, 69, 70, 71, 72, 73, 74, 75] rfl (by decide +kernel)
set_option maxHeartbeats 4000000 in
set_option maxRecDepth 100000 in
theorem c_X6_stepOn (l : Launch) (dC : Nat → ClassId) (dI : Nat → Nat → Nat) (sz : Nat) (h0 : Nat) (tp : Nat) (ts : Int32) (fn : Int32) (fp : Int32) (rd : Nat) (gd : Nat) (im : Nat) (rw : Nat) (gn : Nat) (ho : Nat) (sq : Nat) (gdl : Int32) (gdh : Int64) (gdw : Int64) (gdi : Int32) (gde : Int32) (gdc : Int32) (gdt : Nat) (gdg : Int32) (gdu : Nat) (gdn : Int32) (gdx : Nat) (pl : Nat) (plw : Int32) (pld : Int32) (plc : Int32) (pls : Int32) (plm : Int64) (plf : Nat) (plo : Nat) (plb : Nat) (pla : Nat) (plkf : ClassId) (plF : Nat → Int32) (plko : ClassId) (plO : Nat → Int32) (plkb : ClassId) (plB : Nat → Int64) (plka : ClassId) (plA : Nat → Int32) (ksq : ClassId) (sS : Nat → Int32) (p0 : Int32) (h_pls : 0 ≤ pls.toInt ∧ pls.toInt ≤ 40) (h_p0 : 0 ≤ p0.toInt ∧ p0.toInt ≤ 24) (hR_plf : RG plF 40 0 24) (hR_plo : RG plO 40 0 24) : Met l yX6_stepOn wz_X6_stepOn ({ frames := 3, cells := 0, slots := 0, locals := 72 }) (va_Pc [.ref h0, .int p0] (fun U => U.heap.size = sz ∧ va_P (dC, dI) vwCl [(h0, .inr (6, [.ref tp, .int ts, .int fn, .int fp, .ref rd, .ref gd, .ref im, .ref rw, .ref gn, .ref ho, .ref sq])), (gd, .inr (0, [.ref pl, .int gdl, .long gdh, .long gdw, .int gdi, .int gde, .int gdc, .ref gdt, .int gdg, .ref gdu, .int gdn, .ref gdx])), (pl, .inr (3, [.int plw, .int pld, .int plc, .int pls, .long plm, .ref plf, .ref plo, .ref plb, .ref pla])), (plf, .inl (plkf, 40, .inl plF)), (plo, .inl (plko, 40, .inl plO)), (plb, .inl (plkb, 40, .inr (.inl plB))), (pla, .inl (plka, 100, .inl plA)), (sq, .inl (ksq, 25, .inl sS))] U.heap ∧ va_K (dC, dI) vwCl [(plkf, .int), (plko, .int), (plkb, .long), (plka, .int), (ksq, .int)] U ∧ va_D (fun _ => True) [(h0, .inr (6, [.ref tp, .int ts, .int fn, .int fp, .ref rd, .ref gd, .ref im, .ref rw, .ref gn, .ref ho, .ref sq])), (gd, .inr (0, [.ref pl, .int gdl, .long gdh, .long gdw, .int gdi, .int gde, .int gdc, .ref gdt, .int gdg, .ref gdu, .int gdn, .ref gdx])), (pl, .inr (3, [.int plw, .int pld, .int plc, .int pls, .long plm, .ref plf, .ref plo, .ref plb, .ref pla])), (plf, .inl (plkf, 40, .inl plF)), (plo, .inl (plko, 40, .inl plO)), (plb, .inl (plkb, 40, .inr (.inl plB))), (pla, .inl (plka, 100, .inl plA)), (sq, .inl (ksq, 25, .inl sS))])) (va_Qi (fun (r : Int32) (u : Unit) => (0 ≤ r.toInt ∧ r.toInt ≤ 24)) (fun (u : Unit) (t : State) => va_P (dC, dI) vwCl [(h0, .inr (6, [.ref tp, .int ts, .int fn, .int fp, .ref rd, .ref gd, .ref im, .ref rw, .ref gn, .ref ho, .ref sq])), (gd, .inr (0, [.ref pl, .int gdl, .long gdh, .long gdw, .int gdi, .int gde, .int gdc, .ref gdt, .int gdg, .ref gdu, .int gdn, .ref gdx])), (pl, .inr (3, [.int plw, .int pld, .int plc, .int pls, .long plm, .ref plf, .ref plo, .ref plb, .ref pla])), (plf, .inl (plkf, 40, .inl plF)), (plo, .inl (plko, 40, .inl plO)), (plb, .inl (plkb, 40, .inr (.inl plB))), (pla, .inl (plka, 100, .inl plA)), (sq, .inl (ksq, 25, .inl sS))] t.heap ∧ va_K (dC, dI) vwCl [] t ∧ va_D (va_A [(h0, .inr (6, [.ref tp, .int ts, .int fn, .int fp, .ref rd, .ref gd, .ref im, .ref rw, .ref gn, .ref ho, .ref sq])), (gd, .inr (0, [.ref pl, .int gdl, .long gdh, .long gdw, .int gdi, .int gde, .int gdc, .ref gdt, .int gdg, .ref gdu, .int gdn, .ref gdx])), (pl, .inr (3, [.int plw, .int pld, .int plc, .int pls, .long plm, .ref plf, .ref plo, .ref plb, .ref pla])), (plf, .inl (plkf, 40, .inl plF)), (plo, .inl (plko, 40, .inl plO)), (plb, .inl (plkb, 40, .inr (.inl plB))), (pla, .inl (plka, 100, .inl plA)), (sq, .inl (ksq, 25, .inl sS))] sz) [(h0, .inr (6, [.ref tp, .int ts, .int fn, .int fp, .ref rd, .ref gd, .ref im, .ref rw, .ref gn, .ref ho, .ref sq])), (gd, .inr (0, [.ref pl, .int gdl, .long gdh, .long gdw, .int gdi, .int gde, .int gdc, .ref gdt, .int gdg, .ref gdu, .int gdn, .ref gdx])), (pl, .inr (3, [.int plw, .int pld, .int plc, .int pls, .long plm, .ref plf, .ref plo, .ref plb, .ref pla])), (plf, .inl (plkf, 40, .inl plF)), (plo, .inl (plko, 40, .inl plO)), (plb, .inl (plkb, 40, .inr (.inl plB))), (pla, .inl (plka, 100, .inl plA)), (sq, .inl (ksq, 25, .inl sS))]) (va_A [(h0, .inr (6, [.ref tp, .int ts, .int fn, .int fp, .ref rd, .ref gd, .ref im, .ref rw, .ref gn, .ref ho, .ref sq])), (gd, .inr (0, [.ref pl, .int gdl, .long gdh, .long gdw, .int gdi, .int gde, .int gdc, .ref gdt, .int gdg, .ref gdu, .int gdn, .ref gdx])), (pl, .inr (3, [.int plw, .int pld, .int plc, .int pls, .long plm, .ref plf, .ref plo, .ref plb, .ref pla])), (plf, .inl (plkf, 40, .inl plF)), (plo, .inl (plko, 40, .inl plO)), (plb, .inl (plkb, 40, .inr (.inl plB))), (pla, .inl (plka, 100, .inl plA)), (sq, .inl (ksq, 25, .inl sS))] sz)) 0 0 (va_A [(h0, .inr (6, [.ref tp, .int ts, .int fn, .int fp, .ref rd, .ref gd, .ref im, .ref rw, .ref gn, .ref ho, .ref sq])), (gd, .inr (0, [.ref pl, .int gdl, .long gdh, .long gdw, .int gdi, .int gde, .int gdc, .ref gdt, .int gdg, .ref gdu, .int gdn, .ref gdx])), (pl, .inr (3, [.int plw, .int pld, .int plc, .int pls, .long plm, .ref plf, .ref plo, .ref plb, .ref pla])), (plf, .inl (plkf, 40, .inl plF)), (plo, .inl (plko, 40, .inl plO)), (plb, .inl (plkb, 40, .inr (.inl plB))), (pla, .inl (plka, 100, .inl plA)), (sq, .inl (ksq, 25, .inl sS))] sz) := by
  refine Met.ofW (cc := cX6_stepOn) (maxL := 2) (ret := (some .int)) (by decide) rfl ?_
  intro p e s m args below meth c s₁ B hml hv
  obtain ⟨rfl, hsz, hP, hK, hD0⟩ := hv
  have hx := B.exec
  have hb := B.bytes
  have hr := B.returns
  have hts := atoms_spec (ws := wz_X6_stepOn) B.pre
  have hown : s.vm.findClass RX6 = some m.cls := findClass_of_methodNamed B.named
  have hlocks := B.notSynchronized
  subst hsz
  have hD := hD0.self (sz := s.heap.size)
  generalize hAe : va_A [(h0, .inr (6, [.ref tp, .int ts, .int fn, .int fp, .ref rd, .ref gd, .ref im, .ref rw, .ref gn, .ref ho, .ref sq])), (gd, .inr (0, [.ref pl, .int gdl, .long gdh, .long gdw, .int gdi, .int gde, .int gdc, .ref gdt, .int gdg, .ref gdu, .int gdn, .ref gdx])), (pl, .inr (3, [.int plw, .int pld, .int plc, .int pls, .long plm, .ref plf, .ref plo, .ref plb, .ref pla])), (plf, .inl (plkf, 40, .inl plF)), (plo, .inl (plko, 40, .inl plO)), (plb, .inl (plkb, 40, .inr (.inl plB))), (pla, .inl (plka, 100, .inl plA)), (sq, .inl (ksq, 25, .inl sS))] s.heap.size = A at hD ⊢
  have hA : ∀ q : Nat, s.heap.size ≤ q → A q := fun q h => by rw [← hAe]; exact Or.inr h
  have hS : va_S A s.heap s.heap [] := va_S.rf
  have hP : va_P (dC, dI) vwCl [(h0, .inr (6, [.ref tp, .int ts, .int fn, .int fp, .ref rd, .ref gd, .ref im, .ref rw, .ref gn, .ref ho, .ref sq])), (gd, .inr (0, [.ref pl, .int gdl, .long gdh, .long gdw, .int gdi, .int gde, .int gdc, .ref gdt, .int gdg, .ref gdu, .int gdn, .ref gdx])), (pl, .inr (3, [.int plw, .int pld, .int plc, .int pls, .long plm, .ref plf, .ref plo, .ref plb, .ref pla])), (plf, .inl (plkf, 40, .inl plF)), (plo, .inl (plko, 40, .inl plO)), (plb, .inl (plkb, 40, .inr (.inl plB))), (pla, .inl (plka, 100, .inl plA)), (sq, .inl (ksq, 25, .inl sS))] s.heap := hP
  have hl := lv_entry ([.ref h0, .int p0]) (n := 2) (Nat.le_of_ble_eq_true rfl)
  rw [lg_entry_eq]
  generalize (lg_sl ([.ref h0, .int p0]) ++ List.replicate (2 - (lg_sl ([.ref h0, .int p0])).length) Slot.unset).toArray = ls at hl ⊢
  have hl : lv_has ls 2 [(0, .ref h0), (1, .int p0)] := hl
  refine lv_aload_n hx hb dX6_stepOn_0 rfl (lv_at hl 0 rfl) ?_
  refine va_get (D := (dC, dI)) (ci := 6) (v := .ref gd) (C := RX6) (T := TX6) (N := 11) hx hb hts in_X6_stepOn_X6 hown hK hP 0 rfl rfl 5 (by decide) (hts _ wd_X6_stepOn_0) (fun _ h9 => h9) rfl dX6_stepOn_1 ?_
  refine va_get (D := (dC, dI)) (ci := 0) (v := .ref pl) (C := RX0) (T := TX0) (N := 12) hx hb hts in_X6_stepOn_X0 hown hK hP 1 rfl rfl 0 (by decide) (hts _ wd_X6_stepOn_1) (fun _ h9 => h9) rfl dX6_stepOn_4 ?_
  refine lv_iload_n hx hb dX6_stepOn_7 rfl (lv_at hl 1 rfl) ?_
  refine lv_aload_n hx hb dX6_stepOn_8 rfl (lv_at hl 0 rfl) ?_
  refine va_get (D := (dC, dI)) (ci := 6) (v := .ref gd) (C := RX6) (T := TX6) (N := 11) hx hb hts in_X6_stepOn_X6 hown hK hP 0 rfl rfl 5 (by decide) (hts _ wd_X6_stepOn_0) (fun _ h9 => h9) rfl dX6_stepOn_9 ?_
  have hPc := hP.sub (ws' := [(gd, .inr (0, [.ref pl, .int gdl, .long gdh, .long gdw, .int gdi, .int gde, .int gdc, .ref gdt, .int gdg, .ref gdu, .int gdn, .ref gdx])), (pl, .inr (3, [.int plw, .int pld, .int plc, .int pls, .long plm, .ref plf, .ref plo, .ref plb, .ref pla]))]) [1, 2] rfl
  have hDc := hD.sub (ws' := [(gd, .inr (0, [.ref pl, .int gdl, .long gdh, .long gdw, .int gdi, .int gde, .int gdc, .ref gdt, .int gdg, .ref gdu, .int gdn, .ref gdx])), (pl, .inr (3, [.int plw, .int pld, .int plc, .int pls, .long plm, .ref plf, .ref plo, .ref plb, .ref pla]))]) [1, 2] (by decide) rfl
  have hKc := hK.sub (tys' := []) [] rfl
  have hFc := va_free (wc := [(gd, .inr (0, [.ref pl, .int gdl, .long gdh, .long gdw, .int gdi, .int gde, .int gdc, .ref gdt, .int gdg, .ref gdu, .int gdn, .ref gdx])), (pl, .inr (3, [.int plw, .int pld, .int plc, .int pls, .long plm, .ref plf, .ref plo, .ref plb, .ref pla]))]) hD hS hA [1, 2] rfl
  refine va_calll (va_runV (As := []) (rest := [.int p0, .ref pl]) ⟨hx, hb, hml, hown, hts⟩ (c_X0_openSides l dC dI s.heap.size gd gdl gdh gdw gdi gde gdc gdt gdg gdu gdn gdx pl plw pld plc pls plm plf plo plb pla ) (cwV 0 hts g_X6_stepOn_X0_openSides rfl rfl rfl (by decide +kernel) ⟨Nat.le_of_ble_eq_true rfl, Nat.le_of_ble_eq_true rfl⟩) ⟨fun a U g mk q => by obtain ⟨q0, q1, qP, qK, qD⟩ := q; exact ⟨q0, q1, qP, va_K.moved (u := U) (U := U.calling g mk a) (Vm.Alike.refl U.vm) qK, qD⟩, va_recv hKc hPc (ci := 0) (q0 := 0) rfl rfl, fun U hU hW => ⟨rfl, by rw [hU], by rw [hU]; exact hPc, va_K.moved hW.alike hKc, hDc.weaken (fun _ _ _ _ => trivial)⟩⟩ rfl rfl hl.1 rfl (lv_room (Nat.le_of_ble_eq_true rfl)) dX6_stepOn_12 ⟨Nat.le_of_ble_eq_true rfl, Nat.le_of_ble_eq_true rfl⟩) hS (fun q _ h => hFc q h) hFc (fun r_1 u t H1 locs ht hvm hw_2 hB hz1 hk1 hS => ?_)
  obtain ⟨hP1, hK1, hD1⟩ := hB
  have hP1 : va_P (dC, dI) vwCl [(gd, .inr (0, [.ref pl, .int gdl, .long gdh, .long gdw, .int gdi, .int gde, .int gdc, .ref gdt, .int gdg, .ref gdu, .int gdn, .ref gdx])), (pl, .inr (3, [.int plw, .int pld, .int plc, .int pls, .long plm, .ref plf, .ref plo, .ref plb, .ref pla]))] t.heap := hP1
  rw [ht] at hP1
  try dsimp only at hw_2
  obtain ⟨hP, hD⟩ := va_join (wr := [(h0, .inr (6, [.ref tp, .int ts, .int fn, .int fp, .ref rd, .ref gd, .ref im, .ref rw, .ref gn, .ref ho, .ref sq])), (plf, .inl (plkf, 40, .inl plF)), (plo, .inl (plko, 40, .inl plO)), (plb, .inl (plkb, 40, .inr (.inl plB))), (pla, .inl (plka, 100, .inl plA)), (sq, .inl (ksq, 25, .inl sS))]) (w1 := [(gd, .inr (0, [.ref pl, .int gdl, .long gdh, .long gdw, .int gdi, .int gde, .int gdc, .ref gdt, .int gdg, .ref gdu, .int gdn, .ref gdx])), (pl, .inr (3, [.int plw, .int pld, .int plc, .int pls, .long plm, .ref plf, .ref plo, .ref plb, .ref pla]))]) hP hD [1, 2] [0, 3, 4, 5, 6, 7] rfl rfl (by decide) (by decide) hk1 hFc hP1 hD1
  generalize H1 = H at hP hS ⊢
  have hP : va_P (dC, dI) vwCl [(h0, .inr (6, [.ref tp, .int ts, .int fn, .int fp, .ref rd, .ref gd, .ref im, .ref rw, .ref gn, .ref ho, .ref sq])), (plf, .inl (plkf, 40, .inl plF)), (plo, .inl (plko, 40, .inl plO)), (plb, .inl (plkb, 40, .inr (.inl plB))), (pla, .inl (plka, 100, .inl plA)), (sq, .inl (ksq, 25, .inl sS)), (gd, .inr (0, [.ref pl, .int gdl, .long gdh, .long gdw, .int gdi, .int gde, .int gdc, .ref gdt, .int gdg, .ref gdu, .int gdn, .ref gdx])), (pl, .inr (3, [.int plw, .int pld, .int plc, .int pls, .long plm, .ref plf, .ref plo, .ref plb, .ref pla]))] H := hP
  have hD : va_D A [(h0, .inr (6, [.ref tp, .int ts, .int fn, .int fp, .ref rd, .ref gd, .ref im, .ref rw, .ref gn, .ref ho, .ref sq])), (plf, .inl (plkf, 40, .inl plF)), (plo, .inl (plko, 40, .inl plO)), (plb, .inl (plkb, 40, .inr (.inl plB))), (pla, .inl (plka, 100, .inl plA)), (sq, .inl (ksq, 25, .inl sS)), (gd, .inr (0, [.ref pl, .int gdl, .long gdh, .long gdw, .int gdi, .int gde, .int gdc, .ref gdt, .int gdg, .ref gdu, .int gdn, .ref gdx])), (pl, .inr (3, [.int plw, .int pld, .int plc, .int pls, .long plm, .ref plf, .ref plo, .ref plb, .ref pla]))] := hD
  refine lv_aload_n hx hb dX6_stepOn_15 rfl (lv_at hl 0 rfl) ?_
  refine va_get (D := (dC, dI)) (ci := 6) (v := .ref sq) (C := RX6) (T := TX6) (N := 11) hx hb hts in_X6_stepOn_X6 hown hK hP 0 rfl rfl 10 (by decide) (hts _ wd_X6_stepOn_2) (fun _ h9 => h9) rfl dX6_stepOn_16 ?_
  have hPc := hP.sub (ws' := [(pl, .inr (3, [.int plw, .int pld, .int plc, .int pls, .long plm, .ref plf, .ref plo, .ref plb, .ref pla])), (plf, .inl (plkf, 40, .inl plF)), (plo, .inl (plko, 40, .inl plO)), (plb, .inl (plkb, 40, .inr (.inl plB))), (pla, .inl (plka, 100, .inl plA)), (sq, .inl (ksq, 25, .inl sS))]) [7, 1, 2, 3, 4, 5] rfl
  have hDc := hD.sub (ws' := [(pl, .inr (3, [.int plw, .int pld, .int plc, .int pls, .long plm, .ref plf, .ref plo, .ref plb, .ref pla])), (plf, .inl (plkf, 40, .inl plF)), (plo, .inl (plko, 40, .inl plO)), (plb, .inl (plkb, 40, .inr (.inl plB))), (pla, .inl (plka, 100, .inl plA)), (sq, .inl (ksq, 25, .inl sS))]) [7, 1, 2, 3, 4, 5] (by decide) rfl
  have hKc := hK.sub (tys' := [(plkf, .int), (plko, .int), (plkb, .long), (plka, .int), (ksq, .int)]) [0, 1, 2, 3, 4] rfl
  have hFc := va_free (wc := [(pl, .inr (3, [.int plw, .int pld, .int plc, .int pls, .long plm, .ref plf, .ref plo, .ref plb, .ref pla])), (plf, .inl (plkf, 40, .inl plF)), (plo, .inl (plko, 40, .inl plO)), (plb, .inl (plkb, 40, .inr (.inl plB))), (pla, .inl (plka, 100, .inl plA)), (sq, .inl (ksq, 25, .inl sS))]) hD hS hA [7, 1, 2, 3, 4, 5] rfl
  refine va_calli (va_runV (As := [.int p0, .long r_1, .ref sq]) (rest := []) ⟨hx, hb, hml, hown, hts⟩ (c_X3_nextOnWay l dC dI H.size pl plw pld plc pls plm plf plo plb pla plkf plF plko plO plkb plB plka plA p0 r_1 sq ksq sS (by omega) (by omega) hR_plf hR_plo) (cwV 3 hts g_X6_stepOn_X3_nextOnWay rfl rfl rfl (by decide +kernel) ⟨Nat.le_of_ble_eq_true rfl, Nat.le_of_ble_eq_true rfl⟩) ⟨fun a U g mk q => by obtain ⟨q0, q1, qP, qK, qD⟩ := q; exact ⟨q0, q1, qP, va_K.moved (u := U) (U := U.calling g mk a) (Vm.Alike.refl U.vm) qK, qD⟩, va_recv hKc hPc (ci := 3) (q0 := 0) rfl rfl, fun U hU hW => ⟨rfl, by rw [hU], by rw [hU]; exact hPc, va_K.moved hW.alike hKc, hDc.weaken (fun _ _ _ _ => trivial)⟩⟩ rfl rfl hl.1 rfl (lv_room (Nat.le_of_ble_eq_true rfl)) dX6_stepOn_19 ⟨Nat.le_of_ble_eq_true rfl, Nat.le_of_ble_eq_true rfl⟩) hS (fun q _ h => hFc q h) hFc (fun r_3 u t H1 locs ht hvm hw_4 hB hz1 hk1 hS => ?_)
  obtain ⟨hP1, hK1, hD1⟩ := hB
  have hP1 : va_P (dC, dI) vwCl [(pl, .inr (3, [.int plw, .int pld, .int plc, .int pls, .long plm, .ref plf, .ref plo, .ref plb, .ref pla])), (plf, .inl (plkf, 40, .inl plF)), (plo, .inl (plko, 40, .inl plO)), (plb, .inl (plkb, 40, .inr (.inl plB))), (pla, .inl (plka, 100, .inl plA)), (sq, .inl (ksq, 25, .inl sS))] t.heap := hP1
  rw [ht] at hP1
  try dsimp only at hw_4
  obtain ⟨hP, hD⟩ := va_join (wr := [(h0, .inr (6, [.ref tp, .int ts, .int fn, .int fp, .ref rd, .ref gd, .ref im, .ref rw, .ref gn, .ref ho, .ref sq])), (gd, .inr (0, [.ref pl, .int gdl, .long gdh, .long gdw, .int gdi, .int gde, .int gdc, .ref gdt, .int gdg, .ref gdu, .int gdn, .ref gdx]))]) (w1 := [(pl, .inr (3, [.int plw, .int pld, .int plc, .int pls, .long plm, .ref plf, .ref plo, .ref plb, .ref pla])), (plf, .inl (plkf, 40, .inl plF)), (plo, .inl (plko, 40, .inl plO)), (plb, .inl (plkb, 40, .inr (.inl plB))), (pla, .inl (plka, 100, .inl plA)), (sq, .inl (ksq, 25, .inl sS))]) hP hD [7, 1, 2, 3, 4, 5] [0, 6] rfl rfl (by decide) (by decide) hk1 hFc hP1 hD1
  generalize H1 = H at hP hS ⊢
  have hP : va_P (dC, dI) vwCl [(h0, .inr (6, [.ref tp, .int ts, .int fn, .int fp, .ref rd, .ref gd, .ref im, .ref rw, .ref gn, .ref ho, .ref sq])), (gd, .inr (0, [.ref pl, .int gdl, .long gdh, .long gdw, .int gdi, .int gde, .int gdc, .ref gdt, .int gdg, .ref gdu, .int gdn, .ref gdx])), (pl, .inr (3, [.int plw, .int pld, .int plc, .int pls, .long plm, .ref plf, .ref plo, .ref plb, .ref pla])), (plf, .inl (plkf, 40, .inl plF)), (plo, .inl (plko, 40, .inl plO)), (plb, .inl (plkb, 40, .inr (.inl plB))), (pla, .inl (plka, 100, .inl plA)), (sq, .inl (ksq, 25, .inl sS))] H := hP
  have hD : va_D A [(h0, .inr (6, [.ref tp, .int ts, .int fn, .int fp, .ref rd, .ref gd, .ref im, .ref rw, .ref gn, .ref ho, .ref sq])), (gd, .inr (0, [.ref pl, .int gdl, .long gdh, .long gdw, .int gdi, .int gde, .int gdc, .ref gdt, .int gdg, .ref gdu, .int gdn, .ref gdx])), (pl, .inr (3, [.int plw, .int pld, .int plc, .int pls, .long plm, .ref plf, .ref plo, .ref plb, .ref pla])), (plf, .inl (plkf, 40, .inl plF)), (plo, .inl (plko, 40, .inl plO)), (plb, .inl (plkb, 40, .inr (.inl plB))), (pla, .inl (plka, 100, .inl plA)), (sq, .inl (ksq, 25, .inl sS))] := hD
  have hP9 := hP.sub (ws' := [(h0, .inr (6, [.ref tp, .int ts, .int fn, .int fp, .ref rd, .ref gd, .ref im, .ref rw, .ref gn, .ref ho, .ref sq])), (gd, .inr (0, [.ref pl, .int gdl, .long gdh, .long gdw, .int gdi, .int gde, .int gdc, .ref gdt, .int gdg, .ref gdu, .int gdn, .ref gdx])), (pl, .inr (3, [.int plw, .int pld, .int plc, .int pls, .long plm, .ref plf, .ref plo, .ref plb, .ref pla])), (plf, .inl (plkf, 40, .inl plF)), (plo, .inl (plko, 40, .inl plO)), (plb, .inl (plkb, 40, .inr (.inl plB))), (pla, .inl (plka, 100, .inl plA)), (sq, .inl (ksq, 25, .inl sS))]) [0, 1, 2, 3, 4, 5, 6, 7] rfl
  have hD9 := hD.sub (ws' := [(h0, .inr (6, [.ref tp, .int ts, .int fn, .int fp, .ref rd, .ref gd, .ref im, .ref rw, .ref gn, .ref ho, .ref sq])), (gd, .inr (0, [.ref pl, .int gdl, .long gdh, .long gdw, .int gdi, .int gde, .int gdc, .ref gdt, .int gdg, .ref gdu, .int gdn, .ref gdx])), (pl, .inr (3, [.int plw, .int pld, .int plc, .int pls, .long plm, .ref plf, .ref plo, .ref plb, .ref pla])), (plf, .inl (plkf, 40, .inl plF)), (plo, .inl (plko, 40, .inl plO)), (plb, .inl (plkb, 40, .inr (.inl plB))), (pla, .inl (plka, 100, .inl plA)), (sq, .inl (ksq, 25, .inl sS))]) [0, 1, 2, 3, 4, 5, 6, 7] (by decide) rfl
  have hK9 := hK.sub (tys' := []) [] rfl
  refine W.widen (k := 0) (n := 0) (by omega) (by omega) ?_
  exact W.iret (v := r_3) hx hb hr (fun t ht hW => ⟨⟨r_3, (), rfl, (by first | rfl | trivial | (dsimp only; omega) | omega | (left; rfl) | (right; rfl) | (dsimp only; first | (left; rfl) | (right; rfl))), by rw [ht]; exact hP9, va_K.moved hW.alike hK9, hD9⟩, hS.F ht⟩) hS.2.2 dX6_stepOn_22

theorem dX6_way_0 : decode cX6_way 0 = .ok (.aload_n 0, 1) := by decide +kernel
theorem dX6_way_1 : decode cX6_way 1 = .ok (.iload_n 1, 1) := by decide +kernel
theorem dX6_way_2 : decode cX6_way 2 = .ok (.invokevirtual 99, 3) := by decide +kernel
theorem dX6_way_5 : decode cX6_way 5 = .ok (.ifCond .eq 11, 3) := by decide +kernel
theorem dX6_way_8 : decode cX6_way 8 = .ok (.aload_n 0, 1) := by decide +kernel
theorem dX6_way_9 : decode cX6_way 9 = .ok (.iload_n 2, 1) := by decide +kernel
theorem dX6_way_10 : decode cX6_way 10 = .ok (.invokevirtual 99, 3) := by decide +kernel
theorem dX6_way_13 : decode cX6_way 13 = .ok (.ifCond .ne 6, 3) := by decide +kernel
theorem dX6_way_16 : decode cX6_way 16 = .ok (.bipush (-2), 2) := by decide +kernel
theorem dX6_way_18 : decode cX6_way 18 = .ok (.ireturn, 1) := by decide +kernel
theorem dX6_way_19 : decode cX6_way 19 = .ok (.aload_n 0, 1) := by decide +kernel
theorem dX6_way_20 : decode cX6_way 20 = .ok (.getfield 33, 3) := by decide +kernel
theorem dX6_way_23 : decode cX6_way 23 = .ok (.getfield 90, 3) := by decide +kernel
theorem dX6_way_26 : decode cX6_way 26 = .ok (.iload_n 2, 1) := by decide +kernel
theorem dX6_way_27 : decode cX6_way 27 = .ok (.aload_n 0, 1) := by decide +kernel
theorem dX6_way_28 : decode cX6_way 28 = .ok (.getfield 33, 3) := by decide +kernel
theorem dX6_way_31 : decode cX6_way 31 = .ok (.invokevirtual 128, 3) := by decide +kernel
theorem dX6_way_34 : decode cX6_way 34 = .ok (.aload_n 0, 1) := by decide +kernel
theorem dX6_way_35 : decode cX6_way 35 = .ok (.getfield 61, 3) := by decide +kernel
theorem dX6_way_38 : decode cX6_way 38 = .ok (.invokevirtual 136, 3) := by decide +kernel
theorem dX6_way_41 : decode cX6_way 41 = .ok (.iload_n 3, 1) := by decide +kernel
theorem dX6_way_42 : decode cX6_way 42 = .ok (.ifCond .lt 13, 3) := by decide +kernel
theorem dX6_way_45 : decode cX6_way 45 = .ok (.iload_n 3, 1) := by decide +kernel
theorem dX6_way_46 : decode cX6_way 46 = .ok (.aload_n 0, 1) := by decide +kernel
theorem dX6_way_47 : decode cX6_way 47 = .ok (.getfield 61, 3) := by decide +kernel
theorem dX6_way_50 : decode cX6_way 50 = .ok (.iload_n 1, 1) := by decide +kernel
theorem dX6_way_51 : decode cX6_way 51 = .ok (.iaload, 1) := by decide +kernel
theorem dX6_way_52 : decode cX6_way 52 = .ok (.if_icmp .le 5, 3) := by decide +kernel
theorem dX6_way_55 : decode cX6_way 55 = .ok (.iconst (-1), 1) := by decide +kernel
theorem dX6_way_56 : decode cX6_way 56 = .ok (.ireturn, 1) := by decide +kernel
theorem dX6_way_57 : decode cX6_way 57 = .ok (.iload_n 1, 1) := by decide +kernel
theorem dX6_way_58 : decode cX6_way 58 = .ok (.istore 4, 2) := by decide +kernel
theorem dX6_way_60 : decode cX6_way 60 = .ok (.iconst 0, 1) := by decide +kernel
theorem dX6_way_61 : decode cX6_way 61 = .ok (.istore 5, 2) := by decide +kernel
theorem dX6_way_63 : decode cX6_way 63 = .ok (.iload 5, 2) := by decide +kernel
theorem dX6_way_65 : decode cX6_way 65 = .ok (.iload_n 3, 1) := by decide +kernel
theorem dX6_way_66 : decode cX6_way 66 = .ok (.if_icmp .ge 17, 3) := by decide +kernel
theorem dX6_way_69 : decode cX6_way 69 = .ok (.aload_n 0, 1) := by decide +kernel
theorem dX6_way_70 : decode cX6_way 70 = .ok (.iload 4, 2) := by decide +kernel
theorem dX6_way_72 : decode cX6_way 72 = .ok (.invokevirtual 140, 3) := by decide +kernel
theorem dX6_way_75 : decode cX6_way 75 = .ok (.istore 4, 2) := by decide +kernel
theorem dX6_way_77 : decode cX6_way 77 = .ok (.iinc 5 1, 3) := by decide +kernel
theorem dX6_way_80 : decode cX6_way 80 = .ok (.goto (-17), 3) := by decide +kernel
theorem dX6_way_83 : decode cX6_way 83 = .ok (.iload 4, 2) := by decide +kernel
theorem dX6_way_85 : decode cX6_way 85 = .ok (.ireturn, 1) := by decide +kernel
def wz_X6_way : List Cond := .code yX6_way cX6_way 6 (some .int) :: ([Cond.fieldLink RX6 33 "HedgeMaze" "garden" "LHedgeMaze$Garden;", Cond.fieldLink RX6 90 "HedgeMaze$Garden" "plan" "LHedgeMaze$Plan;", Cond.fieldLink RX6 61 "HedgeMaze" "stepsThere" "[I", Cond.methodLink RX6 99 yX6_isCell, Cond.instanceMethod yX6_isCell, Cond.selects RX6 yX6_isCell yX6_isCell, Cond.initialized RX6, Cond.code yX6_isCell cX6_isCell 2 (some .boolean), Cond.fieldLink RX6 169 "HedgeMaze$Plan" "cellCount" "I", Cond.methodLink RX6 128 yX0_openSides, Cond.instanceMethod yX0_openSides, Cond.selects RX0 yX0_openSides yX0_openSides, Cond.initialized RX0, Cond.code yX0_openSides cX0_openSides 1 (some .long), Cond.fieldLink RX0 22 "HedgeMaze$Garden" "hedges" "J", Cond.methodLink RX0 71 yX0_openWith, Cond.instanceMethod yX0_openWith, Cond.selects RX0 yX0_openWith yX0_openWith, Cond.code yX0_openWith cX0_openWith 3 (some .long), Cond.fieldLink RX0 12 "HedgeMaze$Garden" "plan" "LHedgeMaze$Plan;", Cond.fieldLink RX0 75 "HedgeMaze$Plan" "allSides" "J", Cond.fieldLink RX0 26 "HedgeMaze$Garden" "walls" "J", Cond.constantLong RX0 78 (-1), Cond.methodLink RX6 136 yX3_measure, Cond.instanceMethod yX3_measure, Cond.selects RX3 yX3_measure yX3_measure, Cond.initialized RX3, Cond.code yX3_measure cX3_measure 8 none, Cond.fieldLink RX3 18 "HedgeMaze$Plan" "cellCount" "I", Cond.methodLink RX3 48 yJ7_fill_53178, Cond.static yJ7_fill_53178, Cond.initialized RJ7, Cond.code yJ7_fill_53178 cJ7_fill_53178 4 none, Cond.methodLink RX3 71 yX3_grow, Cond.instanceMethod yX3_grow, Cond.selects RX3 yX3_grow yX3_grow, Cond.code yX3_grow cX3_grow 6 (some .int), Cond.fieldLink RX3 9 "HedgeMaze$Plan" "wide" "I", Cond.methodLink RX6 140 yX6_stepOn, Cond.instanceMethod yX6_stepOn, Cond.selects RX6 yX6_stepOn yX6_stepOn, Cond.code yX6_stepOn cX6_stepOn 2 (some .int), Cond.methodLink RX6 144 yX3_nextOnWay, Cond.instanceMethod yX3_nextOnWay, Cond.selects RX3 yX3_nextOnWay yX3_nextOnWay, Cond.code yX3_nextOnWay cX3_nextOnWay 8 (some .int), Cond.methodLink RX3 62 yX3_sideAt, Cond.instanceMethod yX3_sideAt, Cond.selects RX3 yX3_sideAt yX3_sideAt, Cond.code yX3_sideAt cX3_sideAt 4 (some .int), Cond.fieldLink RX3 39 "HedgeMaze$Plan" "around" "[I", Cond.methodLink RX3 93 yX3_beyond, Cond.instanceMethod yX3_beyond, Cond.selects RX3 yX3_beyond yX3_beyond, Cond.code yX3_beyond cX3_beyond 3 (some .int), Cond.fieldLink RX3 21 "HedgeMaze$Plan" "sideCount" "I", Cond.fieldLink RX3 28 "HedgeMaze$Plan" "first" "[I", Cond.fieldLink RX3 32 "HedgeMaze$Plan" "other" "[I", Cond.methodLink RX3 67 yX3_has, Cond.instanceMethod yX3_has, Cond.selects RX3 yX3_has yX3_has, Cond.code yX3_has cX3_has 4 (some .boolean), Cond.methodLink RX3 58 yX3_bitOf, Cond.instanceMethod yX3_bitOf, Cond.selects RX3 yX3_bitOf yX3_bitOf, Cond.code yX3_bitOf cX3_bitOf 3 (some .long), Cond.fieldLink RX3 35 "HedgeMaze$Plan" "bits" "[J"] ++ wsX60 ++ wsX00 ++ wsX30)
theorem wd_X6_way_0 : Cond.fieldLink RX6 33 "HedgeMaze" "garden" "LHedgeMaze$Garden;" ∈ wz_X6_way := List.mem_of_getElem? (i := 1) rfl
theorem wd_X6_way_1 : Cond.fieldLink RX6 90 "HedgeMaze$Garden" "plan" "LHedgeMaze$Plan;" ∈ wz_X6_way := List.mem_of_getElem? (i := 2) rfl
theorem wd_X6_way_2 : Cond.fieldLink RX6 61 "HedgeMaze" "stepsThere" "[I" ∈ wz_X6_way := List.mem_of_getElem? (i := 3) rfl
theorem in_X6_way_X6 : ∀ w ∈ wsX60, w ∈ wz_X6_way := fun _ h => List.mem_cons_of_mem _ (List.mem_append_left _ (List.mem_append_left _ (List.mem_append_right _ h)))
theorem in_X6_way_X0 : ∀ w ∈ wsX00, w ∈ wz_X6_way := fun _ h => List.mem_cons_of_mem _ (List.mem_append_left _ (List.mem_append_right _ h))
set_option maxRecDepth 20000 in
theorem g_X6_way_X6_isCell : GoodIn wz_X6_way (wsV RX6 99 RX6 yX6_isCell wz_X6_isCell) := goodIn_r _ [4, 5, 6, 7, 8, 1, 2, 9, 68, 69, 70, 71, 72, 73, 74, 75, 76, 77, 78, 79, 80, 81, 82, 83, 84, 85, 86, 87, 88, 89, 90, 91, 92, 93, 94, 95, 96, 97, 98, 99] rfl (by decide +kernel)
set_option maxRecDepth 20000 in
theorem g_X6_way_X0_openSides : GoodIn wz_X6_way (wsV RX6 128 RX0 yX0_openSides wz_X0_openSides) := goodIn_r _ [10, 11, 12, 13, 14, 15, 16, 17, 18, 13, 19, 20, 21, 22, 23, 79, 80, 81, 82, 83, 84, 85, 86, 87, 88, 89, 90, 91, 92, 93, 94, 95, 96, 97, 98, 99] rfl (by decide +kernel)
set_option maxRecDepth 20000 in
theorem g_X6_way_X3_measure : GoodIn wz_X6_way (wsV RX6 136 RX3 yX3_measure wz_X3_measure) := goodIn_r _ [24, 25, 26, 27, 28, 29, 30, 31, 32, 33, 34, 35, 36, 27, 37, 38, 91, 92, 93, 94, 95, 96, 97, 98, 99] rfl (by decide +kernel)
set_option maxRecDepth 20000 in
theorem g_X6_way_X6_stepOn : GoodIn wz_X6_way (wsV RX6 140 RX6 yX6_stepOn wz_X6_stepOn) := goodIn_r _ [39, 40, 41, 7, 42, 1, 2, 3, 10, 11, 12, 13, 14, 15, 16, 17, 18, 19, 20, 21, 22, 23, 43, 44, 45, 27, 46, 47, 48, 49, 50, 51, 52, 53, 54, 55, 56, 57, 58, 59, 60, 61, 62, 63, 64, 65, 66, 67, 68, 69, 70, 71, 72, 73, 74, 75, 76, 77, 78, 79, 80, 81, 82, 83, 84, 85, 86, 87, 88, 89, 90, 91, 92, 93, 94, 95, 96, 97, 98, 99] rfl (by decide +kernel)
set_option maxHeartbeats 4000000 in
set_option maxRecDepth 100000 in
theorem c_X6_way (l : Launch) (dC : Nat → ClassId) (dI : Nat → Nat → Nat) (sz : Nat) (h0 : Nat) (tp : Nat) (ts : Int32) (fn : Int32) (fp : Int32) (rd : Nat) (gd : Nat) (im : Nat) (rw : Nat) (gn : Nat) (ho : Nat) (sq : Nat) (gdl : Int32) (gdh : Int64) (gdw : Int64) (gdi : Int32) (gde : Int32) (gdc : Int32) (gdt : Nat) (gdg : Int32) (gdu : Nat) (gdn : Int32) (gdx : Nat) (pl : Nat) (plw : Int32) (pld : Int32) (plc : Int32) (pls : Int32) (plm : Int64) (plf : Nat) (plo : Nat) (plb : Nat) (pla : Nat) (plkf : ClassId) (plF : Nat → Int32) (plko : ClassId) (plO : Nat → Int32) (plkb : ClassId) (plB : Nat → Int64) (plka : ClassId) (plA : Nat → Int32) (ksq : ClassId) (sS : Nat → Int32) (p0 : Int32) (p1 : Int32) (p2 : Int32) (h_pls : 0 ≤ pls.toInt ∧ pls.toInt ≤ 40) (h_plc : 0 ≤ plc.toInt ∧ plc.toInt ≤ 25) (hR_plf : RG plF 40 0 24) (hR_plo : RG plO 40 0 24) : Met l yX6_way wz_X6_way ({ frames := 4, cells := 0, slots := 0, locals := 93 }) (va_Pc [.ref h0, .int p0, .int p1, .int p2] (fun U => U.heap.size = sz ∧ va_P (dC, dI) vwCl [(h0, .inr (6, [.ref tp, .int ts, .int fn, .int fp, .ref rd, .ref gd, .ref im, .ref rw, .ref gn, .ref ho, .ref sq])), (gd, .inr (0, [.ref pl, .int gdl, .long gdh, .long gdw, .int gdi, .int gde, .int gdc, .ref gdt, .int gdg, .ref gdu, .int gdn, .ref gdx])), (pl, .inr (3, [.int plw, .int pld, .int plc, .int pls, .long plm, .ref plf, .ref plo, .ref plb, .ref pla])), (plf, .inl (plkf, 40, .inl plF)), (plo, .inl (plko, 40, .inl plO)), (plb, .inl (plkb, 40, .inr (.inl plB))), (pla, .inl (plka, 100, .inl plA)), (sq, .inl (ksq, 25, .inl sS))] U.heap ∧ va_K (dC, dI) vwCl [(plkf, .int), (plko, .int), (plkb, .long), (plka, .int), (ksq, .int)] U ∧ va_D (fun _ => True) [(h0, .inr (6, [.ref tp, .int ts, .int fn, .int fp, .ref rd, .ref gd, .ref im, .ref rw, .ref gn, .ref ho, .ref sq])), (gd, .inr (0, [.ref pl, .int gdl, .long gdh, .long gdw, .int gdi, .int gde, .int gdc, .ref gdt, .int gdg, .ref gdu, .int gdn, .ref gdx])), (pl, .inr (3, [.int plw, .int pld, .int plc, .int pls, .long plm, .ref plf, .ref plo, .ref plb, .ref pla])), (plf, .inl (plkf, 40, .inl plF)), (plo, .inl (plko, 40, .inl plO)), (plb, .inl (plkb, 40, .inr (.inl plB))), (pla, .inl (plka, 100, .inl plA)), (sq, .inl (ksq, 25, .inl sS))])) (va_Qi (fun (r : Int32) (u : (Nat → Int32)) => True) (fun (u : (Nat → Int32)) (t : State) => va_P (dC, dI) vwCl [(h0, .inr (6, [.ref tp, .int ts, .int fn, .int fp, .ref rd, .ref gd, .ref im, .ref rw, .ref gn, .ref ho, .ref sq])), (gd, .inr (0, [.ref pl, .int gdl, .long gdh, .long gdw, .int gdi, .int gde, .int gdc, .ref gdt, .int gdg, .ref gdu, .int gdn, .ref gdx])), (pl, .inr (3, [.int plw, .int pld, .int plc, .int pls, .long plm, .ref plf, .ref plo, .ref plb, .ref pla])), (plf, .inl (plkf, 40, .inl plF)), (plo, .inl (plko, 40, .inl plO)), (plb, .inl (plkb, 40, .inr (.inl plB))), (pla, .inl (plka, 100, .inl plA)), (sq, .inl (ksq, 25, .inl u))] t.heap ∧ va_K (dC, dI) vwCl [] t ∧ va_D (va_A [(h0, .inr (6, [.ref tp, .int ts, .int fn, .int fp, .ref rd, .ref gd, .ref im, .ref rw, .ref gn, .ref ho, .ref sq])), (gd, .inr (0, [.ref pl, .int gdl, .long gdh, .long gdw, .int gdi, .int gde, .int gdc, .ref gdt, .int gdg, .ref gdu, .int gdn, .ref gdx])), (pl, .inr (3, [.int plw, .int pld, .int plc, .int pls, .long plm, .ref plf, .ref plo, .ref plb, .ref pla])), (plf, .inl (plkf, 40, .inl plF)), (plo, .inl (plko, 40, .inl plO)), (plb, .inl (plkb, 40, .inr (.inl plB))), (pla, .inl (plka, 100, .inl plA)), (sq, .inl (ksq, 25, .inl sS))] sz) [(h0, .inr (6, [.ref tp, .int ts, .int fn, .int fp, .ref rd, .ref gd, .ref im, .ref rw, .ref gn, .ref ho, .ref sq])), (gd, .inr (0, [.ref pl, .int gdl, .long gdh, .long gdw, .int gdi, .int gde, .int gdc, .ref gdt, .int gdg, .ref gdu, .int gdn, .ref gdx])), (pl, .inr (3, [.int plw, .int pld, .int plc, .int pls, .long plm, .ref plf, .ref plo, .ref plb, .ref pla])), (plf, .inl (plkf, 40, .inl plF)), (plo, .inl (plko, 40, .inl plO)), (plb, .inl (plkb, 40, .inr (.inl plB))), (pla, .inl (plka, 100, .inl plA)), (sq, .inl (ksq, 25, .inl u))]) (va_A [(h0, .inr (6, [.ref tp, .int ts, .int fn, .int fp, .ref rd, .ref gd, .ref im, .ref rw, .ref gn, .ref ho, .ref sq])), (gd, .inr (0, [.ref pl, .int gdl, .long gdh, .long gdw, .int gdi, .int gde, .int gdc, .ref gdt, .int gdg, .ref gdu, .int gdn, .ref gdx])), (pl, .inr (3, [.int plw, .int pld, .int plc, .int pls, .long plm, .ref plf, .ref plo, .ref plb, .ref pla])), (plf, .inl (plkf, 40, .inl plF)), (plo, .inl (plko, 40, .inl plO)), (plb, .inl (plkb, 40, .inr (.inl plB))), (pla, .inl (plka, 100, .inl plA)), (sq, .inl (ksq, 25, .inl sS))] sz)) 0 0 (va_A [(h0, .inr (6, [.ref tp, .int ts, .int fn, .int fp, .ref rd, .ref gd, .ref im, .ref rw, .ref gn, .ref ho, .ref sq])), (gd, .inr (0, [.ref pl, .int gdl, .long gdh, .long gdw, .int gdi, .int gde, .int gdc, .ref gdt, .int gdg, .ref gdu, .int gdn, .ref gdx])), (pl, .inr (3, [.int plw, .int pld, .int plc, .int pls, .long plm, .ref plf, .ref plo, .ref plb, .ref pla])), (plf, .inl (plkf, 40, .inl plF)), (plo, .inl (plko, 40, .inl plO)), (plb, .inl (plkb, 40, .inr (.inl plB))), (pla, .inl (plka, 100, .inl plA)), (sq, .inl (ksq, 25, .inl sS))] sz) := by
  refine Met.ofW (cc := cX6_way) (maxL := 6) (ret := (some .int)) (by decide) rfl ?_
  intro p e s m args below meth c s₁ B hml hv
  obtain ⟨rfl, hsz, hP, hK, hD0⟩ := hv
  have hx := B.exec
  have hb := B.bytes
  have hr := B.returns
  have hts := atoms_spec (ws := wz_X6_way) B.pre
  have hown : s.vm.findClass RX6 = some m.cls := findClass_of_methodNamed B.named
  have hlocks := B.notSynchronized
  subst hsz
  have hD := hD0.self (sz := s.heap.size)
  generalize hAe : va_A [(h0, .inr (6, [.ref tp, .int ts, .int fn, .int fp, .ref rd, .ref gd, .ref im, .ref rw, .ref gn, .ref ho, .ref sq])), (gd, .inr (0, [.ref pl, .int gdl, .long gdh, .long gdw, .int gdi, .int gde, .int gdc, .ref gdt, .int gdg, .ref gdu, .int gdn, .ref gdx])), (pl, .inr (3, [.int plw, .int pld, .int plc, .int pls, .long plm, .ref plf, .ref plo, .ref plb, .ref pla])), (plf, .inl (plkf, 40, .inl plF)), (plo, .inl (plko, 40, .inl plO)), (plb, .inl (plkb, 40, .inr (.inl plB))), (pla, .inl (plka, 100, .inl plA)), (sq, .inl (ksq, 25, .inl sS))] s.heap.size = A at hD ⊢
  have hA : ∀ q : Nat, s.heap.size ≤ q → A q := fun q h => by rw [← hAe]; exact Or.inr h
  have hS : va_S A s.heap s.heap [] := va_S.rf
  have hP : va_P (dC, dI) vwCl [(h0, .inr (6, [.ref tp, .int ts, .int fn, .int fp, .ref rd, .ref gd, .ref im, .ref rw, .ref gn, .ref ho, .ref sq])), (gd, .inr (0, [.ref pl, .int gdl, .long gdh, .long gdw, .int gdi, .int gde, .int gdc, .ref gdt, .int gdg, .ref gdu, .int gdn, .ref gdx])), (pl, .inr (3, [.int plw, .int pld, .int plc, .int pls, .long plm, .ref plf, .ref plo, .ref plb, .ref pla])), (plf, .inl (plkf, 40, .inl plF)), (plo, .inl (plko, 40, .inl plO)), (plb, .inl (plkb, 40, .inr (.inl plB))), (pla, .inl (plka, 100, .inl plA)), (sq, .inl (ksq, 25, .inl sS))] s.heap := hP
  have hl := lv_entry ([.ref h0, .int p0, .int p1, .int p2]) (n := 6) (Nat.le_of_ble_eq_true rfl)
  rw [lg_entry_eq]
  generalize (lg_sl ([.ref h0, .int p0, .int p1, .int p2]) ++ List.replicate (6 - (lg_sl ([.ref h0, .int p0, .int p1, .int p2])).length) Slot.unset).toArray = ls at hl ⊢
  have hl : lv_has ls 6 [(0, .ref h0), (1, .int p0), (2, .int p1), (3, .int p2)] := hl
  have hr2 := i_rng p2
  refine lv_aload_n hx hb dX6_way_0 rfl (lv_at hl 0 rfl) ?_
  refine lv_iload_n hx hb dX6_way_1 rfl (lv_at hl 1 rfl) ?_
  have hPc := hP.sub (ws' := [(h0, .inr (6, [.ref tp, .int ts, .int fn, .int fp, .ref rd, .ref gd, .ref im, .ref rw, .ref gn, .ref ho, .ref sq])), (gd, .inr (0, [.ref pl, .int gdl, .long gdh, .long gdw, .int gdi, .int gde, .int gdc, .ref gdt, .int gdg, .ref gdu, .int gdn, .ref gdx])), (pl, .inr (3, [.int plw, .int pld, .int plc, .int pls, .long plm, .ref plf, .ref plo, .ref plb, .ref pla]))]) [0, 1, 2] rfl
  have hDc := hD.sub (ws' := [(h0, .inr (6, [.ref tp, .int ts, .int fn, .int fp, .ref rd, .ref gd, .ref im, .ref rw, .ref gn, .ref ho, .ref sq])), (gd, .inr (0, [.ref pl, .int gdl, .long gdh, .long gdw, .int gdi, .int gde, .int gdc, .ref gdt, .int gdg, .ref gdu, .int gdn, .ref gdx])), (pl, .inr (3, [.int plw, .int pld, .int plc, .int pls, .long plm, .ref plf, .ref plo, .ref plb, .ref pla]))]) [0, 1, 2] (by decide) rfl
  have hKc := hK.sub (tys' := []) [] rfl
  have hFc := va_free (wc := [(h0, .inr (6, [.ref tp, .int ts, .int fn, .int fp, .ref rd, .ref gd, .ref im, .ref rw, .ref gn, .ref ho, .ref sq])), (gd, .inr (0, [.ref pl, .int gdl, .long gdh, .long gdw, .int gdi, .int gde, .int gdc, .ref gdt, .int gdg, .ref gdu, .int gdn, .ref gdx])), (pl, .inr (3, [.int plw, .int pld, .int plc, .int pls, .long plm, .ref plf, .ref plo, .ref plb, .ref pla]))]) hD hS hA [0, 1, 2] rfl
  refine va_calli (va_runV (As := [.int p0]) (rest := []) ⟨hx, hb, hml, hown, hts⟩ (c_X6_isCell l dC dI s.heap.size h0 tp ts fn fp rd gd im rw gn ho sq gdl gdh gdw gdi gde gdc gdt gdg gdu gdn gdx pl plw pld plc pls plm plf plo plb pla p0 ) (cwV 1 hts g_X6_way_X6_isCell rfl rfl rfl (by decide +kernel) ⟨Nat.le_of_ble_eq_true rfl, Nat.le_of_ble_eq_true rfl⟩) ⟨fun a U g mk q => by obtain ⟨q0, q1, qP, qK, qD⟩ := q; exact ⟨q0, q1, qP, va_K.moved (u := U) (U := U.calling g mk a) (Vm.Alike.refl U.vm) qK, qD⟩, va_recv hKc hPc (ci := 6) (q0 := 0) rfl rfl, fun U hU hW => ⟨rfl, by rw [hU], by rw [hU]; exact hPc, va_K.moved hW.alike hKc, hDc.weaken (fun _ _ _ _ => trivial)⟩⟩ rfl rfl hl.1 rfl (lv_room (Nat.le_of_ble_eq_true rfl)) dX6_way_2 ⟨Nat.le_of_ble_eq_true rfl, Nat.le_of_ble_eq_true rfl⟩) hS (fun q _ h => hFc q h) hFc (fun r_1 u t H1 locs ht hvm hw_2 hB hz1 hk1 hS => ?_)
  obtain ⟨hP1, hK1, hD1⟩ := hB
  have hP1 : va_P (dC, dI) vwCl [(h0, .inr (6, [.ref tp, .int ts, .int fn, .int fp, .ref rd, .ref gd, .ref im, .ref rw, .ref gn, .ref ho, .ref sq])), (gd, .inr (0, [.ref pl, .int gdl, .long gdh, .long gdw, .int gdi, .int gde, .int gdc, .ref gdt, .int gdg, .ref gdu, .int gdn, .ref gdx])), (pl, .inr (3, [.int plw, .int pld, .int plc, .int pls, .long plm, .ref plf, .ref plo, .ref plb, .ref pla]))] t.heap := hP1
  rw [ht] at hP1
  try dsimp only at hw_2
  obtain ⟨hP, hD⟩ := va_join (wr := [(plf, .inl (plkf, 40, .inl plF)), (plo, .inl (plko, 40, .inl plO)), (plb, .inl (plkb, 40, .inr (.inl plB))), (pla, .inl (plka, 100, .inl plA)), (sq, .inl (ksq, 25, .inl sS))]) (w1 := [(h0, .inr (6, [.ref tp, .int ts, .int fn, .int fp, .ref rd, .ref gd, .ref im, .ref rw, .ref gn, .ref ho, .ref sq])), (gd, .inr (0, [.ref pl, .int gdl, .long gdh, .long gdw, .int gdi, .int gde, .int gdc, .ref gdt, .int gdg, .ref gdu, .int gdn, .ref gdx])), (pl, .inr (3, [.int plw, .int pld, .int plc, .int pls, .long plm, .ref plf, .ref plo, .ref plb, .ref pla]))]) hP hD [0, 1, 2] [3, 4, 5, 6, 7] rfl rfl (by decide) (by decide) hk1 hFc hP1 hD1
  generalize H1 = H at hP hS ⊢
  have hP : va_P (dC, dI) vwCl [(plf, .inl (plkf, 40, .inl plF)), (plo, .inl (plko, 40, .inl plO)), (plb, .inl (plkb, 40, .inr (.inl plB))), (pla, .inl (plka, 100, .inl plA)), (sq, .inl (ksq, 25, .inl sS)), (h0, .inr (6, [.ref tp, .int ts, .int fn, .int fp, .ref rd, .ref gd, .ref im, .ref rw, .ref gn, .ref ho, .ref sq])), (gd, .inr (0, [.ref pl, .int gdl, .long gdh, .long gdw, .int gdi, .int gde, .int gdc, .ref gdt, .int gdg, .ref gdu, .int gdn, .ref gdx])), (pl, .inr (3, [.int plw, .int pld, .int plc, .int pls, .long plm, .ref plf, .ref plo, .ref plb, .ref pla]))] H := hP
  have hD : va_D A [(plf, .inl (plkf, 40, .inl plF)), (plo, .inl (plko, 40, .inl plO)), (plb, .inl (plkb, 40, .inr (.inl plB))), (pla, .inl (plka, 100, .inl plA)), (sq, .inl (ksq, 25, .inl sS)), (h0, .inr (6, [.ref tp, .int ts, .int fn, .int fp, .ref rd, .ref gd, .ref im, .ref rw, .ref gn, .ref ho, .ref sq])), (gd, .inr (0, [.ref pl, .int gdl, .long gdh, .long gdw, .int gdi, .int gde, .int gdc, .ref gdt, .int gdg, .ref gdu, .int gdn, .ref gdx])), (pl, .inr (3, [.int plw, .int pld, .int plc, .int pls, .long plm, .ref plf, .ref plo, .ref plb, .ref pla]))] := hD
  rcases i_bool hw_2 with ⟨r_19, hC⟩ | ⟨r_19, hC⟩
  · obtain rfl : r_1 = 1 := r_19
    have hC_3 := hC
    refine lv_if_eq (tgt := 16) hx hb dX6_way_5 (by decide) (fun h => absurd h (by decide)) (fun _ => ?_)
    refine lv_aload_n hx hb dX6_way_8 rfl (lv_at hl 0 rfl) ?_
    refine lv_iload_n hx hb dX6_way_9 rfl (lv_at hl 2 rfl) ?_
    have hPc := hP.sub (ws' := [(h0, .inr (6, [.ref tp, .int ts, .int fn, .int fp, .ref rd, .ref gd, .ref im, .ref rw, .ref gn, .ref ho, .ref sq])), (gd, .inr (0, [.ref pl, .int gdl, .long gdh, .long gdw, .int gdi, .int gde, .int gdc, .ref gdt, .int gdg, .ref gdu, .int gdn, .ref gdx])), (pl, .inr (3, [.int plw, .int pld, .int plc, .int pls, .long plm, .ref plf, .ref plo, .ref plb, .ref pla]))]) [5, 6, 7] rfl
    have hDc := hD.sub (ws' := [(h0, .inr (6, [.ref tp, .int ts, .int fn, .int fp, .ref rd, .ref gd, .ref im, .ref rw, .ref gn, .ref ho, .ref sq])), (gd, .inr (0, [.ref pl, .int gdl, .long gdh, .long gdw, .int gdi, .int gde, .int gdc, .ref gdt, .int gdg, .ref gdu, .int gdn, .ref gdx])), (pl, .inr (3, [.int plw, .int pld, .int plc, .int pls, .long plm, .ref plf, .ref plo, .ref plb, .ref pla]))]) [5, 6, 7] (by decide) rfl
    have hKc := hK.sub (tys' := []) [] rfl
    have hFc := va_free (wc := [(h0, .inr (6, [.ref tp, .int ts, .int fn, .int fp, .ref rd, .ref gd, .ref im, .ref rw, .ref gn, .ref ho, .ref sq])), (gd, .inr (0, [.ref pl, .int gdl, .long gdh, .long gdw, .int gdi, .int gde, .int gdc, .ref gdt, .int gdg, .ref gdu, .int gdn, .ref gdx])), (pl, .inr (3, [.int plw, .int pld, .int plc, .int pls, .long plm, .ref plf, .ref plo, .ref plb, .ref pla]))]) hD hS hA [5, 6, 7] rfl
    refine va_calli (va_runV (As := [.int p1]) (rest := []) ⟨hx, hb, hml, hown, hts⟩ (c_X6_isCell l dC dI H.size h0 tp ts fn fp rd gd im rw gn ho sq gdl gdh gdw gdi gde gdc gdt gdg gdu gdn gdx pl plw pld plc pls plm plf plo plb pla p1 ) (cwV 1 hts g_X6_way_X6_isCell rfl rfl rfl (by decide +kernel) ⟨Nat.le_of_ble_eq_true rfl, Nat.le_of_ble_eq_true rfl⟩) ⟨fun a U g mk q => by obtain ⟨q0, q1, qP, qK, qD⟩ := q; exact ⟨q0, q1, qP, va_K.moved (u := U) (U := U.calling g mk a) (Vm.Alike.refl U.vm) qK, qD⟩, va_recv hKc hPc (ci := 6) (q0 := 0) rfl rfl, fun U hU hW => ⟨rfl, by rw [hU], by rw [hU]; exact hPc, va_K.moved hW.alike hKc, hDc.weaken (fun _ _ _ _ => trivial)⟩⟩ rfl rfl hl.1 rfl (lv_room (Nat.le_of_ble_eq_true rfl)) dX6_way_10 ⟨Nat.le_of_ble_eq_true rfl, Nat.le_of_ble_eq_true rfl⟩) hS (fun q _ h => hFc q h) hFc (fun r_5 u t H1 locs ht hvm hw_6 hB hz1 hk1 hS => ?_)
    obtain ⟨hP1, hK1, hD1⟩ := hB
    have hP1 : va_P (dC, dI) vwCl [(h0, .inr (6, [.ref tp, .int ts, .int fn, .int fp, .ref rd, .ref gd, .ref im, .ref rw, .ref gn, .ref ho, .ref sq])), (gd, .inr (0, [.ref pl, .int gdl, .long gdh, .long gdw, .int gdi, .int gde, .int gdc, .ref gdt, .int gdg, .ref gdu, .int gdn, .ref gdx])), (pl, .inr (3, [.int plw, .int pld, .int plc, .int pls, .long plm, .ref plf, .ref plo, .ref plb, .ref pla]))] t.heap := hP1
    rw [ht] at hP1
    try dsimp only at hw_6
    obtain ⟨hP, hD⟩ := va_join (wr := [(plf, .inl (plkf, 40, .inl plF)), (plo, .inl (plko, 40, .inl plO)), (plb, .inl (plkb, 40, .inr (.inl plB))), (pla, .inl (plka, 100, .inl plA)), (sq, .inl (ksq, 25, .inl sS))]) (w1 := [(h0, .inr (6, [.ref tp, .int ts, .int fn, .int fp, .ref rd, .ref gd, .ref im, .ref rw, .ref gn, .ref ho, .ref sq])), (gd, .inr (0, [.ref pl, .int gdl, .long gdh, .long gdw, .int gdi, .int gde, .int gdc, .ref gdt, .int gdg, .ref gdu, .int gdn, .ref gdx])), (pl, .inr (3, [.int plw, .int pld, .int plc, .int pls, .long plm, .ref plf, .ref plo, .ref plb, .ref pla]))]) hP hD [5, 6, 7] [0, 1, 2, 3, 4] rfl rfl (by decide) (by decide) hk1 hFc hP1 hD1
    generalize H1 = H at hP hS ⊢
    have hP : va_P (dC, dI) vwCl [(plf, .inl (plkf, 40, .inl plF)), (plo, .inl (plko, 40, .inl plO)), (plb, .inl (plkb, 40, .inr (.inl plB))), (pla, .inl (plka, 100, .inl plA)), (sq, .inl (ksq, 25, .inl sS)), (h0, .inr (6, [.ref tp, .int ts, .int fn, .int fp, .ref rd, .ref gd, .ref im, .ref rw, .ref gn, .ref ho, .ref sq])), (gd, .inr (0, [.ref pl, .int gdl, .long gdh, .long gdw, .int gdi, .int gde, .int gdc, .ref gdt, .int gdg, .ref gdu, .int gdn, .ref gdx])), (pl, .inr (3, [.int plw, .int pld, .int plc, .int pls, .long plm, .ref plf, .ref plo, .ref plb, .ref pla]))] H := hP
    have hD : va_D A [(plf, .inl (plkf, 40, .inl plF)), (plo, .inl (plko, 40, .inl plO)), (plb, .inl (plkb, 40, .inr (.inl plB))), (pla, .inl (plka, 100, .inl plA)), (sq, .inl (ksq, 25, .inl sS)), (h0, .inr (6, [.ref tp, .int ts, .int fn, .int fp, .ref rd, .ref gd, .ref im, .ref rw, .ref gn, .ref ho, .ref sq])), (gd, .inr (0, [.ref pl, .int gdl, .long gdh, .long gdw, .int gdi, .int gde, .int gdc, .ref gdt, .int gdg, .ref gdu, .int gdn, .ref gdx])), (pl, .inr (3, [.int plw, .int pld, .int plc, .int pls, .long plm, .ref plf, .ref plo, .ref plb, .ref pla]))] := hD
    rcases i_bool hw_6 with ⟨r_59, hC⟩ | ⟨r_59, hC⟩
    · obtain rfl : r_5 = 1 := r_59
      have hC_7 := hC
      refine lv_if_ne (tgt := 19) hx hb dX6_way_13 (by decide) (fun _ => ?_) (fun h => absurd h (by decide))
      refine lv_aload_n hx hb dX6_way_19 rfl (lv_at hl 0 rfl) ?_
      refine va_get (D := (dC, dI)) (ci := 6) (v := .ref gd) (C := RX6) (T := TX6) (N := 11) hx hb hts in_X6_way_X6 hown hK hP 5 rfl rfl 5 (by decide) (hts _ wd_X6_way_0) (fun _ h9 => h9) rfl dX6_way_20 ?_
      refine va_get (D := (dC, dI)) (ci := 0) (v := .ref pl) (C := RX0) (T := TX0) (N := 12) hx hb hts in_X6_way_X0 hown hK hP 6 rfl rfl 0 (by decide) (hts _ wd_X6_way_1) (fun _ h9 => h9) rfl dX6_way_23 ?_
      refine lv_iload_n hx hb dX6_way_26 rfl (lv_at hl 2 rfl) ?_
      refine lv_aload_n hx hb dX6_way_27 rfl (lv_at hl 0 rfl) ?_
      refine va_get (D := (dC, dI)) (ci := 6) (v := .ref gd) (C := RX6) (T := TX6) (N := 11) hx hb hts in_X6_way_X6 hown hK hP 5 rfl rfl 5 (by decide) (hts _ wd_X6_way_0) (fun _ h9 => h9) rfl dX6_way_28 ?_
      have hPc := hP.sub (ws' := [(gd, .inr (0, [.ref pl, .int gdl, .long gdh, .long gdw, .int gdi, .int gde, .int gdc, .ref gdt, .int gdg, .ref gdu, .int gdn, .ref gdx])), (pl, .inr (3, [.int plw, .int pld, .int plc, .int pls, .long plm, .ref plf, .ref plo, .ref plb, .ref pla]))]) [6, 7] rfl
      have hDc := hD.sub (ws' := [(gd, .inr (0, [.ref pl, .int gdl, .long gdh, .long gdw, .int gdi, .int gde, .int gdc, .ref gdt, .int gdg, .ref gdu, .int gdn, .ref gdx])), (pl, .inr (3, [.int plw, .int pld, .int plc, .int pls, .long plm, .ref plf, .ref plo, .ref plb, .ref pla]))]) [6, 7] (by decide) rfl
      have hKc := hK.sub (tys' := []) [] rfl
      have hFc := va_free (wc := [(gd, .inr (0, [.ref pl, .int gdl, .long gdh, .long gdw, .int gdi, .int gde, .int gdc, .ref gdt, .int gdg, .ref gdu, .int gdn, .ref gdx])), (pl, .inr (3, [.int plw, .int pld, .int plc, .int pls, .long plm, .ref plf, .ref plo, .ref plb, .ref pla]))]) hD hS hA [6, 7] rfl
      refine va_calll (va_runV (As := []) (rest := [.int p1, .ref pl]) ⟨hx, hb, hml, hown, hts⟩ (c_X0_openSides l dC dI H.size gd gdl gdh gdw gdi gde gdc gdt gdg gdu gdn gdx pl plw pld plc pls plm plf plo plb pla ) (cwV 0 hts g_X6_way_X0_openSides rfl rfl rfl (by decide +kernel) ⟨Nat.le_of_ble_eq_true rfl, Nat.le_of_ble_eq_true rfl⟩) ⟨fun a U g mk q => by obtain ⟨q0, q1, qP, qK, qD⟩ := q; exact ⟨q0, q1, qP, va_K.moved (u := U) (U := U.calling g mk a) (Vm.Alike.refl U.vm) qK, qD⟩, va_recv hKc hPc (ci := 0) (q0 := 0) rfl rfl, fun U hU hW => ⟨rfl, by rw [hU], by rw [hU]; exact hPc, va_K.moved hW.alike hKc, hDc.weaken (fun _ _ _ _ => trivial)⟩⟩ rfl rfl hl.1 rfl (lv_room (Nat.le_of_ble_eq_true rfl)) dX6_way_31 ⟨Nat.le_of_ble_eq_true rfl, Nat.le_of_ble_eq_true rfl⟩) hS (fun q _ h => hFc q h) hFc (fun r_9 u t H1 locs ht hvm hw_10 hB hz1 hk1 hS => ?_)
      obtain ⟨hP1, hK1, hD1⟩ := hB
      have hP1 : va_P (dC, dI) vwCl [(gd, .inr (0, [.ref pl, .int gdl, .long gdh, .long gdw, .int gdi, .int gde, .int gdc, .ref gdt, .int gdg, .ref gdu, .int gdn, .ref gdx])), (pl, .inr (3, [.int plw, .int pld, .int plc, .int pls, .long plm, .ref plf, .ref plo, .ref plb, .ref pla]))] t.heap := hP1
      rw [ht] at hP1
      try dsimp only at hw_10
      obtain ⟨hP, hD⟩ := va_join (wr := [(plf, .inl (plkf, 40, .inl plF)), (plo, .inl (plko, 40, .inl plO)), (plb, .inl (plkb, 40, .inr (.inl plB))), (pla, .inl (plka, 100, .inl plA)), (sq, .inl (ksq, 25, .inl sS)), (h0, .inr (6, [.ref tp, .int ts, .int fn, .int fp, .ref rd, .ref gd, .ref im, .ref rw, .ref gn, .ref ho, .ref sq]))]) (w1 := [(gd, .inr (0, [.ref pl, .int gdl, .long gdh, .long gdw, .int gdi, .int gde, .int gdc, .ref gdt, .int gdg, .ref gdu, .int gdn, .ref gdx])), (pl, .inr (3, [.int plw, .int pld, .int plc, .int pls, .long plm, .ref plf, .ref plo, .ref plb, .ref pla]))]) hP hD [6, 7] [0, 1, 2, 3, 4, 5] rfl rfl (by decide) (by decide) hk1 hFc hP1 hD1
      generalize H1 = H at hP hS ⊢
      have hP : va_P (dC, dI) vwCl [(plf, .inl (plkf, 40, .inl plF)), (plo, .inl (plko, 40, .inl plO)), (plb, .inl (plkb, 40, .inr (.inl plB))), (pla, .inl (plka, 100, .inl plA)), (sq, .inl (ksq, 25, .inl sS)), (h0, .inr (6, [.ref tp, .int ts, .int fn, .int fp, .ref rd, .ref gd, .ref im, .ref rw, .ref gn, .ref ho, .ref sq])), (gd, .inr (0, [.ref pl, .int gdl, .long gdh, .long gdw, .int gdi, .int gde, .int gdc, .ref gdt, .int gdg, .ref gdu, .int gdn, .ref gdx])), (pl, .inr (3, [.int plw, .int pld, .int plc, .int pls, .long plm, .ref plf, .ref plo, .ref plb, .ref pla]))] H := hP
      have hD : va_D A [(plf, .inl (plkf, 40, .inl plF)), (plo, .inl (plko, 40, .inl plO)), (plb, .inl (plkb, 40, .inr (.inl plB))), (pla, .inl (plka, 100, .inl plA)), (sq, .inl (ksq, 25, .inl sS)), (h0, .inr (6, [.ref tp, .int ts, .int fn, .int fp, .ref rd, .ref gd, .ref im, .ref rw, .ref gn, .ref ho, .ref sq])), (gd, .inr (0, [.ref pl, .int gdl, .long gdh, .long gdw, .int gdi, .int gde, .int gdc, .ref gdt, .int gdg, .ref gdu, .int gdn, .ref gdx])), (pl, .inr (3, [.int plw, .int pld, .int plc, .int pls, .long plm, .ref plf, .ref plo, .ref plb, .ref pla]))] := hD
      refine lv_aload_n hx hb dX6_way_34 rfl (lv_at hl 0 rfl) ?_
      refine va_get (D := (dC, dI)) (ci := 6) (v := .ref sq) (C := RX6) (T := TX6) (N := 11) hx hb hts in_X6_way_X6 hown hK hP 5 rfl rfl 10 (by decide) (hts _ wd_X6_way_2) (fun _ h9 => h9) rfl dX6_way_35 ?_
      have hPc := hP.sub (ws' := [(pl, .inr (3, [.int plw, .int pld, .int plc, .int pls, .long plm, .ref plf, .ref plo, .ref plb, .ref pla])), (sq, .inl (ksq, 25, .inl sS))]) [7, 4] rfl
      have hDc := hD.sub (ws' := [(pl, .inr (3, [.int plw, .int pld, .int plc, .int pls, .long plm, .ref plf, .ref plo, .ref plb, .ref pla])), (sq, .inl (ksq, 25, .inl sS))]) [7, 4] (by decide) rfl
      have hKc := hK.sub (tys' := [(ksq, .int)]) [4] rfl
      have hFc := va_free (wc := [(pl, .inr (3, [.int plw, .int pld, .int plc, .int pls, .long plm, .ref plf, .ref plo, .ref plb, .ref pla])), (sq, .inl (ksq, 25, .inl sS))]) hD hS hA [7, 4] rfl
      refine va_callv (va_runV (As := [.int p1, .long r_9, .ref sq]) (rest := []) ⟨hx, hb, hml, hown, hts⟩ (c_X3_measure l dC dI H.size pl plw pld plc pls plm plf plo plb pla p1 r_9 sq ksq sS (by omega)) (cwV 3 hts g_X6_way_X3_measure rfl rfl rfl (by decide +kernel) ⟨Nat.le_of_ble_eq_true rfl, Nat.le_of_ble_eq_true rfl⟩) ⟨fun a U g mk q => by obtain ⟨q0, q1, qP, qK, qD⟩ := q; exact ⟨q0, q1, qP, va_K.moved (u := U) (U := U.calling g mk a) (Vm.Alike.refl U.vm) qK, qD⟩, va_recv hKc hPc (ci := 3) (q0 := 0) rfl rfl, fun U hU hW => ⟨rfl, by rw [hU], by rw [hU]; exact hPc, va_K.moved hW.alike hKc, hDc.weaken (fun _ _ _ _ => trivial)⟩⟩ rfl rfl hl.1 rfl (lv_room (Nat.le_of_ble_eq_true rfl)) dX6_way_38 ⟨Nat.le_of_ble_eq_true rfl, Nat.le_of_ble_eq_true rfl⟩) hS (fun q _ h => hFc q h) hFc (fun u t H1 locs ht hvm hw_11 hB hz1 hk1 hS => ?_)
      obtain ⟨S2_12, rfl⟩ : ∃ z, z = u := ⟨_, rfl⟩
      obtain ⟨hP1, hK1, hD1⟩ := hB
      have hP1 : va_P (dC, dI) vwCl [(pl, .inr (3, [.int plw, .int pld, .int plc, .int pls, .long plm, .ref plf, .ref plo, .ref plb, .ref pla])), (sq, .inl (ksq, 25, .inl S2_12))] t.heap := hP1
      rw [ht] at hP1
      try dsimp only at hw_11
      obtain ⟨hP, hD⟩ := va_join (wr := [(plf, .inl (plkf, 40, .inl plF)), (plo, .inl (plko, 40, .inl plO)), (plb, .inl (plkb, 40, .inr (.inl plB))), (pla, .inl (plka, 100, .inl plA)), (h0, .inr (6, [.ref tp, .int ts, .int fn, .int fp, .ref rd, .ref gd, .ref im, .ref rw, .ref gn, .ref ho, .ref sq])), (gd, .inr (0, [.ref pl, .int gdl, .long gdh, .long gdw, .int gdi, .int gde, .int gdc, .ref gdt, .int gdg, .ref gdu, .int gdn, .ref gdx]))]) (w1 := [(pl, .inr (3, [.int plw, .int pld, .int plc, .int pls, .long plm, .ref plf, .ref plo, .ref plb, .ref pla])), (sq, .inl (ksq, 25, .inl S2_12))]) hP hD [7, 4] [0, 1, 2, 3, 5, 6] rfl rfl (by decide) (by decide) hk1 hFc hP1 hD1
      generalize H1 = H at hP hS ⊢
      have hP : va_P (dC, dI) vwCl [(plf, .inl (plkf, 40, .inl plF)), (plo, .inl (plko, 40, .inl plO)), (plb, .inl (plkb, 40, .inr (.inl plB))), (pla, .inl (plka, 100, .inl plA)), (h0, .inr (6, [.ref tp, .int ts, .int fn, .int fp, .ref rd, .ref gd, .ref im, .ref rw, .ref gn, .ref ho, .ref sq])), (gd, .inr (0, [.ref pl, .int gdl, .long gdh, .long gdw, .int gdi, .int gde, .int gdc, .ref gdt, .int gdg, .ref gdu, .int gdn, .ref gdx])), (pl, .inr (3, [.int plw, .int pld, .int plc, .int pls, .long plm, .ref plf, .ref plo, .ref plb, .ref pla])), (sq, .inl (ksq, 25, .inl S2_12))] H := hP
      have hD : va_D A [(plf, .inl (plkf, 40, .inl plF)), (plo, .inl (plko, 40, .inl plO)), (plb, .inl (plkb, 40, .inr (.inl plB))), (pla, .inl (plka, 100, .inl plA)), (h0, .inr (6, [.ref tp, .int ts, .int fn, .int fp, .ref rd, .ref gd, .ref im, .ref rw, .ref gn, .ref ho, .ref sq])), (gd, .inr (0, [.ref pl, .int gdl, .long gdh, .long gdw, .int gdi, .int gde, .int gdc, .ref gdt, .int gdg, .ref gdu, .int gdn, .ref gdx])), (pl, .inr (3, [.int plw, .int pld, .int plc, .int pls, .long plm, .ref plf, .ref plo, .ref plb, .ref pla])), (sq, .inl (ksq, 25, .inl S2_12))] := hD
      refine lv_iload_n hx hb dX6_way_41 rfl (lv_at hl 3 rfl) ?_
      refine lv_if_lt (tgt := 55) hx hb dX6_way_42 (by decide) (fun c_13 => ?_) (fun c_13 => ?_)
      · have c_13 : p2.toInt < 0 := i_lt (a := p2) (b := 0) rfl (by decide) c_13
        refine lv_iconst (v := -1) hx hb dX6_way_55 (by decide) ?_
        have hP9 := hP.sub (ws' := [(h0, .inr (6, [.ref tp, .int ts, .int fn, .int fp, .ref rd, .ref gd, .ref im, .ref rw, .ref gn, .ref ho, .ref sq])), (gd, .inr (0, [.ref pl, .int gdl, .long gdh, .long gdw, .int gdi, .int gde, .int gdc, .ref gdt, .int gdg, .ref gdu, .int gdn, .ref gdx])), (pl, .inr (3, [.int plw, .int pld, .int plc, .int pls, .long plm, .ref plf, .ref plo, .ref plb, .ref pla])), (plf, .inl (plkf, 40, .inl plF)), (plo, .inl (plko, 40, .inl plO)), (plb, .inl (plkb, 40, .inr (.inl plB))), (pla, .inl (plka, 100, .inl plA)), (sq, .inl (ksq, 25, .inl S2_12))]) [4, 5, 6, 0, 1, 2, 3, 7] rfl
        have hD9 := hD.sub (ws' := [(h0, .inr (6, [.ref tp, .int ts, .int fn, .int fp, .ref rd, .ref gd, .ref im, .ref rw, .ref gn, .ref ho, .ref sq])), (gd, .inr (0, [.ref pl, .int gdl, .long gdh, .long gdw, .int gdi, .int gde, .int gdc, .ref gdt, .int gdg, .ref gdu, .int gdn, .ref gdx])), (pl, .inr (3, [.int plw, .int pld, .int plc, .int pls, .long plm, .ref plf, .ref plo, .ref plb, .ref pla])), (plf, .inl (plkf, 40, .inl plF)), (plo, .inl (plko, 40, .inl plO)), (plb, .inl (plkb, 40, .inr (.inl plB))), (pla, .inl (plka, 100, .inl plA)), (sq, .inl (ksq, 25, .inl S2_12))]) [4, 5, 6, 0, 1, 2, 3, 7] (by decide) rfl
        have hK9 := hK.sub (tys' := []) [] rfl
        refine W.widen (k := 0) (n := 0) (by omega) (by omega) ?_
        exact W.iret (v := -1) hx hb hr (fun t ht hW => ⟨⟨(-1), (S2_12), rfl, trivial, by rw [ht]; exact hP9, va_K.moved hW.alike hK9, hD9⟩, hS.F ht⟩) hS.2.2 dX6_way_56
      · have c_13 : 0 ≤ p2.toInt := i_nlt (a := p2) (b := 0) rfl (by decide) c_13
        refine lv_iload_n hx hb dX6_way_45 rfl (lv_at hl 3 rfl) ?_
        refine lv_aload_n hx hb dX6_way_46 rfl (lv_at hl 0 rfl) ?_
        refine va_get (D := (dC, dI)) (ci := 6) (v := .ref sq) (C := RX6) (T := TX6) (N := 11) hx hb hts in_X6_way_X6 hown hK hP 4 rfl rfl 10 (by decide) (hts _ wd_X6_way_2) (fun _ h9 => h9) rfl dX6_way_47 ?_
        refine lv_iload_n hx hb dX6_way_50 rfl (lv_at hl 1 rfl) ?_
        refine va_iald hx hb hK hP 7 4 rfl rfl (i_in rfl (by omega) (by omega)) dX6_way_51 ?_
        refine lv_topi (fun v_14 ev_14 => ?_)
        refine lv_icmp_le (tgt := 57) hx hb dX6_way_52 (by decide) (fun c_15 => ?_) (fun c_15 => ?_)
        · have c_15 : p2.toInt ≤ v_14.toInt := i_le (a := p2) (b := v_14) rfl rfl c_15
          refine lv_iload_n hx hb dX6_way_57 rfl (lv_at hl 1 rfl) ?_
          refine lv_istore (lv' := [(4, .int p0), (0, .ref h0), (1, .int p0), (2, .int p1), (3, .int p2)]) hx hb dX6_way_58 hl (by decide) rfl (fun ls hl => ?_)
          refine lv_iconst (v := 0) hx hb dX6_way_60 (by decide) ?_
          refine lv_istore (lv' := [(5, .int 0), (4, .int p0), (0, .ref h0), (1, .int p0), (2, .int p1), (3, .int p2)]) hx hb dX6_way_61 hl (by decide) rfl (fun ls hl => ?_)
          refine lp_W (I := fun (a : Int32 × Int32) H locs ls => (0 ≤ a.1.toInt ∧ a.1.toInt ≤ p2.toInt) ∧ (0 ≤ a.2.toInt ∧ a.2.toInt ≤ 24) ∧ va_P (dC, dI) vwCl [(plf, .inl (plkf, 40, .inl plF)), (plo, .inl (plko, 40, .inl plO)), (plb, .inl (plkb, 40, .inr (.inl plB))), (pla, .inl (plka, 100, .inl plA)), (h0, .inr (6, [.ref tp, .int ts, .int fn, .int fp, .ref rd, .ref gd, .ref im, .ref rw, .ref gn, .ref ho, .ref sq])), (gd, .inr (0, [.ref pl, .int gdl, .long gdh, .long gdw, .int gdi, .int gde, .int gdc, .ref gdt, .int gdg, .ref gdu, .int gdn, .ref gdx])), (pl, .inr (3, [.int plw, .int pld, .int plc, .int pls, .long plm, .ref plf, .ref plo, .ref plb, .ref pla])), (sq, .inl (ksq, 25, .inl S2_12))] H ∧ va_D A [(plf, .inl (plkf, 40, .inl plF)), (plo, .inl (plko, 40, .inl plO)), (plb, .inl (plkb, 40, .inr (.inl plB))), (pla, .inl (plka, 100, .inl plA)), (h0, .inr (6, [.ref tp, .int ts, .int fn, .int fp, .ref rd, .ref gd, .ref im, .ref rw, .ref gn, .ref ho, .ref sq])), (gd, .inr (0, [.ref pl, .int gdl, .long gdh, .long gdw, .int gdi, .int gde, .int gdc, .ref gdt, .int gdg, .ref gdu, .int gdn, .ref gdx])), (pl, .inr (3, [.int plw, .int pld, .int plc, .int pls, .long plm, .ref plf, .ref plo, .ref plb, .ref pla])), (sq, .inl (ksq, 25, .inl S2_12))] ∧ va_S A s.heap H locs ∧ lv_has ls 6 [(5, .int a.1), (4, .int a.2), (0, .ref h0), (1, .int p0), (2, .int p1), (3, .int p2)]) (μ := fun a => (p2.toInt - a.1.toInt).toNat) ?_ ((0 : Int32), p0) ⟨(by have k0 : (0 : Int32).toInt = 0 := (by decide); (try dsimp only); omega), (by have k0 : (0 : Int32).toInt = 0 := (by decide); (try dsimp only); omega), hP.sub [0, 1, 2, 3, 4, 5, 6, 7] rfl, hD.sub [0, 1, 2, 3, 4, 5, 6, 7] (by decide) rfl, hS, lv_sub hl [0, 1, 2, 3, 4, 5] rfl⟩
          intro a H locs ls hI ih63
          obtain ⟨k1, at9⟩ := a
          obtain ⟨h_k1, h_at, hP, hD, hS, hl⟩ := hI
          have h_k1 : 0 ≤ k1.toInt ∧ k1.toInt ≤ p2.toInt := h_k1
          have h_at : 0 ≤ at9.toInt ∧ at9.toInt ≤ 24 := h_at
          have hP : va_P (dC, dI) vwCl [(plf, .inl (plkf, 40, .inl plF)), (plo, .inl (plko, 40, .inl plO)), (plb, .inl (plkb, 40, .inr (.inl plB))), (pla, .inl (plka, 100, .inl plA)), (h0, .inr (6, [.ref tp, .int ts, .int fn, .int fp, .ref rd, .ref gd, .ref im, .ref rw, .ref gn, .ref ho, .ref sq])), (gd, .inr (0, [.ref pl, .int gdl, .long gdh, .long gdw, .int gdi, .int gde, .int gdc, .ref gdt, .int gdg, .ref gdu, .int gdn, .ref gdx])), (pl, .inr (3, [.int plw, .int pld, .int plc, .int pls, .long plm, .ref plf, .ref plo, .ref plb, .ref pla])), (sq, .inl (ksq, 25, .inl S2_12))] H := hP
          have hD : va_D A [(plf, .inl (plkf, 40, .inl plF)), (plo, .inl (plko, 40, .inl plO)), (plb, .inl (plkb, 40, .inr (.inl plB))), (pla, .inl (plka, 100, .inl plA)), (h0, .inr (6, [.ref tp, .int ts, .int fn, .int fp, .ref rd, .ref gd, .ref im, .ref rw, .ref gn, .ref ho, .ref sq])), (gd, .inr (0, [.ref pl, .int gdl, .long gdh, .long gdw, .int gdi, .int gde, .int gdc, .ref gdt, .int gdg, .ref gdu, .int gdn, .ref gdx])), (pl, .inr (3, [.int plw, .int pld, .int plc, .int pls, .long plm, .ref plf, .ref plo, .ref plb, .ref pla])), (sq, .inl (ksq, 25, .inl S2_12))] := hD
          have hl : lv_has ls 6 [(5, .int k1), (4, .int at9), (0, .ref h0), (1, .int p0), (2, .int p1), (3, .int p2)] := hl
          refine lv_iload hx hb dX6_way_63 (lv_at hl 0 rfl) ?_
          refine lv_iload_n hx hb dX6_way_65 rfl (lv_at hl 5 rfl) ?_
          refine lv_icmp_ge (tgt := 83) hx hb dX6_way_66 (by decide) (fun c_16 => ?_) (fun c_16 => ?_)
          · have c_16 : p2.toInt ≤ k1.toInt := i_le (a := p2) (b := k1) rfl rfl c_16
            refine lv_iload hx hb dX6_way_83 (lv_at hl 1 rfl) ?_
            have hP9 := hP.sub (ws' := [(h0, .inr (6, [.ref tp, .int ts, .int fn, .int fp, .ref rd, .ref gd, .ref im, .ref rw, .ref gn, .ref ho, .ref sq])), (gd, .inr (0, [.ref pl, .int gdl, .long gdh, .long gdw, .int gdi, .int gde, .int gdc, .ref gdt, .int gdg, .ref gdu, .int gdn, .ref gdx])), (pl, .inr (3, [.int plw, .int pld, .int plc, .int pls, .long plm, .ref plf, .ref plo, .ref plb, .ref pla])), (plf, .inl (plkf, 40, .inl plF)), (plo, .inl (plko, 40, .inl plO)), (plb, .inl (plkb, 40, .inr (.inl plB))), (pla, .inl (plka, 100, .inl plA)), (sq, .inl (ksq, 25, .inl S2_12))]) [4, 5, 6, 0, 1, 2, 3, 7] rfl
            have hD9 := hD.sub (ws' := [(h0, .inr (6, [.ref tp, .int ts, .int fn, .int fp, .ref rd, .ref gd, .ref im, .ref rw, .ref gn, .ref ho, .ref sq])), (gd, .inr (0, [.ref pl, .int gdl, .long gdh, .long gdw, .int gdi, .int gde, .int gdc, .ref gdt, .int gdg, .ref gdu, .int gdn, .ref gdx])), (pl, .inr (3, [.int plw, .int pld, .int plc, .int pls, .long plm, .ref plf, .ref plo, .ref plb, .ref pla])), (plf, .inl (plkf, 40, .inl plF)), (plo, .inl (plko, 40, .inl plO)), (plb, .inl (plkb, 40, .inr (.inl plB))), (pla, .inl (plka, 100, .inl plA)), (sq, .inl (ksq, 25, .inl S2_12))]) [4, 5, 6, 0, 1, 2, 3, 7] (by decide) rfl
            have hK9 := hK.sub (tys' := []) [] rfl
            refine W.widen (k := 0) (n := 0) (by omega) (by omega) ?_
            exact W.iret (v := at9) hx hb hr (fun t ht hW => ⟨⟨at9, (S2_12), rfl, trivial, by rw [ht]; exact hP9, va_K.moved hW.alike hK9, hD9⟩, hS.F ht⟩) hS.2.2 dX6_way_85
          · have c_16 : k1.toInt < p2.toInt := i_nle (a := p2) (b := k1) rfl rfl c_16
            refine lv_aload_n hx hb dX6_way_69 rfl (lv_at hl 2 rfl) ?_
            refine lv_iload hx hb dX6_way_70 (lv_at hl 1 rfl) ?_
            have hPc := hP.sub (ws' := [(h0, .inr (6, [.ref tp, .int ts, .int fn, .int fp, .ref rd, .ref gd, .ref im, .ref rw, .ref gn, .ref ho, .ref sq])), (gd, .inr (0, [.ref pl, .int gdl, .long gdh, .long gdw, .int gdi, .int gde, .int gdc, .ref gdt, .int gdg, .ref gdu, .int gdn, .ref gdx])), (pl, .inr (3, [.int plw, .int pld, .int plc, .int pls, .long plm, .ref plf, .ref plo, .ref plb, .ref pla])), (plf, .inl (plkf, 40, .inl plF)), (plo, .inl (plko, 40, .inl plO)), (plb, .inl (plkb, 40, .inr (.inl plB))), (pla, .inl (plka, 100, .inl plA)), (sq, .inl (ksq, 25, .inl S2_12))]) [4, 5, 6, 0, 1, 2, 3, 7] rfl
            have hDc := hD.sub (ws' := [(h0, .inr (6, [.ref tp, .int ts, .int fn, .int fp, .ref rd, .ref gd, .ref im, .ref rw, .ref gn, .ref ho, .ref sq])), (gd, .inr (0, [.ref pl, .int gdl, .long gdh, .long gdw, .int gdi, .int gde, .int gdc, .ref gdt, .int gdg, .ref gdu, .int gdn, .ref gdx])), (pl, .inr (3, [.int plw, .int pld, .int plc, .int pls, .long plm, .ref plf, .ref plo, .ref plb, .ref pla])), (plf, .inl (plkf, 40, .inl plF)), (plo, .inl (plko, 40, .inl plO)), (plb, .inl (plkb, 40, .inr (.inl plB))), (pla, .inl (plka, 100, .inl plA)), (sq, .inl (ksq, 25, .inl S2_12))]) [4, 5, 6, 0, 1, 2, 3, 7] (by decide) rfl
            have hKc := hK.sub (tys' := [(plkf, .int), (plko, .int), (plkb, .long), (plka, .int), (ksq, .int)]) [0, 1, 2, 3, 4] rfl
            have hFc := va_free (wc := [(h0, .inr (6, [.ref tp, .int ts, .int fn, .int fp, .ref rd, .ref gd, .ref im, .ref rw, .ref gn, .ref ho, .ref sq])), (gd, .inr (0, [.ref pl, .int gdl, .long gdh, .long gdw, .int gdi, .int gde, .int gdc, .ref gdt, .int gdg, .ref gdu, .int gdn, .ref gdx])), (pl, .inr (3, [.int plw, .int pld, .int plc, .int pls, .long plm, .ref plf, .ref plo, .ref plb, .ref pla])), (plf, .inl (plkf, 40, .inl plF)), (plo, .inl (plko, 40, .inl plO)), (plb, .inl (plkb, 40, .inr (.inl plB))), (pla, .inl (plka, 100, .inl plA)), (sq, .inl (ksq, 25, .inl S2_12))]) hD hS hA [4, 5, 6, 0, 1, 2, 3, 7] rfl
            refine va_calli (va_runV (As := [.int at9]) (rest := []) ⟨hx, hb, hml, hown, hts⟩ (c_X6_stepOn l dC dI H.size h0 tp ts fn fp rd gd im rw gn ho sq gdl gdh gdw gdi gde gdc gdt gdg gdu gdn gdx pl plw pld plc pls plm plf plo plb pla plkf plF plko plO plkb plB plka plA ksq S2_12 at9 (by omega) (by omega) hR_plf hR_plo) (cwV 1 hts g_X6_way_X6_stepOn rfl rfl rfl (by decide +kernel) ⟨Nat.le_of_ble_eq_true rfl, Nat.le_of_ble_eq_true rfl⟩) ⟨fun a U g mk q => by obtain ⟨q0, q1, qP, qK, qD⟩ := q; exact ⟨q0, q1, qP, va_K.moved (u := U) (U := U.calling g mk a) (Vm.Alike.refl U.vm) qK, qD⟩, va_recv hKc hPc (ci := 6) (q0 := 0) rfl rfl, fun U hU hW => ⟨rfl, by rw [hU], by rw [hU]; exact hPc, va_K.moved hW.alike hKc, hDc.weaken (fun _ _ _ _ => trivial)⟩⟩ rfl rfl hl.1 rfl (lv_room (Nat.le_of_ble_eq_true rfl)) dX6_way_72 ⟨Nat.le_of_ble_eq_true rfl, Nat.le_of_ble_eq_true rfl⟩) hS (fun q _ h => hFc q h) hFc (fun r_17 u t H1 locs ht hvm hw_18 hB hz1 hk1 hS => ?_)
            obtain ⟨hP1, hK1, hD1⟩ := hB
            have hP1 : va_P (dC, dI) vwCl [(h0, .inr (6, [.ref tp, .int ts, .int fn, .int fp, .ref rd, .ref gd, .ref im, .ref rw, .ref gn, .ref ho, .ref sq])), (gd, .inr (0, [.ref pl, .int gdl, .long gdh, .long gdw, .int gdi, .int gde, .int gdc, .ref gdt, .int gdg, .ref gdu, .int gdn, .ref gdx])), (pl, .inr (3, [.int plw, .int pld, .int plc, .int pls, .long plm, .ref plf, .ref plo, .ref plb, .ref pla])), (plf, .inl (plkf, 40, .inl plF)), (plo, .inl (plko, 40, .inl plO)), (plb, .inl (plkb, 40, .inr (.inl plB))), (pla, .inl (plka, 100, .inl plA)), (sq, .inl (ksq, 25, .inl S2_12))] t.heap := hP1
            rw [ht] at hP1
            try dsimp only at hw_18
            obtain ⟨hP, hD⟩ := va_join (wr := []) (w1 := [(h0, .inr (6, [.ref tp, .int ts, .int fn, .int fp, .ref rd, .ref gd, .ref im, .ref rw, .ref gn, .ref ho, .ref sq])), (gd, .inr (0, [.ref pl, .int gdl, .long gdh, .long gdw, .int gdi, .int gde, .int gdc, .ref gdt, .int gdg, .ref gdu, .int gdn, .ref gdx])), (pl, .inr (3, [.int plw, .int pld, .int plc, .int pls, .long plm, .ref plf, .ref plo, .ref plb, .ref pla])), (plf, .inl (plkf, 40, .inl plF)), (plo, .inl (plko, 40, .inl plO)), (plb, .inl (plkb, 40, .inr (.inl plB))), (pla, .inl (plka, 100, .inl plA)), (sq, .inl (ksq, 25, .inl S2_12))]) hP hD [4, 5, 6, 0, 1, 2, 3, 7] [] rfl rfl (by decide) (by decide) hk1 hFc hP1 hD1
            generalize H1 = H at hP hS ⊢
            have hP : va_P (dC, dI) vwCl [(h0, .inr (6, [.ref tp, .int ts, .int fn, .int fp, .ref rd, .ref gd, .ref im, .ref rw, .ref gn, .ref ho, .ref sq])), (gd, .inr (0, [.ref pl, .int gdl, .long gdh, .long gdw, .int gdi, .int gde, .int gdc, .ref gdt, .int gdg, .ref gdu, .int gdn, .ref gdx])), (pl, .inr (3, [.int plw, .int pld, .int plc, .int pls, .long plm, .ref plf, .ref plo, .ref plb, .ref pla])), (plf, .inl (plkf, 40, .inl plF)), (plo, .inl (plko, 40, .inl plO)), (plb, .inl (plkb, 40, .inr (.inl plB))), (pla, .inl (plka, 100, .inl plA)), (sq, .inl (ksq, 25, .inl S2_12))] H := hP
            have hD : va_D A [(h0, .inr (6, [.ref tp, .int ts, .int fn, .int fp, .ref rd, .ref gd, .ref im, .ref rw, .ref gn, .ref ho, .ref sq])), (gd, .inr (0, [.ref pl, .int gdl, .long gdh, .long gdw, .int gdi, .int gde, .int gdc, .ref gdt, .int gdg, .ref gdu, .int gdn, .ref gdx])), (pl, .inr (3, [.int plw, .int pld, .int plc, .int pls, .long plm, .ref plf, .ref plo, .ref plb, .ref pla])), (plf, .inl (plkf, 40, .inl plF)), (plo, .inl (plko, 40, .inl plO)), (plb, .inl (plkb, 40, .inr (.inl plB))), (pla, .inl (plka, 100, .inl plA)), (sq, .inl (ksq, 25, .inl S2_12))] := hD
            refine lv_istore (lv' := [(4, .int r_17), (5, .int k1), (0, .ref h0), (1, .int p0), (2, .int p1), (3, .int p2)]) hx hb dX6_way_75 hl (by decide) rfl (fun ls hl => ?_)
            obtain ⟨x_19, ex_19⟩ : ∃ y9 : Int32, y9 = k1 + Int32.ofInt 1 := ⟨_, rfl⟩
            have zx_19 : x_19.toInt = k1.toInt + 1 := by rw [ex_19]; exact i_add rfl (show (Int32.ofInt 1).toInt = 1 by decide) (by omega) (by omega)
            refine lv_iinc (v := x_19) (lv' := [(5, .int x_19), (4, .int r_17), (0, .ref h0), (1, .int p0), (2, .int p1), (3, .int p2)]) hx hb dX6_way_77 hl (k := 1) rfl (by rw [ex_19]) (by decide) rfl (fun ls hl => ?_)
            refine lv_goto (tgt := 63) hx hb dX6_way_80 (by decide) ?_
            exact ih63 (x_19, r_17) _ _ _ ⟨(by (try dsimp only); omega), (by (try dsimp only); omega), hP.sub [3, 4, 5, 6, 0, 1, 2, 7] rfl, hD.sub [3, 4, 5, 6, 0, 1, 2, 7] (by decide) rfl, hS, lv_sub hl [0, 1, 2, 3, 4, 5] rfl⟩ (by (try dsimp only); omega)
        · have c_15 : v_14.toInt < p2.toInt := i_nle (a := p2) (b := v_14) rfl rfl c_15
          refine lv_iconst (v := -1) hx hb dX6_way_55 (by decide) ?_
          have hP9 := hP.sub (ws' := [(h0, .inr (6, [.ref tp, .int ts, .int fn, .int fp, .ref rd, .ref gd, .ref im, .ref rw, .ref gn, .ref ho, .ref sq])), (gd, .inr (0, [.ref pl, .int gdl, .long gdh, .long gdw, .int gdi, .int gde, .int gdc, .ref gdt, .int gdg, .ref gdu, .int gdn, .ref gdx])), (pl, .inr (3, [.int plw, .int pld, .int plc, .int pls, .long plm, .ref plf, .ref plo, .ref plb, .ref pla])), (plf, .inl (plkf, 40, .inl plF)), (plo, .inl (plko, 40, .inl plO)), (plb, .inl (plkb, 40, .inr (.inl plB))), (pla, .inl (plka, 100, .inl plA)), (sq, .inl (ksq, 25, .inl S2_12))]) [4, 5, 6, 0, 1, 2, 3, 7] rfl
          have hD9 := hD.sub (ws' := [(h0, .inr (6, [.ref tp, .int ts, .int fn, .int fp, .ref rd, .ref gd, .ref im, .ref rw, .ref gn, .ref ho, .ref sq])), (gd, .inr (0, [.ref pl, .int gdl, .long gdh, .long gdw, .int gdi, .int gde, .int gdc, .ref gdt, .int gdg, .ref gdu, .int gdn, .ref gdx])), (pl, .inr (3, [.int plw, .int pld, .int plc, .int pls, .long plm, .ref plf, .ref plo, .ref plb, .ref pla])), (plf, .inl (plkf, 40, .inl plF)), (plo, .inl (plko, 40, .inl plO)), (plb, .inl (plkb, 40, .inr (.inl plB))), (pla, .inl (plka, 100, .inl plA)), (sq, .inl (ksq, 25, .inl S2_12))]) [4, 5, 6, 0, 1, 2, 3, 7] (by decide) rfl
          have hK9 := hK.sub (tys' := []) [] rfl
          refine W.widen (k := 0) (n := 0) (by omega) (by omega) ?_
          exact W.iret (v := -1) hx hb hr (fun t ht hW => ⟨⟨(-1), (S2_12), rfl, trivial, by rw [ht]; exact hP9, va_K.moved hW.alike hK9, hD9⟩, hS.F ht⟩) hS.2.2 dX6_way_56
    · obtain rfl : r_5 = 0 := r_59
      have hC_20 := hC
      refine lv_if_ne (tgt := 19) hx hb dX6_way_13 (by decide) (fun h => absurd (by decide) h) (fun _ => ?_)
      refine lv_bipush (v := -2) hx hb dX6_way_16 (by decide) ?_
      have hP9 := hP.sub (ws' := [(h0, .inr (6, [.ref tp, .int ts, .int fn, .int fp, .ref rd, .ref gd, .ref im, .ref rw, .ref gn, .ref ho, .ref sq])), (gd, .inr (0, [.ref pl, .int gdl, .long gdh, .long gdw, .int gdi, .int gde, .int gdc, .ref gdt, .int gdg, .ref gdu, .int gdn, .ref gdx])), (pl, .inr (3, [.int plw, .int pld, .int plc, .int pls, .long plm, .ref plf, .ref plo, .ref plb, .ref pla])), (plf, .inl (plkf, 40, .inl plF)), (plo, .inl (plko, 40, .inl plO)), (plb, .inl (plkb, 40, .inr (.inl plB))), (pla, .inl (plka, 100, .inl plA)), (sq, .inl (ksq, 25, .inl sS))]) [5, 6, 7, 0, 1, 2, 3, 4] rfl
      have hD9 := hD.sub (ws' := [(h0, .inr (6, [.ref tp, .int ts, .int fn, .int fp, .ref rd, .ref gd, .ref im, .ref rw, .ref gn, .ref ho, .ref sq])), (gd, .inr (0, [.ref pl, .int gdl, .long gdh, .long gdw, .int gdi, .int gde, .int gdc, .ref gdt, .int gdg, .ref gdu, .int gdn, .ref gdx])), (pl, .inr (3, [.int plw, .int pld, .int plc, .int pls, .long plm, .ref plf, .ref plo, .ref plb, .ref pla])), (plf, .inl (plkf, 40, .inl plF)), (plo, .inl (plko, 40, .inl plO)), (plb, .inl (plkb, 40, .inr (.inl plB))), (pla, .inl (plka, 100, .inl plA)), (sq, .inl (ksq, 25, .inl sS))]) [5, 6, 7, 0, 1, 2, 3, 4] (by decide) rfl
      have hK9 := hK.sub (tys' := []) [] rfl
      refine W.widen (k := 0) (n := 0) (by omega) (by omega) ?_
      exact W.iret (v := -2) hx hb hr (fun t ht hW => ⟨⟨(-2), (sS), rfl, trivial, by rw [ht]; exact hP9, va_K.moved hW.alike hK9, hD9⟩, hS.F ht⟩) hS.2.2 dX6_way_18
  · obtain rfl : r_1 = 0 := r_19
    have hC_22 := hC
    refine lv_if_eq (tgt := 16) hx hb dX6_way_5 (by decide) (fun _ => ?_) (fun h => absurd (by decide) h)
    refine lv_bipush (v := -2) hx hb dX6_way_16 (by decide) ?_
    have hP9 := hP.sub (ws' := [(h0, .inr (6, [.ref tp, .int ts, .int fn, .int fp, .ref rd, .ref gd, .ref im, .ref rw, .ref gn, .ref ho, .ref sq])), (gd, .inr (0, [.ref pl, .int gdl, .long gdh, .long gdw, .int gdi, .int gde, .int gdc, .ref gdt, .int gdg, .ref gdu, .int gdn, .ref gdx])), (pl, .inr (3, [.int plw, .int pld, .int plc, .int pls, .long plm, .ref plf, .ref plo, .ref plb, .ref pla])), (plf, .inl (plkf, 40, .inl plF)), (plo, .inl (plko, 40, .inl plO)), (plb, .inl (plkb, 40, .inr (.inl plB))), (pla, .inl (plka, 100, .inl plA)), (sq, .inl (ksq, 25, .inl sS))]) [5, 6, 7, 0, 1, 2, 3, 4] rfl
    have hD9 := hD.sub (ws' := [(h0, .inr (6, [.ref tp, .int ts, .int fn, .int fp, .ref rd, .ref gd, .ref im, .ref rw, .ref gn, .ref ho, .ref sq])), (gd, .inr (0, [.ref pl, .int gdl, .long gdh, .long gdw, .int gdi, .int gde, .int gdc, .ref gdt, .int gdg, .ref gdu, .int gdn, .ref gdx])), (pl, .inr (3, [.int plw, .int pld, .int plc, .int pls, .long plm, .ref plf, .ref plo, .ref plb, .ref pla])), (plf, .inl (plkf, 40, .inl plF)), (plo, .inl (plko, 40, .inl plO)), (plb, .inl (plkb, 40, .inr (.inl plB))), (pla, .inl (plka, 100, .inl plA)), (sq, .inl (ksq, 25, .inl sS))]) [5, 6, 7, 0, 1, 2, 3, 4] (by decide) rfl
    have hK9 := hK.sub (tys' := []) [] rfl
    refine W.widen (k := 0) (n := 0) (by omega) (by omega) ?_
    exact W.iret (v := -2) hx hb hr (fun t ht hW => ⟨⟨(-2), (sS), rfl, trivial, by rw [ht]; exact hP9, va_K.moved hW.alike hK9, hD9⟩, hS.F ht⟩) hS.2.2 dX6_way_18

