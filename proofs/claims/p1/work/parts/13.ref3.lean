theorem dX7_guest_0 : decode cX7_guest 0 = .ok (.aload_n 0, 1) := by decide +kernel
theorem dX7_guest_1 : decode cX7_guest 1 = .ok (.iconst 0, 1) := by decide +kernel
theorem dX7_guest_2 : decode cX7_guest 2 = .ok (.putfield 80, 3) := by decide +kernel
theorem dX7_guest_5 : decode cX7_guest 5 = .ok (.iload_n 1, 1) := by decide +kernel
theorem dX7_guest_6 : decode cX7_guest 6 = .ok (.i2l, 1) := by decide +kernel
theorem dX7_guest_7 : decode cX7_guest 7 = .ok (.lconst 0, 1) := by decide +kernel
theorem dX7_guest_8 : decode cX7_guest 8 = .ok (.aload_n 0, 1) := by decide +kernel
theorem dX7_guest_9 : decode cX7_guest 9 = .ok (.getfield 34, 3) := by decide +kernel
theorem dX7_guest_12 : decode cX7_guest 12 = .ok (.iconst 5, 1) := by decide +kernel
theorem dX7_guest_13 : decode cX7_guest 13 = .ok (.iaload, 1) := by decide +kernel
theorem dX7_guest_14 : decode cX7_guest 14 = .ok (.iconst 1, 1) := by decide +kernel
theorem dX7_guest_15 : decode cX7_guest 15 = .ok (.isub, 1) := by decide +kernel
theorem dX7_guest_16 : decode cX7_guest 16 = .ok (.i2l, 1) := by decide +kernel
theorem dX7_guest_17 : decode cX7_guest 17 = .ok (.invokestatic 85, 3) := by decide +kernel
theorem dX7_guest_20 : decode cX7_guest 20 = .ok (.ifCond .eq 12, 3) := by decide +kernel
theorem dX7_guest_32 : decode cX7_guest 32 = .ok (.iconst (-1), 1) := by decide +kernel
theorem dX7_guest_33 : decode cX7_guest 33 = .ok (.ireturn, 1) := by decide +kernel
def wz_X7_guest : List Cond := .code yX7_guest cX7_guest 2 (some .int) :: ([Cond.fieldLink RX7 80 "HedgeMazeModel" "thrown" "I", Cond.fieldLink RX7 34 "HedgeMazeModel" "has" "[I", Cond.methodLink RX7 85 yX7_in, Cond.static yX7_in, Cond.initialized RX7, Cond.code yX7_in cX7_in 6 (some .boolean)] ++ wsX70)
theorem wd_X7_guest_0 : Cond.fieldLink RX7 80 "HedgeMazeModel" "thrown" "I" ∈ wz_X7_guest := List.mem_of_getElem? (i := 1) rfl
theorem wd_X7_guest_1 : Cond.fieldLink RX7 34 "HedgeMazeModel" "has" "[I" ∈ wz_X7_guest := List.mem_of_getElem? (i := 2) rfl
theorem in_X7_guest_X7 : ∀ w ∈ wsX70, w ∈ wz_X7_guest := fun _ h => List.mem_cons_of_mem _ (List.mem_append_right _ h)
set_option maxRecDepth 20000 in
theorem g_X7_guest_X7_in : GoodIn wz_X7_guest (va_wsS RX7 85 yX7_in wz_X7_in) := goodIn_r _ [3, 4, 5, 6] rfl (by decide +kernel)
set_option maxHeartbeats 4000000 in
set_option maxRecDepth 100000 in
theorem c_X7_guest (l : Launch) (dC : Nat → ClassId) (dI : Nat → Nat → Nat) (sz : Nat) (h0 : Nat) (m_width : Nat) (m_many : Nat) (m_cells : Nat) (m_moved : Nat) (m_tape : Nat) (m_lines : Nat) (m_has : Nat) (m_state : Nat) (m_gate : Nat) (m_guest : Nat) (m_gone : Nat) (m_isKept : Nat) (m_first : Nat) (m_second : Nat) (m_far : Nat) (m_wished : Nat) (m_wasState : Nat) (m_isHere : Nat) (m_round : Nat) (m_bestRound : Nat) (m_taken : Nat) (k_lines : ClassId) (k_has : ClassId) (p0 : Int32)  : Met l yX7_guest wz_X7_guest ({ frames := 1, cells := 0, slots := 0, locals := 25 }) (va_Pc [.ref h0, .int p0] (fun U => U.heap.size = sz ∧ va_P (dC, dI) vwCl [(h0, .inr (7, [.int 0, .ref m_width, .ref m_many, .ref m_cells, .ref m_moved, .ref m_tape, .int 0, .int 0, .int 0, .int 0, .int 0, .long 0, .int 0, .int 0, .int 0, .int (-1), .ref m_lines, .ref m_has, .ref m_state, .ref m_gate, .ref m_guest, .ref m_gone, .int 0, .ref m_isKept, .ref m_first, .ref m_second, .int 0, .ref m_far, .ref m_wished, .ref m_wasState, .ref m_isHere, .ref m_round, .ref m_bestRound, .int 0, .int 0, .long 0, .long 0, .ref m_taken, .int 0])), (m_lines, .inl (k_lines, 5, .inl (fun _ => 0))), (m_has, .inl (k_has, 45, .inl (fun _ => 0)))] U.heap ∧ va_K (dC, dI) vwCl [(k_lines, .int), (k_has, .int)] U ∧ va_D (fun _ => True) [(h0, .inr (7, [.int 0, .ref m_width, .ref m_many, .ref m_cells, .ref m_moved, .ref m_tape, .int 0, .int 0, .int 0, .int 0, .int 0, .long 0, .int 0, .int 0, .int 0, .int (-1), .ref m_lines, .ref m_has, .ref m_state, .ref m_gate, .ref m_guest, .ref m_gone, .int 0, .ref m_isKept, .ref m_first, .ref m_second, .int 0, .ref m_far, .ref m_wished, .ref m_wasState, .ref m_isHere, .ref m_round, .ref m_bestRound, .int 0, .int 0, .long 0, .long 0, .ref m_taken, .int 0])), (m_lines, .inl (k_lines, 5, .inl (fun _ => 0))), (m_has, .inl (k_has, 45, .inl (fun _ => 0)))])) (va_Qi (fun (r : Int32) (u : Unit) => r = -1) (fun (_ : Unit) (_ : State) => True) (va_A [(h0, .inr (7, [.int 0, .ref m_width, .ref m_many, .ref m_cells, .ref m_moved, .ref m_tape, .int 0, .int 0, .int 0, .int 0, .int 0, .long 0, .int 0, .int 0, .int 0, .int (-1), .ref m_lines, .ref m_has, .ref m_state, .ref m_gate, .ref m_guest, .ref m_gone, .int 0, .ref m_isKept, .ref m_first, .ref m_second, .int 0, .ref m_far, .ref m_wished, .ref m_wasState, .ref m_isHere, .ref m_round, .ref m_bestRound, .int 0, .int 0, .long 0, .long 0, .ref m_taken, .int 0])), (m_lines, .inl (k_lines, 5, .inl (fun _ => 0))), (m_has, .inl (k_has, 45, .inl (fun _ => 0)))] sz)) 0 0 (va_A [(h0, .inr (7, [.int 0, .ref m_width, .ref m_many, .ref m_cells, .ref m_moved, .ref m_tape, .int 0, .int 0, .int 0, .int 0, .int 0, .long 0, .int 0, .int 0, .int 0, .int (-1), .ref m_lines, .ref m_has, .ref m_state, .ref m_gate, .ref m_guest, .ref m_gone, .int 0, .ref m_isKept, .ref m_first, .ref m_second, .int 0, .ref m_far, .ref m_wished, .ref m_wasState, .ref m_isHere, .ref m_round, .ref m_bestRound, .int 0, .int 0, .long 0, .long 0, .ref m_taken, .int 0])), (m_lines, .inl (k_lines, 5, .inl (fun _ => 0))), (m_has, .inl (k_has, 45, .inl (fun _ => 0)))] sz) := by
  refine Met.ofW (cc := cX7_guest) (maxL := 2) (ret := (some .int)) (by decide) rfl ?_
  intro p e s m args below meth c s₁ B hml hv
  obtain ⟨rfl, hsz, hP, hK, hD0⟩ := hv
  have hx := B.exec
  have hb := B.bytes
  have hr := B.returns
  have hts := atoms_spec (ws := wz_X7_guest) B.pre
  have hown : s.vm.findClass RX7 = some m.cls := findClass_of_methodNamed B.named
  have hlocks := B.notSynchronized
  subst hsz
  have hD := hD0.self (sz := s.heap.size)
  generalize hAe : va_A [(h0, .inr (7, [.int 0, .ref m_width, .ref m_many, .ref m_cells, .ref m_moved, .ref m_tape, .int 0, .int 0, .int 0, .int 0, .int 0, .long 0, .int 0, .int 0, .int 0, .int (-1), .ref m_lines, .ref m_has, .ref m_state, .ref m_gate, .ref m_guest, .ref m_gone, .int 0, .ref m_isKept, .ref m_first, .ref m_second, .int 0, .ref m_far, .ref m_wished, .ref m_wasState, .ref m_isHere, .ref m_round, .ref m_bestRound, .int 0, .int 0, .long 0, .long 0, .ref m_taken, .int 0])), (m_lines, .inl (k_lines, 5, .inl (fun _ => 0))), (m_has, .inl (k_has, 45, .inl (fun _ => 0)))] s.heap.size = A at hD ⊢
  have hA : ∀ q : Nat, s.heap.size ≤ q → A q := fun q h => by rw [← hAe]; exact Or.inr h
  have hS : va_S A s.heap s.heap [] := va_S.rf
  have hP : va_P (dC, dI) vwCl [(h0, .inr (7, [.int 0, .ref m_width, .ref m_many, .ref m_cells, .ref m_moved, .ref m_tape, .int 0, .int 0, .int 0, .int 0, .int 0, .long 0, .int 0, .int 0, .int 0, .int (-1), .ref m_lines, .ref m_has, .ref m_state, .ref m_gate, .ref m_guest, .ref m_gone, .int 0, .ref m_isKept, .ref m_first, .ref m_second, .int 0, .ref m_far, .ref m_wished, .ref m_wasState, .ref m_isHere, .ref m_round, .ref m_bestRound, .int 0, .int 0, .long 0, .long 0, .ref m_taken, .int 0])), (m_lines, .inl (k_lines, 5, .inl (fun _ => 0))), (m_has, .inl (k_has, 45, .inl (fun _ => 0)))] s.heap := hP
  have hl := lv_entry ([.ref h0, .int p0]) (n := 2) (Nat.le_of_ble_eq_true rfl)
  rw [lg_entry_eq]
  generalize (lg_sl ([.ref h0, .int p0]) ++ List.replicate (2 - (lg_sl ([.ref h0, .int p0])).length) Slot.unset).toArray = ls at hl ⊢
  have hl : lv_has ls 2 [(0, .ref h0), (1, .int p0)] := hl
  refine lv_aload_n hx hb dX7_guest_0 rfl (lv_at hl 0 rfl) ?_
  refine lv_iconst (v := 0) hx hb dX7_guest_1 (by decide) ?_
  refine va_put (D := (dC, dI)) (ci := 7) (v := .int 0) (ty := .int) (C := RX7) (T := TX7) (N := 39) hx hb hts in_X7_guest_X7 tyX7 tyX7_ok nmX7 hown hK hP hD hS 0 rfl rfl 0 (by decide) (hts _ wd_X7_guest_0) (fun _ h9 => h9) rfl (by decide +kernel) rfl rfl (Nat.le_of_ble_eq_true rfl) dX7_guest_2 (fun H locs hP hD hS => ?_)
  have hP : va_P (dC, dI) vwCl [(h0, .inr (7, [.int 0, .ref m_width, .ref m_many, .ref m_cells, .ref m_moved, .ref m_tape, .int 0, .int 0, .int 0, .int 0, .int 0, .long 0, .int 0, .int 0, .int 0, .int (-1), .ref m_lines, .ref m_has, .ref m_state, .ref m_gate, .ref m_guest, .ref m_gone, .int 0, .ref m_isKept, .ref m_first, .ref m_second, .int 0, .ref m_far, .ref m_wished, .ref m_wasState, .ref m_isHere, .ref m_round, .ref m_bestRound, .int 0, .int 0, .long 0, .long 0, .ref m_taken, .int 0])), (m_lines, .inl (k_lines, 5, .inl (fun _ => 0))), (m_has, .inl (k_has, 45, .inl (fun _ => 0)))] H := hP
  have hD : va_D A [(h0, .inr (7, [.int 0, .ref m_width, .ref m_many, .ref m_cells, .ref m_moved, .ref m_tape, .int 0, .int 0, .int 0, .int 0, .int 0, .long 0, .int 0, .int 0, .int 0, .int (-1), .ref m_lines, .ref m_has, .ref m_state, .ref m_gate, .ref m_guest, .ref m_gone, .int 0, .ref m_isKept, .ref m_first, .ref m_second, .int 0, .ref m_far, .ref m_wished, .ref m_wasState, .ref m_isHere, .ref m_round, .ref m_bestRound, .int 0, .int 0, .long 0, .long 0, .ref m_taken, .int 0])), (m_lines, .inl (k_lines, 5, .inl (fun _ => 0))), (m_has, .inl (k_has, 45, .inl (fun _ => 0)))] := hD
  refine lv_iload_n hx hb dX7_guest_5 rfl (lv_at hl 1 rfl) ?_
  refine lv_i2l (v := p0.toInt64) hx hb dX7_guest_6 rfl ?_
  refine lv_lconst (v := 0) hx hb dX7_guest_7 (by decide) ?_
  refine lv_aload_n hx hb dX7_guest_8 rfl (lv_at hl 0 rfl) ?_
  refine va_get (D := (dC, dI)) (ci := 7) (v := .ref m_has) (C := RX7) (T := TX7) (N := 39) hx hb hts in_X7_guest_X7 hown hK hP 0 rfl rfl 17 (by decide) (hts _ wd_X7_guest_1) (fun _ h9 => h9) rfl dX7_guest_9 ?_
  refine lv_iconst (v := 5) hx hb dX7_guest_12 (by decide) ?_
  refine va_iald hx hb hK hP 2 1 rfl rfl (vp_in_iff.mpr ⟨by decide, by decide⟩) dX7_guest_13 ?_
  refine lv_topi (fun z_1 ez_1 => ?_)
  obtain rfl : z_1 = 0 := ez_1
  refine lv_iconst (v := 1) hx hb dX7_guest_14 (by decide) ?_
  refine lv_isub hx hb dX7_guest_15 ?_
  refine lv_topi (fun z_2 ez_2 => ?_)
  obtain rfl : z_2 = -1 := ez_2.trans (by decide)
  refine lv_i2l (v := -1) hx hb dX7_guest_16 (by decide) ?_
  have hPc := hP.sub (ws' := []) [] rfl
  have hDc := hD.sub (ws' := []) [] (by decide) rfl
  have hKc := hK.sub (tys' := []) [] rfl
  have hFc := va_free (wc := []) hD hS hA [] rfl
  refine va_calli (va_runS (As := [.long p0.toInt64, .long 0, .long (-1)]) (rest := []) ⟨hx, hb, hml, hown, hts⟩ (c_X7_in l dC dI H.size p0.toInt64 ((0 : Int64)) ((-1 : Int64)) p0.toInt ((0 : Int)) ((-1)) ((i_wide rfl)) ((by decide)) ((by decide))) (va_cwS 3 hts g_X7_guest_X7_in rfl rfl rfl (by decide +kernel) ⟨Nat.le_of_ble_eq_true rfl, Nat.le_of_ble_eq_true rfl⟩) ⟨fun a U g mk q => by obtain ⟨q0, q1, qP, qK, qD⟩ := q; exact ⟨q0, q1, qP, va_K.moved (u := U) (U := U.calling g mk a) (Vm.Alike.refl U.vm) qK, qD⟩, fun U hU hW => ⟨rfl, by rw [hU], by rw [hU]; exact hPc, va_K.moved hW.alike hKc, hDc.weaken (fun _ _ _ _ => trivial)⟩⟩ rfl rfl hl.1 rfl (lv_room (Nat.le_of_ble_eq_true rfl)) dX7_guest_17 ⟨Nat.le_of_ble_eq_true rfl, Nat.le_of_ble_eq_true rfl⟩) hS (fun q _ h => hFc q h) hFc (fun r_3 u t H1 locs ht hvm hw_4 hB hz1 hk1 hS => ?_)
  have hP1 : va_P (dC, dI) vwCl [] H1 := i_nilP
  have hD1 : va_D (va_A [] H.size) [] := i_nilD
  try dsimp only at hw_4
  obtain ⟨hP, hD⟩ := va_join (wr := [(h0, .inr (7, [.int 0, .ref m_width, .ref m_many, .ref m_cells, .ref m_moved, .ref m_tape, .int 0, .int 0, .int 0, .int 0, .int 0, .long 0, .int 0, .int 0, .int 0, .int (-1), .ref m_lines, .ref m_has, .ref m_state, .ref m_gate, .ref m_guest, .ref m_gone, .int 0, .ref m_isKept, .ref m_first, .ref m_second, .int 0, .ref m_far, .ref m_wished, .ref m_wasState, .ref m_isHere, .ref m_round, .ref m_bestRound, .int 0, .int 0, .long 0, .long 0, .ref m_taken, .int 0])), (m_lines, .inl (k_lines, 5, .inl (fun _ => 0))), (m_has, .inl (k_has, 45, .inl (fun _ => 0)))]) (w1 := []) hP hD [] [0, 1, 2] rfl rfl (by decide) (by decide) hk1 hFc hP1 hD1
  generalize H1 = H at hP hS ⊢
  have hP : va_P (dC, dI) vwCl [(h0, .inr (7, [.int 0, .ref m_width, .ref m_many, .ref m_cells, .ref m_moved, .ref m_tape, .int 0, .int 0, .int 0, .int 0, .int 0, .long 0, .int 0, .int 0, .int 0, .int (-1), .ref m_lines, .ref m_has, .ref m_state, .ref m_gate, .ref m_guest, .ref m_gone, .int 0, .ref m_isKept, .ref m_first, .ref m_second, .int 0, .ref m_far, .ref m_wished, .ref m_wasState, .ref m_isHere, .ref m_round, .ref m_bestRound, .int 0, .int 0, .long 0, .long 0, .ref m_taken, .int 0])), (m_lines, .inl (k_lines, 5, .inl (fun _ => 0))), (m_has, .inl (k_has, 45, .inl (fun _ => 0)))] H := hP
  have hD : va_D A [(h0, .inr (7, [.int 0, .ref m_width, .ref m_many, .ref m_cells, .ref m_moved, .ref m_tape, .int 0, .int 0, .int 0, .int 0, .int 0, .long 0, .int 0, .int 0, .int 0, .int (-1), .ref m_lines, .ref m_has, .ref m_state, .ref m_gate, .ref m_guest, .ref m_gone, .int 0, .ref m_isKept, .ref m_first, .ref m_second, .int 0, .ref m_far, .ref m_wished, .ref m_wasState, .ref m_isHere, .ref m_round, .ref m_bestRound, .int 0, .int 0, .long 0, .long 0, .ref m_taken, .int 0])), (m_lines, .inl (k_lines, 5, .inl (fun _ => 0))), (m_has, .inl (k_has, 45, .inl (fun _ => 0)))] := hD
  rcases i_bool hw_4 with ⟨r_39, hC⟩ | ⟨r_39, hC⟩
  · obtain rfl : r_3 = 1 := r_39
    have hC_5 := hC
    exfalso; omega
  · obtain rfl : r_3 = 0 := r_39
    have hC_6 := hC
    refine lv_if_eq (tgt := 32) hx hb dX7_guest_20 (by decide) (fun _ => ?_) (fun h => absurd (by decide) h)
    refine lv_iconst (v := -1) hx hb dX7_guest_32 (by decide) ?_
    refine W.widen (k := 0) (n := 0) (by omega) (by omega) ?_
    exact W.iret (v := -1) hx hb hr (fun t ht hW => ⟨⟨(-1), (), rfl, (by first | rfl | ((repeat' split) <;> (first | rfl | (exfalso; omega)))), trivial⟩, hS.F ht⟩) hS.2.2 dX7_guest_33

theorem dX7_end_0 : decode cX7_end 0 = .ok (.aload_n 0, 1) := by decide +kernel
theorem dX7_end_1 : decode cX7_end 1 = .ok (.iconst 0, 1) := by decide +kernel
theorem dX7_end_2 : decode cX7_end 2 = .ok (.putfield 80, 3) := by decide +kernel
theorem dX7_end_5 : decode cX7_end 5 = .ok (.iload_n 1, 1) := by decide +kernel
theorem dX7_end_6 : decode cX7_end 6 = .ok (.i2l, 1) := by decide +kernel
theorem dX7_end_7 : decode cX7_end 7 = .ok (.lconst 0, 1) := by decide +kernel
theorem dX7_end_8 : decode cX7_end 8 = .ok (.aload_n 0, 1) := by decide +kernel
theorem dX7_end_9 : decode cX7_end 9 = .ok (.getfield 97, 3) := by decide +kernel
theorem dX7_end_12 : decode cX7_end 12 = .ok (.i2l, 1) := by decide +kernel
theorem dX7_end_13 : decode cX7_end 13 = .ok (.invokestatic 85, 3) := by decide +kernel
theorem dX7_end_16 : decode cX7_end 16 = .ok (.ifCond .ne 5, 3) := by decide +kernel
theorem dX7_end_19 : decode cX7_end 19 = .ok (.iconst (-1), 1) := by decide +kernel
theorem dX7_end_20 : decode cX7_end 20 = .ok (.ireturn, 1) := by decide +kernel
theorem dX7_end_21 : decode cX7_end 21 = .ok (.aload_n 0, 1) := by decide +kernel
theorem dX7_end_22 : decode cX7_end 22 = .ok (.iload_n 1, 1) := by decide +kernel
theorem dX7_end_23 : decode cX7_end 23 = .ok (.putfield 97, 3) := by decide +kernel
theorem dX7_end_26 : decode cX7_end 26 = .ok (.iload_n 1, 1) := by decide +kernel
theorem dX7_end_27 : decode cX7_end 27 = .ok (.ireturn, 1) := by decide +kernel
def wz_X7_end : List Cond := .code yX7_end cX7_end 2 (some .int) :: ([Cond.fieldLink RX7 80 "HedgeMazeModel" "thrown" "I", Cond.fieldLink RX7 97 "HedgeMazeModel" "taped" "I", Cond.methodLink RX7 85 yX7_in, Cond.static yX7_in, Cond.initialized RX7, Cond.code yX7_in cX7_in 6 (some .boolean)] ++ wsX70)
theorem wd_X7_end_0 : Cond.fieldLink RX7 80 "HedgeMazeModel" "thrown" "I" ∈ wz_X7_end := List.mem_of_getElem? (i := 1) rfl
theorem wd_X7_end_1 : Cond.fieldLink RX7 97 "HedgeMazeModel" "taped" "I" ∈ wz_X7_end := List.mem_of_getElem? (i := 2) rfl
theorem in_X7_end_X7 : ∀ w ∈ wsX70, w ∈ wz_X7_end := fun _ h => List.mem_cons_of_mem _ (List.mem_append_right _ h)
set_option maxRecDepth 20000 in
theorem g_X7_end_X7_in : GoodIn wz_X7_end (va_wsS RX7 85 yX7_in wz_X7_in) := goodIn_r _ [3, 4, 5, 6] rfl (by decide +kernel)
set_option maxHeartbeats 4000000 in
set_option maxRecDepth 100000 in
theorem c_X7_end (l : Launch) (dC : Nat → ClassId) (dI : Nat → Nat → Nat) (sz : Nat) (h0 : Nat) (m_width : Nat) (m_many : Nat) (m_cells : Nat) (m_moved : Nat) (m_tape : Nat) (m_lines : Nat) (m_has : Nat) (m_state : Nat) (m_gate : Nat) (m_guest : Nat) (m_gone : Nat) (m_isKept : Nat) (m_first : Nat) (m_second : Nat) (m_far : Nat) (m_wished : Nat) (m_wasState : Nat) (m_isHere : Nat) (m_round : Nat) (m_bestRound : Nat) (m_taken : Nat) (p0 : Int32)  : Met l yX7_end wz_X7_end ({ frames := 1, cells := 0, slots := 0, locals := 25 }) (va_Pc [.ref h0, .int p0] (fun U => U.heap.size = sz ∧ va_P (dC, dI) vwCl [(h0, .inr (7, [.int 0, .ref m_width, .ref m_many, .ref m_cells, .ref m_moved, .ref m_tape, .int 0, .int 0, .int 0, .int 0, .int 0, .long 0, .int 0, .int 0, .int 0, .int (-1), .ref m_lines, .ref m_has, .ref m_state, .ref m_gate, .ref m_guest, .ref m_gone, .int 0, .ref m_isKept, .ref m_first, .ref m_second, .int 0, .ref m_far, .ref m_wished, .ref m_wasState, .ref m_isHere, .ref m_round, .ref m_bestRound, .int 0, .int 0, .long 0, .long 0, .ref m_taken, .int 0]))] U.heap ∧ va_K (dC, dI) vwCl [] U ∧ va_D (fun _ => True) [(h0, .inr (7, [.int 0, .ref m_width, .ref m_many, .ref m_cells, .ref m_moved, .ref m_tape, .int 0, .int 0, .int 0, .int 0, .int 0, .long 0, .int 0, .int 0, .int 0, .int (-1), .ref m_lines, .ref m_has, .ref m_state, .ref m_gate, .ref m_guest, .ref m_gone, .int 0, .ref m_isKept, .ref m_first, .ref m_second, .int 0, .ref m_far, .ref m_wished, .ref m_wasState, .ref m_isHere, .ref m_round, .ref m_bestRound, .int 0, .int 0, .long 0, .long 0, .ref m_taken, .int 0]))])) (va_Qi (fun (r : Int32) (u : Unit) => r = if p0.toInt = 0 then 0 else -1) (fun (_ : Unit) (_ : State) => True) (va_A [(h0, .inr (7, [.int 0, .ref m_width, .ref m_many, .ref m_cells, .ref m_moved, .ref m_tape, .int 0, .int 0, .int 0, .int 0, .int 0, .long 0, .int 0, .int 0, .int 0, .int (-1), .ref m_lines, .ref m_has, .ref m_state, .ref m_gate, .ref m_guest, .ref m_gone, .int 0, .ref m_isKept, .ref m_first, .ref m_second, .int 0, .ref m_far, .ref m_wished, .ref m_wasState, .ref m_isHere, .ref m_round, .ref m_bestRound, .int 0, .int 0, .long 0, .long 0, .ref m_taken, .int 0]))] sz)) 0 0 (va_A [(h0, .inr (7, [.int 0, .ref m_width, .ref m_many, .ref m_cells, .ref m_moved, .ref m_tape, .int 0, .int 0, .int 0, .int 0, .int 0, .long 0, .int 0, .int 0, .int 0, .int (-1), .ref m_lines, .ref m_has, .ref m_state, .ref m_gate, .ref m_guest, .ref m_gone, .int 0, .ref m_isKept, .ref m_first, .ref m_second, .int 0, .ref m_far, .ref m_wished, .ref m_wasState, .ref m_isHere, .ref m_round, .ref m_bestRound, .int 0, .int 0, .long 0, .long 0, .ref m_taken, .int 0]))] sz) := by
  refine Met.ofW (cc := cX7_end) (maxL := 2) (ret := (some .int)) (by decide) rfl ?_
  intro p e s m args below meth c s₁ B hml hv
  obtain ⟨rfl, hsz, hP, hK, hD0⟩ := hv
  have hx := B.exec
  have hb := B.bytes
  have hr := B.returns
  have hts := atoms_spec (ws := wz_X7_end) B.pre
  have hown : s.vm.findClass RX7 = some m.cls := findClass_of_methodNamed B.named
  have hlocks := B.notSynchronized
  subst hsz
  have hD := hD0.self (sz := s.heap.size)
  generalize hAe : va_A [(h0, .inr (7, [.int 0, .ref m_width, .ref m_many, .ref m_cells, .ref m_moved, .ref m_tape, .int 0, .int 0, .int 0, .int 0, .int 0, .long 0, .int 0, .int 0, .int 0, .int (-1), .ref m_lines, .ref m_has, .ref m_state, .ref m_gate, .ref m_guest, .ref m_gone, .int 0, .ref m_isKept, .ref m_first, .ref m_second, .int 0, .ref m_far, .ref m_wished, .ref m_wasState, .ref m_isHere, .ref m_round, .ref m_bestRound, .int 0, .int 0, .long 0, .long 0, .ref m_taken, .int 0]))] s.heap.size = A at hD ⊢
  have hA : ∀ q : Nat, s.heap.size ≤ q → A q := fun q h => by rw [← hAe]; exact Or.inr h
  have hS : va_S A s.heap s.heap [] := va_S.rf
  have hP : va_P (dC, dI) vwCl [(h0, .inr (7, [.int 0, .ref m_width, .ref m_many, .ref m_cells, .ref m_moved, .ref m_tape, .int 0, .int 0, .int 0, .int 0, .int 0, .long 0, .int 0, .int 0, .int 0, .int (-1), .ref m_lines, .ref m_has, .ref m_state, .ref m_gate, .ref m_guest, .ref m_gone, .int 0, .ref m_isKept, .ref m_first, .ref m_second, .int 0, .ref m_far, .ref m_wished, .ref m_wasState, .ref m_isHere, .ref m_round, .ref m_bestRound, .int 0, .int 0, .long 0, .long 0, .ref m_taken, .int 0]))] s.heap := hP
  have hl := lv_entry ([.ref h0, .int p0]) (n := 2) (Nat.le_of_ble_eq_true rfl)
  rw [lg_entry_eq]
  generalize (lg_sl ([.ref h0, .int p0]) ++ List.replicate (2 - (lg_sl ([.ref h0, .int p0])).length) Slot.unset).toArray = ls at hl ⊢
  have hl : lv_has ls 2 [(0, .ref h0), (1, .int p0)] := hl
  refine lv_aload_n hx hb dX7_end_0 rfl (lv_at hl 0 rfl) ?_
  refine lv_iconst (v := 0) hx hb dX7_end_1 (by decide) ?_
  refine va_put (D := (dC, dI)) (ci := 7) (v := .int 0) (ty := .int) (C := RX7) (T := TX7) (N := 39) hx hb hts in_X7_end_X7 tyX7 tyX7_ok nmX7 hown hK hP hD hS 0 rfl rfl 0 (by decide) (hts _ wd_X7_end_0) (fun _ h9 => h9) rfl (by decide +kernel) rfl rfl (Nat.le_of_ble_eq_true rfl) dX7_end_2 (fun H locs hP hD hS => ?_)
  have hP : va_P (dC, dI) vwCl [(h0, .inr (7, [.int 0, .ref m_width, .ref m_many, .ref m_cells, .ref m_moved, .ref m_tape, .int 0, .int 0, .int 0, .int 0, .int 0, .long 0, .int 0, .int 0, .int 0, .int (-1), .ref m_lines, .ref m_has, .ref m_state, .ref m_gate, .ref m_guest, .ref m_gone, .int 0, .ref m_isKept, .ref m_first, .ref m_second, .int 0, .ref m_far, .ref m_wished, .ref m_wasState, .ref m_isHere, .ref m_round, .ref m_bestRound, .int 0, .int 0, .long 0, .long 0, .ref m_taken, .int 0]))] H := hP
  have hD : va_D A [(h0, .inr (7, [.int 0, .ref m_width, .ref m_many, .ref m_cells, .ref m_moved, .ref m_tape, .int 0, .int 0, .int 0, .int 0, .int 0, .long 0, .int 0, .int 0, .int 0, .int (-1), .ref m_lines, .ref m_has, .ref m_state, .ref m_gate, .ref m_guest, .ref m_gone, .int 0, .ref m_isKept, .ref m_first, .ref m_second, .int 0, .ref m_far, .ref m_wished, .ref m_wasState, .ref m_isHere, .ref m_round, .ref m_bestRound, .int 0, .int 0, .long 0, .long 0, .ref m_taken, .int 0]))] := hD
  refine lv_iload_n hx hb dX7_end_5 rfl (lv_at hl 1 rfl) ?_
  refine lv_i2l (v := p0.toInt64) hx hb dX7_end_6 rfl ?_
  refine lv_lconst (v := 0) hx hb dX7_end_7 (by decide) ?_
  refine lv_aload_n hx hb dX7_end_8 rfl (lv_at hl 0 rfl) ?_
  refine va_get (D := (dC, dI)) (ci := 7) (v := .int 0) (C := RX7) (T := TX7) (N := 39) hx hb hts in_X7_end_X7 hown hK hP 0 rfl rfl 6 (by decide) (hts _ wd_X7_end_1) (fun _ h9 => h9) rfl dX7_end_9 ?_
  refine lv_i2l (v := 0) hx hb dX7_end_12 (by decide) ?_
  have hPc := hP.sub (ws' := []) [] rfl
  have hDc := hD.sub (ws' := []) [] (by decide) rfl
  have hKc := hK.sub (tys' := []) [] rfl
  have hFc := va_free (wc := []) hD hS hA [] rfl
  refine va_calli (va_runS (As := [.long p0.toInt64, .long 0, .long 0]) (rest := []) ⟨hx, hb, hml, hown, hts⟩ (c_X7_in l dC dI H.size p0.toInt64 ((0 : Int64)) ((0 : Int64)) p0.toInt ((0 : Int)) ((0 : Int)) ((i_wide rfl)) ((by decide)) ((by decide))) (va_cwS 3 hts g_X7_end_X7_in rfl rfl rfl (by decide +kernel) ⟨Nat.le_of_ble_eq_true rfl, Nat.le_of_ble_eq_true rfl⟩) ⟨fun a U g mk q => by obtain ⟨q0, q1, qP, qK, qD⟩ := q; exact ⟨q0, q1, qP, va_K.moved (u := U) (U := U.calling g mk a) (Vm.Alike.refl U.vm) qK, qD⟩, fun U hU hW => ⟨rfl, by rw [hU], by rw [hU]; exact hPc, va_K.moved hW.alike hKc, hDc.weaken (fun _ _ _ _ => trivial)⟩⟩ rfl rfl hl.1 rfl (lv_room (Nat.le_of_ble_eq_true rfl)) dX7_end_13 ⟨Nat.le_of_ble_eq_true rfl, Nat.le_of_ble_eq_true rfl⟩) hS (fun q _ h => hFc q h) hFc (fun r_1 u t H1 locs ht hvm hw_2 hB hz1 hk1 hS => ?_)
  have hP1 : va_P (dC, dI) vwCl [] H1 := i_nilP
  have hD1 : va_D (va_A [] H.size) [] := i_nilD
  try dsimp only at hw_2
  obtain ⟨hP, hD⟩ := va_join (wr := [(h0, .inr (7, [.int 0, .ref m_width, .ref m_many, .ref m_cells, .ref m_moved, .ref m_tape, .int 0, .int 0, .int 0, .int 0, .int 0, .long 0, .int 0, .int 0, .int 0, .int (-1), .ref m_lines, .ref m_has, .ref m_state, .ref m_gate, .ref m_guest, .ref m_gone, .int 0, .ref m_isKept, .ref m_first, .ref m_second, .int 0, .ref m_far, .ref m_wished, .ref m_wasState, .ref m_isHere, .ref m_round, .ref m_bestRound, .int 0, .int 0, .long 0, .long 0, .ref m_taken, .int 0]))]) (w1 := []) hP hD [] [0] rfl rfl (by decide) (by decide) hk1 hFc hP1 hD1
  generalize H1 = H at hP hS ⊢
  have hP : va_P (dC, dI) vwCl [(h0, .inr (7, [.int 0, .ref m_width, .ref m_many, .ref m_cells, .ref m_moved, .ref m_tape, .int 0, .int 0, .int 0, .int 0, .int 0, .long 0, .int 0, .int 0, .int 0, .int (-1), .ref m_lines, .ref m_has, .ref m_state, .ref m_gate, .ref m_guest, .ref m_gone, .int 0, .ref m_isKept, .ref m_first, .ref m_second, .int 0, .ref m_far, .ref m_wished, .ref m_wasState, .ref m_isHere, .ref m_round, .ref m_bestRound, .int 0, .int 0, .long 0, .long 0, .ref m_taken, .int 0]))] H := hP
  have hD : va_D A [(h0, .inr (7, [.int 0, .ref m_width, .ref m_many, .ref m_cells, .ref m_moved, .ref m_tape, .int 0, .int 0, .int 0, .int 0, .int 0, .long 0, .int 0, .int 0, .int 0, .int (-1), .ref m_lines, .ref m_has, .ref m_state, .ref m_gate, .ref m_guest, .ref m_gone, .int 0, .ref m_isKept, .ref m_first, .ref m_second, .int 0, .ref m_far, .ref m_wished, .ref m_wasState, .ref m_isHere, .ref m_round, .ref m_bestRound, .int 0, .int 0, .long 0, .long 0, .ref m_taken, .int 0]))] := hD
  rcases i_bool hw_2 with ⟨r_19, hC⟩ | ⟨r_19, hC⟩
  · obtain rfl : r_1 = 1 := r_19
    have hC_3 := hC
    refine lv_if_ne (tgt := 21) hx hb dX7_end_16 (by decide) (fun _ => ?_) (fun h => absurd h (by decide))
    refine lv_aload_n hx hb dX7_end_21 rfl (lv_at hl 0 rfl) ?_
    refine lv_iload_n hx hb dX7_end_22 rfl (lv_at hl 1 rfl) ?_
    refine va_put (D := (dC, dI)) (ci := 7) (v := .int p0) (ty := .int) (C := RX7) (T := TX7) (N := 39) hx hb hts in_X7_end_X7 tyX7 tyX7_ok nmX7 hown hK hP hD hS 0 rfl rfl 6 (by decide) (hts _ wd_X7_end_1) (fun _ h9 => h9) rfl (by decide +kernel) rfl rfl (Nat.le_of_ble_eq_true rfl) dX7_end_23 (fun H locs hP hD hS => ?_)
    have hP : va_P (dC, dI) vwCl [(h0, .inr (7, [.int 0, .ref m_width, .ref m_many, .ref m_cells, .ref m_moved, .ref m_tape, .int p0, .int 0, .int 0, .int 0, .int 0, .long 0, .int 0, .int 0, .int 0, .int (-1), .ref m_lines, .ref m_has, .ref m_state, .ref m_gate, .ref m_guest, .ref m_gone, .int 0, .ref m_isKept, .ref m_first, .ref m_second, .int 0, .ref m_far, .ref m_wished, .ref m_wasState, .ref m_isHere, .ref m_round, .ref m_bestRound, .int 0, .int 0, .long 0, .long 0, .ref m_taken, .int 0]))] H := hP
    have hD : va_D A [(h0, .inr (7, [.int 0, .ref m_width, .ref m_many, .ref m_cells, .ref m_moved, .ref m_tape, .int p0, .int 0, .int 0, .int 0, .int 0, .long 0, .int 0, .int 0, .int 0, .int (-1), .ref m_lines, .ref m_has, .ref m_state, .ref m_gate, .ref m_guest, .ref m_gone, .int 0, .ref m_isKept, .ref m_first, .ref m_second, .int 0, .ref m_far, .ref m_wished, .ref m_wasState, .ref m_isHere, .ref m_round, .ref m_bestRound, .int 0, .int 0, .long 0, .long 0, .ref m_taken, .int 0]))] := hD
    refine lv_iload_n hx hb dX7_end_26 rfl (lv_at hl 1 rfl) ?_
    refine W.widen (k := 0) (n := 0) (by omega) (by omega) ?_
    exact W.iret (v := p0) hx hb hr (fun t ht hW => ⟨⟨p0, (), rfl, (by rw [if_pos (by omega)]; exact i_of (Eq.trans (by omega : p0.toInt = 0) (by decide))), trivial⟩, hS.F ht⟩) hS.2.2 dX7_end_27
  · obtain rfl : r_1 = 0 := r_19
    have hC_5 := hC
    refine lv_if_ne (tgt := 21) hx hb dX7_end_16 (by decide) (fun h => absurd (by decide) h) (fun _ => ?_)
    refine lv_iconst (v := -1) hx hb dX7_end_19 (by decide) ?_
    refine W.widen (k := 0) (n := 0) (by omega) (by omega) ?_
    exact W.iret (v := -1) hx hb hr (fun t ht hW => ⟨⟨(-1), (), rfl, (by first | rfl | ((repeat' split) <;> (first | rfl | (exfalso; omega)))), trivial⟩, hS.F ht⟩) hS.2.2 dX7_end_20

theorem dX7_fault_0 : decode cX7_fault 0 = .ok (.aload_n 0, 1) := by decide +kernel
theorem dX7_fault_1 : decode cX7_fault 1 = .ok (.iconst 0, 1) := by decide +kernel
theorem dX7_fault_2 : decode cX7_fault 2 = .ok (.putfield 80, 3) := by decide +kernel
theorem dX7_fault_5 : decode cX7_fault 5 = .ok (.iload_n 1, 1) := by decide +kernel
theorem dX7_fault_6 : decode cX7_fault 6 = .ok (.ifCond .ne 10, 3) := by decide +kernel
theorem dX7_fault_9 : decode cX7_fault 9 = .ok (.aload_n 0, 1) := by decide +kernel
theorem dX7_fault_10 : decode cX7_fault 10 = .ok (.getfield 159, 3) := by decide +kernel
theorem dX7_fault_13 : decode cX7_fault 13 = .ok (.goto 16, 3) := by decide +kernel
theorem dX7_fault_16 : decode cX7_fault 16 = .ok (.iload_n 1, 1) := by decide +kernel
theorem dX7_fault_17 : decode cX7_fault 17 = .ok (.iconst 1, 1) := by decide +kernel
theorem dX7_fault_18 : decode cX7_fault 18 = .ok (.if_icmp .ne 10, 3) := by decide +kernel
theorem dX7_fault_21 : decode cX7_fault 21 = .ok (.aload_n 0, 1) := by decide +kernel
theorem dX7_fault_22 : decode cX7_fault 22 = .ok (.getfield 27, 3) := by decide +kernel
theorem dX7_fault_25 : decode cX7_fault 25 = .ok (.goto 4, 3) := by decide +kernel
theorem dX7_fault_28 : decode cX7_fault 28 = .ok (.iconst (-1), 1) := by decide +kernel
theorem dX7_fault_29 : decode cX7_fault 29 = .ok (.ireturn, 1) := by decide +kernel
def wz_X7_fault : List Cond := .code yX7_fault cX7_fault 2 (some .int) :: ([Cond.fieldLink RX7 80 "HedgeMazeModel" "thrown" "I", Cond.fieldLink RX7 27 "HedgeMazeModel" "faultPlace" "I", Cond.fieldLink RX7 159 "HedgeMazeModel" "fault" "I"] ++ wsX70)
theorem wd_X7_fault_0 : Cond.fieldLink RX7 80 "HedgeMazeModel" "thrown" "I" ∈ wz_X7_fault := List.mem_of_getElem? (i := 1) rfl
theorem wd_X7_fault_1 : Cond.fieldLink RX7 27 "HedgeMazeModel" "faultPlace" "I" ∈ wz_X7_fault := List.mem_of_getElem? (i := 2) rfl
theorem wd_X7_fault_2 : Cond.fieldLink RX7 159 "HedgeMazeModel" "fault" "I" ∈ wz_X7_fault := List.mem_of_getElem? (i := 3) rfl
theorem in_X7_fault_X7 : ∀ w ∈ wsX70, w ∈ wz_X7_fault := fun _ h => List.mem_cons_of_mem _ (List.mem_append_right _ h)
set_option maxHeartbeats 4000000 in
set_option maxRecDepth 100000 in
theorem c_X7_fault (l : Launch) (dC : Nat → ClassId) (dI : Nat → Nat → Nat) (sz : Nat) (h0 : Nat) (m_width : Nat) (m_many : Nat) (m_cells : Nat) (m_moved : Nat) (m_tape : Nat) (m_lines : Nat) (m_has : Nat) (m_state : Nat) (m_gate : Nat) (m_guest : Nat) (m_gone : Nat) (m_isKept : Nat) (m_first : Nat) (m_second : Nat) (m_far : Nat) (m_wished : Nat) (m_wasState : Nat) (m_isHere : Nat) (m_round : Nat) (m_bestRound : Nat) (m_taken : Nat) (p0 : Int32)  : Met l yX7_fault wz_X7_fault ({ frames := 0, cells := 0, slots := 0, locals := 0 }) (va_Pc [.ref h0, .int p0] (fun U => U.heap.size = sz ∧ va_P (dC, dI) vwCl [(h0, .inr (7, [.int 0, .ref m_width, .ref m_many, .ref m_cells, .ref m_moved, .ref m_tape, .int 0, .int 0, .int 0, .int 0, .int 0, .long 0, .int 0, .int 0, .int 0, .int (-1), .ref m_lines, .ref m_has, .ref m_state, .ref m_gate, .ref m_guest, .ref m_gone, .int 0, .ref m_isKept, .ref m_first, .ref m_second, .int 0, .ref m_far, .ref m_wished, .ref m_wasState, .ref m_isHere, .ref m_round, .ref m_bestRound, .int 0, .int 0, .long 0, .long 0, .ref m_taken, .int 0]))] U.heap ∧ va_K (dC, dI) vwCl [] U ∧ va_D (fun _ => True) [(h0, .inr (7, [.int 0, .ref m_width, .ref m_many, .ref m_cells, .ref m_moved, .ref m_tape, .int 0, .int 0, .int 0, .int 0, .int 0, .long 0, .int 0, .int 0, .int 0, .int (-1), .ref m_lines, .ref m_has, .ref m_state, .ref m_gate, .ref m_guest, .ref m_gone, .int 0, .ref m_isKept, .ref m_first, .ref m_second, .int 0, .ref m_far, .ref m_wished, .ref m_wasState, .ref m_isHere, .ref m_round, .ref m_bestRound, .int 0, .int 0, .long 0, .long 0, .ref m_taken, .int 0]))])) (va_Qi (fun (r : Int32) (u : Unit) => r = if p0.toInt = 0 then 0 else -1) (fun (_ : Unit) (_ : State) => True) (va_A [(h0, .inr (7, [.int 0, .ref m_width, .ref m_many, .ref m_cells, .ref m_moved, .ref m_tape, .int 0, .int 0, .int 0, .int 0, .int 0, .long 0, .int 0, .int 0, .int 0, .int (-1), .ref m_lines, .ref m_has, .ref m_state, .ref m_gate, .ref m_guest, .ref m_gone, .int 0, .ref m_isKept, .ref m_first, .ref m_second, .int 0, .ref m_far, .ref m_wished, .ref m_wasState, .ref m_isHere, .ref m_round, .ref m_bestRound, .int 0, .int 0, .long 0, .long 0, .ref m_taken, .int 0]))] sz)) 0 0 (va_A [(h0, .inr (7, [.int 0, .ref m_width, .ref m_many, .ref m_cells, .ref m_moved, .ref m_tape, .int 0, .int 0, .int 0, .int 0, .int 0, .long 0, .int 0, .int 0, .int 0, .int (-1), .ref m_lines, .ref m_has, .ref m_state, .ref m_gate, .ref m_guest, .ref m_gone, .int 0, .ref m_isKept, .ref m_first, .ref m_second, .int 0, .ref m_far, .ref m_wished, .ref m_wasState, .ref m_isHere, .ref m_round, .ref m_bestRound, .int 0, .int 0, .long 0, .long 0, .ref m_taken, .int 0]))] sz) := by
  refine Met.ofW (cc := cX7_fault) (maxL := 2) (ret := (some .int)) (by decide) rfl ?_
  intro p e s m args below meth c s₁ B hml hv
  obtain ⟨rfl, hsz, hP, hK, hD0⟩ := hv
  have hx := B.exec
  have hb := B.bytes
  have hr := B.returns
  have hts := atoms_spec (ws := wz_X7_fault) B.pre
  have hown : s.vm.findClass RX7 = some m.cls := findClass_of_methodNamed B.named
  have hlocks := B.notSynchronized
  subst hsz
  have hD := hD0.self (sz := s.heap.size)
  generalize hAe : va_A [(h0, .inr (7, [.int 0, .ref m_width, .ref m_many, .ref m_cells, .ref m_moved, .ref m_tape, .int 0, .int 0, .int 0, .int 0, .int 0, .long 0, .int 0, .int 0, .int 0, .int (-1), .ref m_lines, .ref m_has, .ref m_state, .ref m_gate, .ref m_guest, .ref m_gone, .int 0, .ref m_isKept, .ref m_first, .ref m_second, .int 0, .ref m_far, .ref m_wished, .ref m_wasState, .ref m_isHere, .ref m_round, .ref m_bestRound, .int 0, .int 0, .long 0, .long 0, .ref m_taken, .int 0]))] s.heap.size = A at hD ⊢
  have hA : ∀ q : Nat, s.heap.size ≤ q → A q := fun q h => by rw [← hAe]; exact Or.inr h
  have hS : va_S A s.heap s.heap [] := va_S.rf
  have hP : va_P (dC, dI) vwCl [(h0, .inr (7, [.int 0, .ref m_width, .ref m_many, .ref m_cells, .ref m_moved, .ref m_tape, .int 0, .int 0, .int 0, .int 0, .int 0, .long 0, .int 0, .int 0, .int 0, .int (-1), .ref m_lines, .ref m_has, .ref m_state, .ref m_gate, .ref m_guest, .ref m_gone, .int 0, .ref m_isKept, .ref m_first, .ref m_second, .int 0, .ref m_far, .ref m_wished, .ref m_wasState, .ref m_isHere, .ref m_round, .ref m_bestRound, .int 0, .int 0, .long 0, .long 0, .ref m_taken, .int 0]))] s.heap := hP
  have hl := lv_entry ([.ref h0, .int p0]) (n := 2) (Nat.le_of_ble_eq_true rfl)
  rw [lg_entry_eq]
  generalize (lg_sl ([.ref h0, .int p0]) ++ List.replicate (2 - (lg_sl ([.ref h0, .int p0])).length) Slot.unset).toArray = ls at hl ⊢
  have hl : lv_has ls 2 [(0, .ref h0), (1, .int p0)] := hl
  refine lv_aload_n hx hb dX7_fault_0 rfl (lv_at hl 0 rfl) ?_
  refine lv_iconst (v := 0) hx hb dX7_fault_1 (by decide) ?_
  refine va_put (D := (dC, dI)) (ci := 7) (v := .int 0) (ty := .int) (C := RX7) (T := TX7) (N := 39) hx hb hts in_X7_fault_X7 tyX7 tyX7_ok nmX7 hown hK hP hD hS 0 rfl rfl 0 (by decide) (hts _ wd_X7_fault_0) (fun _ h9 => h9) rfl (by decide +kernel) rfl rfl (Nat.le_of_ble_eq_true rfl) dX7_fault_2 (fun H locs hP hD hS => ?_)
  have hP : va_P (dC, dI) vwCl [(h0, .inr (7, [.int 0, .ref m_width, .ref m_many, .ref m_cells, .ref m_moved, .ref m_tape, .int 0, .int 0, .int 0, .int 0, .int 0, .long 0, .int 0, .int 0, .int 0, .int (-1), .ref m_lines, .ref m_has, .ref m_state, .ref m_gate, .ref m_guest, .ref m_gone, .int 0, .ref m_isKept, .ref m_first, .ref m_second, .int 0, .ref m_far, .ref m_wished, .ref m_wasState, .ref m_isHere, .ref m_round, .ref m_bestRound, .int 0, .int 0, .long 0, .long 0, .ref m_taken, .int 0]))] H := hP
  have hD : va_D A [(h0, .inr (7, [.int 0, .ref m_width, .ref m_many, .ref m_cells, .ref m_moved, .ref m_tape, .int 0, .int 0, .int 0, .int 0, .int 0, .long 0, .int 0, .int 0, .int 0, .int (-1), .ref m_lines, .ref m_has, .ref m_state, .ref m_gate, .ref m_guest, .ref m_gone, .int 0, .ref m_isKept, .ref m_first, .ref m_second, .int 0, .ref m_far, .ref m_wished, .ref m_wasState, .ref m_isHere, .ref m_round, .ref m_bestRound, .int 0, .int 0, .long 0, .long 0, .ref m_taken, .int 0]))] := hD
  refine lv_iload_n hx hb dX7_fault_5 rfl (lv_at hl 1 rfl) ?_
  refine lv_if_ne (tgt := 16) hx hb dX7_fault_6 (by decide) (fun c_1 => ?_) (fun c_1 => ?_)
  · have c_1 : p0.toInt ≠ 0 := i_ne (a := p0) (b := 0) rfl (by decide) c_1
    refine lv_iload_n hx hb dX7_fault_16 rfl (lv_at hl 1 rfl) ?_
    refine lv_iconst (v := 1) hx hb dX7_fault_17 (by decide) ?_
    refine lv_icmp_ne (tgt := 28) hx hb dX7_fault_18 (by decide) (fun c_2 => ?_) (fun c_2 => ?_)
    · have c_2 : p0.toInt ≠ 1 := i_ne (a := p0) (b := 1) rfl (by decide) c_2
      refine lv_iconst (v := -1) hx hb dX7_fault_28 (by decide) ?_
      refine W.widen (k := 0) (n := 0) (by omega) (by omega) ?_
      exact W.iret (v := -1) hx hb hr (fun t ht hW => ⟨⟨(-1), (), rfl, (by first | rfl | ((repeat' split) <;> (first | rfl | (exfalso; omega)))), trivial⟩, hS.F ht⟩) hS.2.2 dX7_fault_29
    · have c_2 : p0.toInt = 1 := i_eq (a := p0) (b := 1) rfl (by decide) c_2
      refine lv_aload_n hx hb dX7_fault_21 rfl (lv_at hl 0 rfl) ?_
      refine va_get (D := (dC, dI)) (ci := 7) (v := .int (-1)) (C := RX7) (T := TX7) (N := 39) hx hb hts in_X7_fault_X7 hown hK hP 0 rfl rfl 15 (by decide) (hts _ wd_X7_fault_1) (fun _ h9 => h9) rfl dX7_fault_22 ?_
      refine lv_goto (tgt := 29) hx hb dX7_fault_25 (by decide) ?_
      refine W.widen (k := 0) (n := 0) (by omega) (by omega) ?_
      exact W.iret (v := -1) hx hb hr (fun t ht hW => ⟨⟨(-1), (), rfl, (by first | rfl | ((repeat' split) <;> (first | rfl | (exfalso; omega)))), trivial⟩, hS.F ht⟩) hS.2.2 dX7_fault_29
  · have c_1 : p0.toInt = 0 := i_eq (a := p0) (b := 0) rfl (by decide) c_1
    refine lv_aload_n hx hb dX7_fault_9 rfl (lv_at hl 0 rfl) ?_
    refine va_get (D := (dC, dI)) (ci := 7) (v := .int 0) (C := RX7) (T := TX7) (N := 39) hx hb hts in_X7_fault_X7 hown hK hP 0 rfl rfl 14 (by decide) (hts _ wd_X7_fault_2) (fun _ h9 => h9) rfl dX7_fault_10 ?_
    refine lv_goto (tgt := 29) hx hb dX7_fault_13 (by decide) ?_
    refine W.widen (k := 0) (n := 0) (by omega) (by omega) ?_
    exact W.iret (v := 0) hx hb hr (fun t ht hW => ⟨⟨0, (), rfl, (by first | rfl | ((repeat' split) <;> (first | rfl | (exfalso; omega)))), trivial⟩, hS.F ht⟩) hS.2.2 dX7_fault_29

theorem dX7_four_0 : decode cX7_four 0 = .ok (.bipush 24, 2) := by decide +kernel
theorem dX7_four_2 : decode cX7_four 2 = .ok (.istore_n 2, 1) := by decide +kernel
theorem dX7_four_3 : decode cX7_four 3 = .ok (.iload_n 2, 1) := by decide +kernel
theorem dX7_four_4 : decode cX7_four 4 = .ok (.ifCond .lt 32, 3) := by decide +kernel
theorem dX7_four_7 : decode cX7_four 7 = .ok (.aload_n 0, 1) := by decide +kernel
theorem dX7_four_8 : decode cX7_four 8 = .ok (.getfield 23, 3) := by decide +kernel
theorem dX7_four_11 : decode cX7_four 11 = .ok (.aload_n 0, 1) := by decide +kernel
theorem dX7_four_12 : decode cX7_four 12 = .ok (.getfield 97, 3) := by decide +kernel
theorem dX7_four_15 : decode cX7_four 15 = .ok (.iload_n 1, 1) := by decide +kernel
theorem dX7_four_16 : decode cX7_four 16 = .ok (.iload_n 2, 1) := by decide +kernel
theorem dX7_four_17 : decode cX7_four 17 = .ok (.ishr, 1) := by decide +kernel
theorem dX7_four_18 : decode cX7_four 18 = .ok (.i2b, 1) := by decide +kernel
theorem dX7_four_19 : decode cX7_four 19 = .ok (.bastore, 1) := by decide +kernel
theorem dX7_four_20 : decode cX7_four 20 = .ok (.aload_n 0, 1) := by decide +kernel
theorem dX7_four_21 : decode cX7_four 21 = .ok (.dup, 1) := by decide +kernel
theorem dX7_four_22 : decode cX7_four 22 = .ok (.getfield 97, 3) := by decide +kernel
theorem dX7_four_25 : decode cX7_four 25 = .ok (.iconst 1, 1) := by decide +kernel
theorem dX7_four_26 : decode cX7_four 26 = .ok (.iadd, 1) := by decide +kernel
theorem dX7_four_27 : decode cX7_four 27 = .ok (.putfield 97, 3) := by decide +kernel
theorem dX7_four_30 : decode cX7_four 30 = .ok (.iinc 2 (-8), 3) := by decide +kernel
theorem dX7_four_33 : decode cX7_four 33 = .ok (.goto (-30), 3) := by decide +kernel
theorem dX7_four_36 : decode cX7_four 36 = .ok (.return_, 1) := by decide +kernel
def wz_X7_four_0 : List Cond := .code yX7_four cX7_four 3 none :: ([Cond.fieldLink RX7 23 "HedgeMazeModel" "tape" "[B", Cond.fieldLink RX7 97 "HedgeMazeModel" "taped" "I"] ++ wsX70)
theorem wd_X7_four_0_0 : Cond.fieldLink RX7 23 "HedgeMazeModel" "tape" "[B" ∈ wz_X7_four_0 := List.mem_of_getElem? (i := 1) rfl
theorem wd_X7_four_0_1 : Cond.fieldLink RX7 97 "HedgeMazeModel" "taped" "I" ∈ wz_X7_four_0 := List.mem_of_getElem? (i := 2) rfl
theorem in_X7_four_0_X7 : ∀ w ∈ wsX70, w ∈ wz_X7_four_0 := fun _ h => List.mem_cons_of_mem _ (List.mem_append_right _ h)
set_option maxHeartbeats 4000000 in
set_option maxRecDepth 100000 in
theorem c_X7_four_0 (l : Launch) (dC : Nat → ClassId) (dI : Nat → Nat → Nat) (sz : Nat) (h0 : Nat) (m_width : Nat) (m_many : Nat) (m_cells : Nat) (m_moved : Nat) (m_tape : Nat) (m_lines : Nat) (m_has : Nat) (m_state : Nat) (m_gate : Nat) (m_guest : Nat) (m_gone : Nat) (m_isKept : Nat) (m_first : Nat) (m_second : Nat) (m_far : Nat) (m_wished : Nat) (m_wasState : Nat) (m_isHere : Nat) (m_round : Nat) (m_bestRound : Nat) (m_taken : Nat) (k_tape : ClassId) (ft : Nat → Int32) (p0 : Int32)  : Met l yX7_four wz_X7_four_0 ({ frames := 0, cells := 0, slots := 0, locals := 0 }) (va_Pc [.ref h0, .int p0] (fun U => U.heap.size = sz ∧ va_P (dC, dI) vwCl [(h0, .inr (7, [.int 0, .ref m_width, .ref m_many, .ref m_cells, .ref m_moved, .ref m_tape, .int 0, .int 0, .int 0, .int 0, .int 0, .long 0, .int 0, .int 0, .int 0, .int (-1), .ref m_lines, .ref m_has, .ref m_state, .ref m_gate, .ref m_guest, .ref m_gone, .int 0, .ref m_isKept, .ref m_first, .ref m_second, .int 0, .ref m_far, .ref m_wished, .ref m_wasState, .ref m_isHere, .ref m_round, .ref m_bestRound, .int 0, .int 0, .long 0, .long 0, .ref m_taken, .int 0])), (m_tape, .inl (k_tape, 1600, .inl ft))] U.heap ∧ va_K (dC, dI) vwCl [(k_tape, .byte)] U ∧ va_D (fun _ => True) [(h0, .inr (7, [.int 0, .ref m_width, .ref m_many, .ref m_cells, .ref m_moved, .ref m_tape, .int 0, .int 0, .int 0, .int 0, .int 0, .long 0, .int 0, .int 0, .int 0, .int (-1), .ref m_lines, .ref m_has, .ref m_state, .ref m_gate, .ref m_guest, .ref m_gone, .int 0, .ref m_isKept, .ref m_first, .ref m_second, .int 0, .ref m_far, .ref m_wished, .ref m_wasState, .ref m_isHere, .ref m_round, .ref m_bestRound, .int 0, .int 0, .long 0, .long 0, .ref m_taken, .int 0])), (m_tape, .inl (k_tape, 1600, .inl ft))])) (va_Qv (fun (u : (Nat → Int32)) => True) (fun (u : (Nat → Int32)) (t : State) => va_P (dC, dI) vwCl [(h0, .inr (7, [.int 0, .ref m_width, .ref m_many, .ref m_cells, .ref m_moved, .ref m_tape, .int 4, .int 0, .int 0, .int 0, .int 0, .long 0, .int 0, .int 0, .int 0, .int (-1), .ref m_lines, .ref m_has, .ref m_state, .ref m_gate, .ref m_guest, .ref m_gone, .int 0, .ref m_isKept, .ref m_first, .ref m_second, .int 0, .ref m_far, .ref m_wished, .ref m_wasState, .ref m_isHere, .ref m_round, .ref m_bestRound, .int 0, .int 0, .long 0, .long 0, .ref m_taken, .int 0])), (m_tape, .inl (k_tape, 1600, .inl u))] t.heap ∧ va_K (dC, dI) vwCl [] t ∧ va_D (va_A [(h0, .inr (7, [.int 0, .ref m_width, .ref m_many, .ref m_cells, .ref m_moved, .ref m_tape, .int 0, .int 0, .int 0, .int 0, .int 0, .long 0, .int 0, .int 0, .int 0, .int (-1), .ref m_lines, .ref m_has, .ref m_state, .ref m_gate, .ref m_guest, .ref m_gone, .int 0, .ref m_isKept, .ref m_first, .ref m_second, .int 0, .ref m_far, .ref m_wished, .ref m_wasState, .ref m_isHere, .ref m_round, .ref m_bestRound, .int 0, .int 0, .long 0, .long 0, .ref m_taken, .int 0])), (m_tape, .inl (k_tape, 1600, .inl ft))] sz) [(h0, .inr (7, [.int 0, .ref m_width, .ref m_many, .ref m_cells, .ref m_moved, .ref m_tape, .int 4, .int 0, .int 0, .int 0, .int 0, .long 0, .int 0, .int 0, .int 0, .int (-1), .ref m_lines, .ref m_has, .ref m_state, .ref m_gate, .ref m_guest, .ref m_gone, .int 0, .ref m_isKept, .ref m_first, .ref m_second, .int 0, .ref m_far, .ref m_wished, .ref m_wasState, .ref m_isHere, .ref m_round, .ref m_bestRound, .int 0, .int 0, .long 0, .long 0, .ref m_taken, .int 0])), (m_tape, .inl (k_tape, 1600, .inl u))]) (va_A [(h0, .inr (7, [.int 0, .ref m_width, .ref m_many, .ref m_cells, .ref m_moved, .ref m_tape, .int 0, .int 0, .int 0, .int 0, .int 0, .long 0, .int 0, .int 0, .int 0, .int (-1), .ref m_lines, .ref m_has, .ref m_state, .ref m_gate, .ref m_guest, .ref m_gone, .int 0, .ref m_isKept, .ref m_first, .ref m_second, .int 0, .ref m_far, .ref m_wished, .ref m_wasState, .ref m_isHere, .ref m_round, .ref m_bestRound, .int 0, .int 0, .long 0, .long 0, .ref m_taken, .int 0])), (m_tape, .inl (k_tape, 1600, .inl ft))] sz)) 0 0 (va_A [(h0, .inr (7, [.int 0, .ref m_width, .ref m_many, .ref m_cells, .ref m_moved, .ref m_tape, .int 0, .int 0, .int 0, .int 0, .int 0, .long 0, .int 0, .int 0, .int 0, .int (-1), .ref m_lines, .ref m_has, .ref m_state, .ref m_gate, .ref m_guest, .ref m_gone, .int 0, .ref m_isKept, .ref m_first, .ref m_second, .int 0, .ref m_far, .ref m_wished, .ref m_wasState, .ref m_isHere, .ref m_round, .ref m_bestRound, .int 0, .int 0, .long 0, .long 0, .ref m_taken, .int 0])), (m_tape, .inl (k_tape, 1600, .inl ft))] sz) := by
  refine Met.ofW (cc := cX7_four) (maxL := 3) (ret := none) (by decide) rfl ?_
  intro p e s m args below meth c s₁ B hml hv
  obtain ⟨rfl, hsz, hP, hK, hD0⟩ := hv
  have hx := B.exec
  have hb := B.bytes
  have hr := B.returns
  have hts := atoms_spec (ws := wz_X7_four_0) B.pre
  have hown : s.vm.findClass RX7 = some m.cls := findClass_of_methodNamed B.named
  have hlocks := B.notSynchronized
  subst hsz
  have hD := hD0.self (sz := s.heap.size)
  generalize hAe : va_A [(h0, .inr (7, [.int 0, .ref m_width, .ref m_many, .ref m_cells, .ref m_moved, .ref m_tape, .int 0, .int 0, .int 0, .int 0, .int 0, .long 0, .int 0, .int 0, .int 0, .int (-1), .ref m_lines, .ref m_has, .ref m_state, .ref m_gate, .ref m_guest, .ref m_gone, .int 0, .ref m_isKept, .ref m_first, .ref m_second, .int 0, .ref m_far, .ref m_wished, .ref m_wasState, .ref m_isHere, .ref m_round, .ref m_bestRound, .int 0, .int 0, .long 0, .long 0, .ref m_taken, .int 0])), (m_tape, .inl (k_tape, 1600, .inl ft))] s.heap.size = A at hD ⊢
  have hA : ∀ q : Nat, s.heap.size ≤ q → A q := fun q h => by rw [← hAe]; exact Or.inr h
  have hS : va_S A s.heap s.heap [] := va_S.rf
  have hP : va_P (dC, dI) vwCl [(h0, .inr (7, [.int 0, .ref m_width, .ref m_many, .ref m_cells, .ref m_moved, .ref m_tape, .int 0, .int 0, .int 0, .int 0, .int 0, .long 0, .int 0, .int 0, .int 0, .int (-1), .ref m_lines, .ref m_has, .ref m_state, .ref m_gate, .ref m_guest, .ref m_gone, .int 0, .ref m_isKept, .ref m_first, .ref m_second, .int 0, .ref m_far, .ref m_wished, .ref m_wasState, .ref m_isHere, .ref m_round, .ref m_bestRound, .int 0, .int 0, .long 0, .long 0, .ref m_taken, .int 0])), (m_tape, .inl (k_tape, 1600, .inl ft))] s.heap := hP
  have hl := lv_entry ([.ref h0, .int p0]) (n := 3) (Nat.le_of_ble_eq_true rfl)
  rw [lg_entry_eq]
  generalize (lg_sl ([.ref h0, .int p0]) ++ List.replicate (3 - (lg_sl ([.ref h0, .int p0])).length) Slot.unset).toArray = ls at hl ⊢
  have hl : lv_has ls 3 [(0, .ref h0), (1, .int p0)] := hl
  refine lv_bipush (v := 24) hx hb dX7_four_0 (by decide) ?_
  refine lv_istore_n (lv' := [(2, .int 24), (0, .ref h0), (1, .int p0)]) hx hb dX7_four_2 rfl hl (by decide) rfl (fun ls hl => ?_)
  refine lv_iload_n hx hb dX7_four_3 rfl (lv_at hl 0 rfl) ?_
  refine lv_if_lt (tgt := 36) hx hb dX7_four_4 (by decide) (fun h => absurd h (by decide)) (fun _ => ?_)
  refine lv_aload_n hx hb dX7_four_7 rfl (lv_at hl 1 rfl) ?_
  refine va_get (D := (dC, dI)) (ci := 7) (v := .ref m_tape) (C := RX7) (T := TX7) (N := 39) hx hb hts in_X7_four_0_X7 hown hK hP 0 rfl rfl 5 (by decide) (hts _ wd_X7_four_0_0) (fun _ h9 => h9) rfl dX7_four_8 ?_
  refine lv_aload_n hx hb dX7_four_11 rfl (lv_at hl 1 rfl) ?_
  refine va_get (D := (dC, dI)) (ci := 7) (v := .int 0) (C := RX7) (T := TX7) (N := 39) hx hb hts in_X7_four_0_X7 hown hK hP 0 rfl rfl 6 (by decide) (hts _ wd_X7_four_0_1) (fun _ h9 => h9) rfl dX7_four_12 ?_
  refine lv_iload_n hx hb dX7_four_15 rfl (lv_at hl 2 rfl) ?_
  refine lv_iload_n hx hb dX7_four_16 rfl (lv_at hl 0 rfl) ?_
  refine lv_ishr hx hb dX7_four_17 ?_
  refine lv_topi (fun x_2 ex_2 => ?_)
  refine lv_i2b (v := x_2.toInt8.toInt32) hx hb dX7_four_18 rfl ?_
  refine lv_topi (fun x_3 ex_3 => ?_)
  refine va_bast hx hb hK hP hD hS 1 0 rfl rfl (vp_in_iff.mpr ⟨by decide, by decide⟩) dX7_four_19 (fun H locs hP hD hS => ?_)
  have hP : va_P (dC, dI) vwCl [(h0, .inr (7, [.int 0, .ref m_width, .ref m_many, .ref m_cells, .ref m_moved, .ref m_tape, .int 0, .int 0, .int 0, .int 0, .int 0, .long 0, .int 0, .int 0, .int 0, .int (-1), .ref m_lines, .ref m_has, .ref m_state, .ref m_gate, .ref m_guest, .ref m_gone, .int 0, .ref m_isKept, .ref m_first, .ref m_second, .int 0, .ref m_far, .ref m_wished, .ref m_wasState, .ref m_isHere, .ref m_round, .ref m_bestRound, .int 0, .int 0, .long 0, .long 0, .ref m_taken, .int 0])), (m_tape, .inl (k_tape, 1600, .inl (upd ft ((0 : Int32)).toNatClampNeg (vp_nar .byte x_3))))] H := hP
  have hD : va_D A [(h0, .inr (7, [.int 0, .ref m_width, .ref m_many, .ref m_cells, .ref m_moved, .ref m_tape, .int 0, .int 0, .int 0, .int 0, .int 0, .long 0, .int 0, .int 0, .int 0, .int (-1), .ref m_lines, .ref m_has, .ref m_state, .ref m_gate, .ref m_guest, .ref m_gone, .int 0, .ref m_isKept, .ref m_first, .ref m_second, .int 0, .ref m_far, .ref m_wished, .ref m_wasState, .ref m_isHere, .ref m_round, .ref m_bestRound, .int 0, .int 0, .long 0, .long 0, .ref m_taken, .int 0])), (m_tape, .inl (k_tape, 1600, .inl (upd ft ((0 : Int32)).toNatClampNeg (vp_nar .byte x_3))))] := hD
  obtain ⟨f_4, ef_4⟩ : ∃ g, g = upd ft ((0 : Int32)).toNatClampNeg (vp_nar .byte x_3) := ⟨_, rfl⟩
  rw [← ef_4] at hP hD
  refine lv_aload_n hx hb dX7_four_20 rfl (lv_at hl 1 rfl) ?_
  refine lv_dup hx hb dX7_four_21 rfl ?_
  refine va_get (D := (dC, dI)) (ci := 7) (v := .int 0) (C := RX7) (T := TX7) (N := 39) hx hb hts in_X7_four_0_X7 hown hK hP 0 rfl rfl 6 (by decide) (hts _ wd_X7_four_0_1) (fun _ h9 => h9) rfl dX7_four_22 ?_
  refine lv_iconst (v := 1) hx hb dX7_four_25 (by decide) ?_
  refine lv_iadd hx hb dX7_four_26 ?_
  refine lv_topi (fun z_5 ez_5 => ?_)
  obtain rfl : z_5 = 1 := ez_5.trans (by decide)
  refine va_put (D := (dC, dI)) (ci := 7) (v := .int 1) (ty := .int) (C := RX7) (T := TX7) (N := 39) hx hb hts in_X7_four_0_X7 tyX7 tyX7_ok nmX7 hown hK hP hD hS 0 rfl rfl 6 (by decide) (hts _ wd_X7_four_0_1) (fun _ h9 => h9) rfl (by decide +kernel) rfl rfl (Nat.le_of_ble_eq_true rfl) dX7_four_27 (fun H locs hP hD hS => ?_)
  have hP : va_P (dC, dI) vwCl [(h0, .inr (7, [.int 0, .ref m_width, .ref m_many, .ref m_cells, .ref m_moved, .ref m_tape, .int 1, .int 0, .int 0, .int 0, .int 0, .long 0, .int 0, .int 0, .int 0, .int (-1), .ref m_lines, .ref m_has, .ref m_state, .ref m_gate, .ref m_guest, .ref m_gone, .int 0, .ref m_isKept, .ref m_first, .ref m_second, .int 0, .ref m_far, .ref m_wished, .ref m_wasState, .ref m_isHere, .ref m_round, .ref m_bestRound, .int 0, .int 0, .long 0, .long 0, .ref m_taken, .int 0])), (m_tape, .inl (k_tape, 1600, .inl f_4))] H := hP
  have hD : va_D A [(h0, .inr (7, [.int 0, .ref m_width, .ref m_many, .ref m_cells, .ref m_moved, .ref m_tape, .int 1, .int 0, .int 0, .int 0, .int 0, .long 0, .int 0, .int 0, .int 0, .int (-1), .ref m_lines, .ref m_has, .ref m_state, .ref m_gate, .ref m_guest, .ref m_gone, .int 0, .ref m_isKept, .ref m_first, .ref m_second, .int 0, .ref m_far, .ref m_wished, .ref m_wasState, .ref m_isHere, .ref m_round, .ref m_bestRound, .int 0, .int 0, .long 0, .long 0, .ref m_taken, .int 0])), (m_tape, .inl (k_tape, 1600, .inl f_4))] := hD
  refine lv_iinc (v := 16) (lv' := [(2, .int 16), (0, .ref h0), (1, .int p0)]) hx hb dX7_four_30 hl (k := 0) rfl (by decide) (by decide) rfl (fun ls hl => ?_)
  refine lv_goto (tgt := 3) hx hb dX7_four_33 (by decide) ?_
  refine lv_iload_n hx hb dX7_four_3 rfl (lv_at hl 0 rfl) ?_
  refine lv_if_lt (tgt := 36) hx hb dX7_four_4 (by decide) (fun h => absurd h (by decide)) (fun _ => ?_)
  refine lv_aload_n hx hb dX7_four_7 rfl (lv_at hl 1 rfl) ?_
  refine va_get (D := (dC, dI)) (ci := 7) (v := .ref m_tape) (C := RX7) (T := TX7) (N := 39) hx hb hts in_X7_four_0_X7 hown hK hP 0 rfl rfl 5 (by decide) (hts _ wd_X7_four_0_0) (fun _ h9 => h9) rfl dX7_four_8 ?_
  refine lv_aload_n hx hb dX7_four_11 rfl (lv_at hl 1 rfl) ?_
  refine va_get (D := (dC, dI)) (ci := 7) (v := .int 1) (C := RX7) (T := TX7) (N := 39) hx hb hts in_X7_four_0_X7 hown hK hP 0 rfl rfl 6 (by decide) (hts _ wd_X7_four_0_1) (fun _ h9 => h9) rfl dX7_four_12 ?_
  refine lv_iload_n hx hb dX7_four_15 rfl (lv_at hl 2 rfl) ?_
  refine lv_iload_n hx hb dX7_four_16 rfl (lv_at hl 0 rfl) ?_
  refine lv_ishr hx hb dX7_four_17 ?_
  refine lv_topi (fun x_7 ex_7 => ?_)
  refine lv_i2b (v := x_7.toInt8.toInt32) hx hb dX7_four_18 rfl ?_
  refine lv_topi (fun x_8 ex_8 => ?_)
  refine va_bast hx hb hK hP hD hS 1 0 rfl rfl (vp_in_iff.mpr ⟨by decide, by decide⟩) dX7_four_19 (fun H locs hP hD hS => ?_)
  have hP : va_P (dC, dI) vwCl [(h0, .inr (7, [.int 0, .ref m_width, .ref m_many, .ref m_cells, .ref m_moved, .ref m_tape, .int 1, .int 0, .int 0, .int 0, .int 0, .long 0, .int 0, .int 0, .int 0, .int (-1), .ref m_lines, .ref m_has, .ref m_state, .ref m_gate, .ref m_guest, .ref m_gone, .int 0, .ref m_isKept, .ref m_first, .ref m_second, .int 0, .ref m_far, .ref m_wished, .ref m_wasState, .ref m_isHere, .ref m_round, .ref m_bestRound, .int 0, .int 0, .long 0, .long 0, .ref m_taken, .int 0])), (m_tape, .inl (k_tape, 1600, .inl (upd f_4 ((1 : Int32)).toNatClampNeg (vp_nar .byte x_8))))] H := hP
  have hD : va_D A [(h0, .inr (7, [.int 0, .ref m_width, .ref m_many, .ref m_cells, .ref m_moved, .ref m_tape, .int 1, .int 0, .int 0, .int 0, .int 0, .long 0, .int 0, .int 0, .int 0, .int (-1), .ref m_lines, .ref m_has, .ref m_state, .ref m_gate, .ref m_guest, .ref m_gone, .int 0, .ref m_isKept, .ref m_first, .ref m_second, .int 0, .ref m_far, .ref m_wished, .ref m_wasState, .ref m_isHere, .ref m_round, .ref m_bestRound, .int 0, .int 0, .long 0, .long 0, .ref m_taken, .int 0])), (m_tape, .inl (k_tape, 1600, .inl (upd f_4 ((1 : Int32)).toNatClampNeg (vp_nar .byte x_8))))] := hD
  obtain ⟨f_9, ef_9⟩ : ∃ g, g = upd f_4 ((1 : Int32)).toNatClampNeg (vp_nar .byte x_8) := ⟨_, rfl⟩
  rw [← ef_9] at hP hD
  refine lv_aload_n hx hb dX7_four_20 rfl (lv_at hl 1 rfl) ?_
  refine lv_dup hx hb dX7_four_21 rfl ?_
  refine va_get (D := (dC, dI)) (ci := 7) (v := .int 1) (C := RX7) (T := TX7) (N := 39) hx hb hts in_X7_four_0_X7 hown hK hP 0 rfl rfl 6 (by decide) (hts _ wd_X7_four_0_1) (fun _ h9 => h9) rfl dX7_four_22 ?_
  refine lv_iconst (v := 1) hx hb dX7_four_25 (by decide) ?_
  refine lv_iadd hx hb dX7_four_26 ?_
  refine lv_topi (fun z_10 ez_10 => ?_)
  obtain rfl : z_10 = 2 := ez_10.trans (by decide)
  refine va_put (D := (dC, dI)) (ci := 7) (v := .int 2) (ty := .int) (C := RX7) (T := TX7) (N := 39) hx hb hts in_X7_four_0_X7 tyX7 tyX7_ok nmX7 hown hK hP hD hS 0 rfl rfl 6 (by decide) (hts _ wd_X7_four_0_1) (fun _ h9 => h9) rfl (by decide +kernel) rfl rfl (Nat.le_of_ble_eq_true rfl) dX7_four_27 (fun H locs hP hD hS => ?_)
  have hP : va_P (dC, dI) vwCl [(h0, .inr (7, [.int 0, .ref m_width, .ref m_many, .ref m_cells, .ref m_moved, .ref m_tape, .int 2, .int 0, .int 0, .int 0, .int 0, .long 0, .int 0, .int 0, .int 0, .int (-1), .ref m_lines, .ref m_has, .ref m_state, .ref m_gate, .ref m_guest, .ref m_gone, .int 0, .ref m_isKept, .ref m_first, .ref m_second, .int 0, .ref m_far, .ref m_wished, .ref m_wasState, .ref m_isHere, .ref m_round, .ref m_bestRound, .int 0, .int 0, .long 0, .long 0, .ref m_taken, .int 0])), (m_tape, .inl (k_tape, 1600, .inl f_9))] H := hP
  have hD : va_D A [(h0, .inr (7, [.int 0, .ref m_width, .ref m_many, .ref m_cells, .ref m_moved, .ref m_tape, .int 2, .int 0, .int 0, .int 0, .int 0, .long 0, .int 0, .int 0, .int 0, .int (-1), .ref m_lines, .ref m_has, .ref m_state, .ref m_gate, .ref m_guest, .ref m_gone, .int 0, .ref m_isKept, .ref m_first, .ref m_second, .int 0, .ref m_far, .ref m_wished, .ref m_wasState, .ref m_isHere, .ref m_round, .ref m_bestRound, .int 0, .int 0, .long 0, .long 0, .ref m_taken, .int 0])), (m_tape, .inl (k_tape, 1600, .inl f_9))] := hD
  refine lv_iinc (v := 8) (lv' := [(2, .int 8), (0, .ref h0), (1, .int p0)]) hx hb dX7_four_30 hl (k := 0) rfl (by decide) (by decide) rfl (fun ls hl => ?_)
  refine lv_goto (tgt := 3) hx hb dX7_four_33 (by decide) ?_
  refine lv_iload_n hx hb dX7_four_3 rfl (lv_at hl 0 rfl) ?_
  refine lv_if_lt (tgt := 36) hx hb dX7_four_4 (by decide) (fun h => absurd h (by decide)) (fun _ => ?_)
  refine lv_aload_n hx hb dX7_four_7 rfl (lv_at hl 1 rfl) ?_
  refine va_get (D := (dC, dI)) (ci := 7) (v := .ref m_tape) (C := RX7) (T := TX7) (N := 39) hx hb hts in_X7_four_0_X7 hown hK hP 0 rfl rfl 5 (by decide) (hts _ wd_X7_four_0_0) (fun _ h9 => h9) rfl dX7_four_8 ?_
  refine lv_aload_n hx hb dX7_four_11 rfl (lv_at hl 1 rfl) ?_
  refine va_get (D := (dC, dI)) (ci := 7) (v := .int 2) (C := RX7) (T := TX7) (N := 39) hx hb hts in_X7_four_0_X7 hown hK hP 0 rfl rfl 6 (by decide) (hts _ wd_X7_four_0_1) (fun _ h9 => h9) rfl dX7_four_12 ?_
  refine lv_iload_n hx hb dX7_four_15 rfl (lv_at hl 2 rfl) ?_
  refine lv_iload_n hx hb dX7_four_16 rfl (lv_at hl 0 rfl) ?_
  refine lv_ishr hx hb dX7_four_17 ?_
  refine lv_topi (fun x_12 ex_12 => ?_)
  refine lv_i2b (v := x_12.toInt8.toInt32) hx hb dX7_four_18 rfl ?_
  refine lv_topi (fun x_13 ex_13 => ?_)
  refine va_bast hx hb hK hP hD hS 1 0 rfl rfl (vp_in_iff.mpr ⟨by decide, by decide⟩) dX7_four_19 (fun H locs hP hD hS => ?_)
  have hP : va_P (dC, dI) vwCl [(h0, .inr (7, [.int 0, .ref m_width, .ref m_many, .ref m_cells, .ref m_moved, .ref m_tape, .int 2, .int 0, .int 0, .int 0, .int 0, .long 0, .int 0, .int 0, .int 0, .int (-1), .ref m_lines, .ref m_has, .ref m_state, .ref m_gate, .ref m_guest, .ref m_gone, .int 0, .ref m_isKept, .ref m_first, .ref m_second, .int 0, .ref m_far, .ref m_wished, .ref m_wasState, .ref m_isHere, .ref m_round, .ref m_bestRound, .int 0, .int 0, .long 0, .long 0, .ref m_taken, .int 0])), (m_tape, .inl (k_tape, 1600, .inl (upd f_9 ((2 : Int32)).toNatClampNeg (vp_nar .byte x_13))))] H := hP
  have hD : va_D A [(h0, .inr (7, [.int 0, .ref m_width, .ref m_many, .ref m_cells, .ref m_moved, .ref m_tape, .int 2, .int 0, .int 0, .int 0, .int 0, .long 0, .int 0, .int 0, .int 0, .int (-1), .ref m_lines, .ref m_has, .ref m_state, .ref m_gate, .ref m_guest, .ref m_gone, .int 0, .ref m_isKept, .ref m_first, .ref m_second, .int 0, .ref m_far, .ref m_wished, .ref m_wasState, .ref m_isHere, .ref m_round, .ref m_bestRound, .int 0, .int 0, .long 0, .long 0, .ref m_taken, .int 0])), (m_tape, .inl (k_tape, 1600, .inl (upd f_9 ((2 : Int32)).toNatClampNeg (vp_nar .byte x_13))))] := hD
  obtain ⟨f_14, ef_14⟩ : ∃ g, g = upd f_9 ((2 : Int32)).toNatClampNeg (vp_nar .byte x_13) := ⟨_, rfl⟩
  rw [← ef_14] at hP hD
  refine lv_aload_n hx hb dX7_four_20 rfl (lv_at hl 1 rfl) ?_
  refine lv_dup hx hb dX7_four_21 rfl ?_
  refine va_get (D := (dC, dI)) (ci := 7) (v := .int 2) (C := RX7) (T := TX7) (N := 39) hx hb hts in_X7_four_0_X7 hown hK hP 0 rfl rfl 6 (by decide) (hts _ wd_X7_four_0_1) (fun _ h9 => h9) rfl dX7_four_22 ?_
  refine lv_iconst (v := 1) hx hb dX7_four_25 (by decide) ?_
  refine lv_iadd hx hb dX7_four_26 ?_
  refine lv_topi (fun z_15 ez_15 => ?_)
  obtain rfl : z_15 = 3 := ez_15.trans (by decide)
  refine va_put (D := (dC, dI)) (ci := 7) (v := .int 3) (ty := .int) (C := RX7) (T := TX7) (N := 39) hx hb hts in_X7_four_0_X7 tyX7 tyX7_ok nmX7 hown hK hP hD hS 0 rfl rfl 6 (by decide) (hts _ wd_X7_four_0_1) (fun _ h9 => h9) rfl (by decide +kernel) rfl rfl (Nat.le_of_ble_eq_true rfl) dX7_four_27 (fun H locs hP hD hS => ?_)
  have hP : va_P (dC, dI) vwCl [(h0, .inr (7, [.int 0, .ref m_width, .ref m_many, .ref m_cells, .ref m_moved, .ref m_tape, .int 3, .int 0, .int 0, .int 0, .int 0, .long 0, .int 0, .int 0, .int 0, .int (-1), .ref m_lines, .ref m_has, .ref m_state, .ref m_gate, .ref m_guest, .ref m_gone, .int 0, .ref m_isKept, .ref m_first, .ref m_second, .int 0, .ref m_far, .ref m_wished, .ref m_wasState, .ref m_isHere, .ref m_round, .ref m_bestRound, .int 0, .int 0, .long 0, .long 0, .ref m_taken, .int 0])), (m_tape, .inl (k_tape, 1600, .inl f_14))] H := hP
  have hD : va_D A [(h0, .inr (7, [.int 0, .ref m_width, .ref m_many, .ref m_cells, .ref m_moved, .ref m_tape, .int 3, .int 0, .int 0, .int 0, .int 0, .long 0, .int 0, .int 0, .int 0, .int (-1), .ref m_lines, .ref m_has, .ref m_state, .ref m_gate, .ref m_guest, .ref m_gone, .int 0, .ref m_isKept, .ref m_first, .ref m_second, .int 0, .ref m_far, .ref m_wished, .ref m_wasState, .ref m_isHere, .ref m_round, .ref m_bestRound, .int 0, .int 0, .long 0, .long 0, .ref m_taken, .int 0])), (m_tape, .inl (k_tape, 1600, .inl f_14))] := hD
  refine lv_iinc (v := 0) (lv' := [(2, .int 0), (0, .ref h0), (1, .int p0)]) hx hb dX7_four_30 hl (k := 0) rfl (by decide) (by decide) rfl (fun ls hl => ?_)
  refine lv_goto (tgt := 3) hx hb dX7_four_33 (by decide) ?_
  refine lv_iload_n hx hb dX7_four_3 rfl (lv_at hl 0 rfl) ?_
  refine lv_if_lt (tgt := 36) hx hb dX7_four_4 (by decide) (fun h => absurd h (by decide)) (fun _ => ?_)
  refine lv_aload_n hx hb dX7_four_7 rfl (lv_at hl 1 rfl) ?_
  refine va_get (D := (dC, dI)) (ci := 7) (v := .ref m_tape) (C := RX7) (T := TX7) (N := 39) hx hb hts in_X7_four_0_X7 hown hK hP 0 rfl rfl 5 (by decide) (hts _ wd_X7_four_0_0) (fun _ h9 => h9) rfl dX7_four_8 ?_
  refine lv_aload_n hx hb dX7_four_11 rfl (lv_at hl 1 rfl) ?_
  refine va_get (D := (dC, dI)) (ci := 7) (v := .int 3) (C := RX7) (T := TX7) (N := 39) hx hb hts in_X7_four_0_X7 hown hK hP 0 rfl rfl 6 (by decide) (hts _ wd_X7_four_0_1) (fun _ h9 => h9) rfl dX7_four_12 ?_
  refine lv_iload_n hx hb dX7_four_15 rfl (lv_at hl 2 rfl) ?_
  refine lv_iload_n hx hb dX7_four_16 rfl (lv_at hl 0 rfl) ?_
  refine lv_ishr hx hb dX7_four_17 ?_
  refine lv_topi (fun x_17 ex_17 => ?_)
  refine lv_i2b (v := x_17.toInt8.toInt32) hx hb dX7_four_18 rfl ?_
  refine lv_topi (fun x_18 ex_18 => ?_)
  refine va_bast hx hb hK hP hD hS 1 0 rfl rfl (vp_in_iff.mpr ⟨by decide, by decide⟩) dX7_four_19 (fun H locs hP hD hS => ?_)
  have hP : va_P (dC, dI) vwCl [(h0, .inr (7, [.int 0, .ref m_width, .ref m_many, .ref m_cells, .ref m_moved, .ref m_tape, .int 3, .int 0, .int 0, .int 0, .int 0, .long 0, .int 0, .int 0, .int 0, .int (-1), .ref m_lines, .ref m_has, .ref m_state, .ref m_gate, .ref m_guest, .ref m_gone, .int 0, .ref m_isKept, .ref m_first, .ref m_second, .int 0, .ref m_far, .ref m_wished, .ref m_wasState, .ref m_isHere, .ref m_round, .ref m_bestRound, .int 0, .int 0, .long 0, .long 0, .ref m_taken, .int 0])), (m_tape, .inl (k_tape, 1600, .inl (upd f_14 ((3 : Int32)).toNatClampNeg (vp_nar .byte x_18))))] H := hP
  have hD : va_D A [(h0, .inr (7, [.int 0, .ref m_width, .ref m_many, .ref m_cells, .ref m_moved, .ref m_tape, .int 3, .int 0, .int 0, .int 0, .int 0, .long 0, .int 0, .int 0, .int 0, .int (-1), .ref m_lines, .ref m_has, .ref m_state, .ref m_gate, .ref m_guest, .ref m_gone, .int 0, .ref m_isKept, .ref m_first, .ref m_second, .int 0, .ref m_far, .ref m_wished, .ref m_wasState, .ref m_isHere, .ref m_round, .ref m_bestRound, .int 0, .int 0, .long 0, .long 0, .ref m_taken, .int 0])), (m_tape, .inl (k_tape, 1600, .inl (upd f_14 ((3 : Int32)).toNatClampNeg (vp_nar .byte x_18))))] := hD
  obtain ⟨f_19, ef_19⟩ : ∃ g, g = upd f_14 ((3 : Int32)).toNatClampNeg (vp_nar .byte x_18) := ⟨_, rfl⟩
  rw [← ef_19] at hP hD
  refine lv_aload_n hx hb dX7_four_20 rfl (lv_at hl 1 rfl) ?_
  refine lv_dup hx hb dX7_four_21 rfl ?_
  refine va_get (D := (dC, dI)) (ci := 7) (v := .int 3) (C := RX7) (T := TX7) (N := 39) hx hb hts in_X7_four_0_X7 hown hK hP 0 rfl rfl 6 (by decide) (hts _ wd_X7_four_0_1) (fun _ h9 => h9) rfl dX7_four_22 ?_
  refine lv_iconst (v := 1) hx hb dX7_four_25 (by decide) ?_
  refine lv_iadd hx hb dX7_four_26 ?_
  refine lv_topi (fun z_20 ez_20 => ?_)
  obtain rfl : z_20 = 4 := ez_20.trans (by decide)
  refine va_put (D := (dC, dI)) (ci := 7) (v := .int 4) (ty := .int) (C := RX7) (T := TX7) (N := 39) hx hb hts in_X7_four_0_X7 tyX7 tyX7_ok nmX7 hown hK hP hD hS 0 rfl rfl 6 (by decide) (hts _ wd_X7_four_0_1) (fun _ h9 => h9) rfl (by decide +kernel) rfl rfl (Nat.le_of_ble_eq_true rfl) dX7_four_27 (fun H locs hP hD hS => ?_)
  have hP : va_P (dC, dI) vwCl [(h0, .inr (7, [.int 0, .ref m_width, .ref m_many, .ref m_cells, .ref m_moved, .ref m_tape, .int 4, .int 0, .int 0, .int 0, .int 0, .long 0, .int 0, .int 0, .int 0, .int (-1), .ref m_lines, .ref m_has, .ref m_state, .ref m_gate, .ref m_guest, .ref m_gone, .int 0, .ref m_isKept, .ref m_first, .ref m_second, .int 0, .ref m_far, .ref m_wished, .ref m_wasState, .ref m_isHere, .ref m_round, .ref m_bestRound, .int 0, .int 0, .long 0, .long 0, .ref m_taken, .int 0])), (m_tape, .inl (k_tape, 1600, .inl f_19))] H := hP
  have hD : va_D A [(h0, .inr (7, [.int 0, .ref m_width, .ref m_many, .ref m_cells, .ref m_moved, .ref m_tape, .int 4, .int 0, .int 0, .int 0, .int 0, .long 0, .int 0, .int 0, .int 0, .int (-1), .ref m_lines, .ref m_has, .ref m_state, .ref m_gate, .ref m_guest, .ref m_gone, .int 0, .ref m_isKept, .ref m_first, .ref m_second, .int 0, .ref m_far, .ref m_wished, .ref m_wasState, .ref m_isHere, .ref m_round, .ref m_bestRound, .int 0, .int 0, .long 0, .long 0, .ref m_taken, .int 0])), (m_tape, .inl (k_tape, 1600, .inl f_19))] := hD
  refine lv_iinc (v := -8) (lv' := [(2, .int (-8)), (0, .ref h0), (1, .int p0)]) hx hb dX7_four_30 hl (k := 0) rfl (by decide) (by decide) rfl (fun ls hl => ?_)
  refine lv_goto (tgt := 3) hx hb dX7_four_33 (by decide) ?_
  refine lv_iload_n hx hb dX7_four_3 rfl (lv_at hl 0 rfl) ?_
  refine lv_if_lt (tgt := 36) hx hb dX7_four_4 (by decide) (fun _ => ?_) (fun h => absurd (by decide) h)
  have hP9 := hP.sub (ws' := [(h0, .inr (7, [.int 0, .ref m_width, .ref m_many, .ref m_cells, .ref m_moved, .ref m_tape, .int 4, .int 0, .int 0, .int 0, .int 0, .long 0, .int 0, .int 0, .int 0, .int (-1), .ref m_lines, .ref m_has, .ref m_state, .ref m_gate, .ref m_guest, .ref m_gone, .int 0, .ref m_isKept, .ref m_first, .ref m_second, .int 0, .ref m_far, .ref m_wished, .ref m_wasState, .ref m_isHere, .ref m_round, .ref m_bestRound, .int 0, .int 0, .long 0, .long 0, .ref m_taken, .int 0])), (m_tape, .inl (k_tape, 1600, .inl f_19))]) [0, 1] rfl
  have hD9 := hD.sub (ws' := [(h0, .inr (7, [.int 0, .ref m_width, .ref m_many, .ref m_cells, .ref m_moved, .ref m_tape, .int 4, .int 0, .int 0, .int 0, .int 0, .long 0, .int 0, .int 0, .int 0, .int (-1), .ref m_lines, .ref m_has, .ref m_state, .ref m_gate, .ref m_guest, .ref m_gone, .int 0, .ref m_isKept, .ref m_first, .ref m_second, .int 0, .ref m_far, .ref m_wished, .ref m_wasState, .ref m_isHere, .ref m_round, .ref m_bestRound, .int 0, .int 0, .long 0, .long 0, .ref m_taken, .int 0])), (m_tape, .inl (k_tape, 1600, .inl f_19))]) [0, 1] (by decide) rfl
  have hK9 := hK.sub (tys' := []) [] rfl
  refine W.widen (k := 0) (n := 0) (by omega) (by omega) ?_
  exact W.vret hx hb hr (fun t ht hW => ⟨⟨(f_19), rfl, trivial, by rw [ht]; exact hP9, va_K.moved hW.alike hK9, hD9⟩, hS.F ht⟩) hS.2.2 dX7_four_36

def wz_X7_four_4 : List Cond := .code yX7_four cX7_four 3 none :: ([Cond.fieldLink RX7 23 "HedgeMazeModel" "tape" "[B", Cond.fieldLink RX7 97 "HedgeMazeModel" "taped" "I"] ++ wsX70)
theorem wd_X7_four_4_0 : Cond.fieldLink RX7 23 "HedgeMazeModel" "tape" "[B" ∈ wz_X7_four_4 := List.mem_of_getElem? (i := 1) rfl
theorem wd_X7_four_4_1 : Cond.fieldLink RX7 97 "HedgeMazeModel" "taped" "I" ∈ wz_X7_four_4 := List.mem_of_getElem? (i := 2) rfl
theorem in_X7_four_4_X7 : ∀ w ∈ wsX70, w ∈ wz_X7_four_4 := fun _ h => List.mem_cons_of_mem _ (List.mem_append_right _ h)
set_option maxHeartbeats 4000000 in
set_option maxRecDepth 100000 in
theorem c_X7_four_4 (l : Launch) (dC : Nat → ClassId) (dI : Nat → Nat → Nat) (sz : Nat) (h0 : Nat) (m_width : Nat) (m_many : Nat) (m_cells : Nat) (m_moved : Nat) (m_tape : Nat) (m_lines : Nat) (m_has : Nat) (m_state : Nat) (m_gate : Nat) (m_guest : Nat) (m_gone : Nat) (m_isKept : Nat) (m_first : Nat) (m_second : Nat) (m_far : Nat) (m_wished : Nat) (m_wasState : Nat) (m_isHere : Nat) (m_round : Nat) (m_bestRound : Nat) (m_taken : Nat) (k_tape : ClassId) (ft : Nat → Int32) (p0 : Int32)  : Met l yX7_four wz_X7_four_4 ({ frames := 0, cells := 0, slots := 0, locals := 0 }) (va_Pc [.ref h0, .int p0] (fun U => U.heap.size = sz ∧ va_P (dC, dI) vwCl [(h0, .inr (7, [.int 0, .ref m_width, .ref m_many, .ref m_cells, .ref m_moved, .ref m_tape, .int 4, .int 0, .int 0, .int 0, .int 0, .long 0, .int 0, .int 0, .int 0, .int (-1), .ref m_lines, .ref m_has, .ref m_state, .ref m_gate, .ref m_guest, .ref m_gone, .int 0, .ref m_isKept, .ref m_first, .ref m_second, .int 0, .ref m_far, .ref m_wished, .ref m_wasState, .ref m_isHere, .ref m_round, .ref m_bestRound, .int 0, .int 0, .long 0, .long 0, .ref m_taken, .int 0])), (m_tape, .inl (k_tape, 1600, .inl ft))] U.heap ∧ va_K (dC, dI) vwCl [(k_tape, .byte)] U ∧ va_D (fun _ => True) [(h0, .inr (7, [.int 0, .ref m_width, .ref m_many, .ref m_cells, .ref m_moved, .ref m_tape, .int 4, .int 0, .int 0, .int 0, .int 0, .long 0, .int 0, .int 0, .int 0, .int (-1), .ref m_lines, .ref m_has, .ref m_state, .ref m_gate, .ref m_guest, .ref m_gone, .int 0, .ref m_isKept, .ref m_first, .ref m_second, .int 0, .ref m_far, .ref m_wished, .ref m_wasState, .ref m_isHere, .ref m_round, .ref m_bestRound, .int 0, .int 0, .long 0, .long 0, .ref m_taken, .int 0])), (m_tape, .inl (k_tape, 1600, .inl ft))])) (va_Qv (fun (u : (Nat → Int32)) => True) (fun (u : (Nat → Int32)) (t : State) => va_P (dC, dI) vwCl [(h0, .inr (7, [.int 0, .ref m_width, .ref m_many, .ref m_cells, .ref m_moved, .ref m_tape, .int 8, .int 0, .int 0, .int 0, .int 0, .long 0, .int 0, .int 0, .int 0, .int (-1), .ref m_lines, .ref m_has, .ref m_state, .ref m_gate, .ref m_guest, .ref m_gone, .int 0, .ref m_isKept, .ref m_first, .ref m_second, .int 0, .ref m_far, .ref m_wished, .ref m_wasState, .ref m_isHere, .ref m_round, .ref m_bestRound, .int 0, .int 0, .long 0, .long 0, .ref m_taken, .int 0])), (m_tape, .inl (k_tape, 1600, .inl u))] t.heap ∧ va_K (dC, dI) vwCl [] t ∧ va_D (va_A [(h0, .inr (7, [.int 0, .ref m_width, .ref m_many, .ref m_cells, .ref m_moved, .ref m_tape, .int 4, .int 0, .int 0, .int 0, .int 0, .long 0, .int 0, .int 0, .int 0, .int (-1), .ref m_lines, .ref m_has, .ref m_state, .ref m_gate, .ref m_guest, .ref m_gone, .int 0, .ref m_isKept, .ref m_first, .ref m_second, .int 0, .ref m_far, .ref m_wished, .ref m_wasState, .ref m_isHere, .ref m_round, .ref m_bestRound, .int 0, .int 0, .long 0, .long 0, .ref m_taken, .int 0])), (m_tape, .inl (k_tape, 1600, .inl ft))] sz) [(h0, .inr (7, [.int 0, .ref m_width, .ref m_many, .ref m_cells, .ref m_moved, .ref m_tape, .int 8, .int 0, .int 0, .int 0, .int 0, .long 0, .int 0, .int 0, .int 0, .int (-1), .ref m_lines, .ref m_has, .ref m_state, .ref m_gate, .ref m_guest, .ref m_gone, .int 0, .ref m_isKept, .ref m_first, .ref m_second, .int 0, .ref m_far, .ref m_wished, .ref m_wasState, .ref m_isHere, .ref m_round, .ref m_bestRound, .int 0, .int 0, .long 0, .long 0, .ref m_taken, .int 0])), (m_tape, .inl (k_tape, 1600, .inl u))]) (va_A [(h0, .inr (7, [.int 0, .ref m_width, .ref m_many, .ref m_cells, .ref m_moved, .ref m_tape, .int 4, .int 0, .int 0, .int 0, .int 0, .long 0, .int 0, .int 0, .int 0, .int (-1), .ref m_lines, .ref m_has, .ref m_state, .ref m_gate, .ref m_guest, .ref m_gone, .int 0, .ref m_isKept, .ref m_first, .ref m_second, .int 0, .ref m_far, .ref m_wished, .ref m_wasState, .ref m_isHere, .ref m_round, .ref m_bestRound, .int 0, .int 0, .long 0, .long 0, .ref m_taken, .int 0])), (m_tape, .inl (k_tape, 1600, .inl ft))] sz)) 0 0 (va_A [(h0, .inr (7, [.int 0, .ref m_width, .ref m_many, .ref m_cells, .ref m_moved, .ref m_tape, .int 4, .int 0, .int 0, .int 0, .int 0, .long 0, .int 0, .int 0, .int 0, .int (-1), .ref m_lines, .ref m_has, .ref m_state, .ref m_gate, .ref m_guest, .ref m_gone, .int 0, .ref m_isKept, .ref m_first, .ref m_second, .int 0, .ref m_far, .ref m_wished, .ref m_wasState, .ref m_isHere, .ref m_round, .ref m_bestRound, .int 0, .int 0, .long 0, .long 0, .ref m_taken, .int 0])), (m_tape, .inl (k_tape, 1600, .inl ft))] sz) := by
  refine Met.ofW (cc := cX7_four) (maxL := 3) (ret := none) (by decide) rfl ?_
  intro p e s m args below meth c s₁ B hml hv
  obtain ⟨rfl, hsz, hP, hK, hD0⟩ := hv
  have hx := B.exec
  have hb := B.bytes
  have hr := B.returns
  have hts := atoms_spec (ws := wz_X7_four_4) B.pre
  have hown : s.vm.findClass RX7 = some m.cls := findClass_of_methodNamed B.named
  have hlocks := B.notSynchronized
  subst hsz
  have hD := hD0.self (sz := s.heap.size)
  generalize hAe : va_A [(h0, .inr (7, [.int 0, .ref m_width, .ref m_many, .ref m_cells, .ref m_moved, .ref m_tape, .int 4, .int 0, .int 0, .int 0, .int 0, .long 0, .int 0, .int 0, .int 0, .int (-1), .ref m_lines, .ref m_has, .ref m_state, .ref m_gate, .ref m_guest, .ref m_gone, .int 0, .ref m_isKept, .ref m_first, .ref m_second, .int 0, .ref m_far, .ref m_wished, .ref m_wasState, .ref m_isHere, .ref m_round, .ref m_bestRound, .int 0, .int 0, .long 0, .long 0, .ref m_taken, .int 0])), (m_tape, .inl (k_tape, 1600, .inl ft))] s.heap.size = A at hD ⊢
  have hA : ∀ q : Nat, s.heap.size ≤ q → A q := fun q h => by rw [← hAe]; exact Or.inr h
  have hS : va_S A s.heap s.heap [] := va_S.rf
  have hP : va_P (dC, dI) vwCl [(h0, .inr (7, [.int 0, .ref m_width, .ref m_many, .ref m_cells, .ref m_moved, .ref m_tape, .int 4, .int 0, .int 0, .int 0, .int 0, .long 0, .int 0, .int 0, .int 0, .int (-1), .ref m_lines, .ref m_has, .ref m_state, .ref m_gate, .ref m_guest, .ref m_gone, .int 0, .ref m_isKept, .ref m_first, .ref m_second, .int 0, .ref m_far, .ref m_wished, .ref m_wasState, .ref m_isHere, .ref m_round, .ref m_bestRound, .int 0, .int 0, .long 0, .long 0, .ref m_taken, .int 0])), (m_tape, .inl (k_tape, 1600, .inl ft))] s.heap := hP
  have hl := lv_entry ([.ref h0, .int p0]) (n := 3) (Nat.le_of_ble_eq_true rfl)
  rw [lg_entry_eq]
  generalize (lg_sl ([.ref h0, .int p0]) ++ List.replicate (3 - (lg_sl ([.ref h0, .int p0])).length) Slot.unset).toArray = ls at hl ⊢
  have hl : lv_has ls 3 [(0, .ref h0), (1, .int p0)] := hl
  refine lv_bipush (v := 24) hx hb dX7_four_0 (by decide) ?_
  refine lv_istore_n (lv' := [(2, .int 24), (0, .ref h0), (1, .int p0)]) hx hb dX7_four_2 rfl hl (by decide) rfl (fun ls hl => ?_)
  refine lv_iload_n hx hb dX7_four_3 rfl (lv_at hl 0 rfl) ?_
  refine lv_if_lt (tgt := 36) hx hb dX7_four_4 (by decide) (fun h => absurd h (by decide)) (fun _ => ?_)
  refine lv_aload_n hx hb dX7_four_7 rfl (lv_at hl 1 rfl) ?_
  refine va_get (D := (dC, dI)) (ci := 7) (v := .ref m_tape) (C := RX7) (T := TX7) (N := 39) hx hb hts in_X7_four_4_X7 hown hK hP 0 rfl rfl 5 (by decide) (hts _ wd_X7_four_4_0) (fun _ h9 => h9) rfl dX7_four_8 ?_
  refine lv_aload_n hx hb dX7_four_11 rfl (lv_at hl 1 rfl) ?_
  refine va_get (D := (dC, dI)) (ci := 7) (v := .int 4) (C := RX7) (T := TX7) (N := 39) hx hb hts in_X7_four_4_X7 hown hK hP 0 rfl rfl 6 (by decide) (hts _ wd_X7_four_4_1) (fun _ h9 => h9) rfl dX7_four_12 ?_
  refine lv_iload_n hx hb dX7_four_15 rfl (lv_at hl 2 rfl) ?_
  refine lv_iload_n hx hb dX7_four_16 rfl (lv_at hl 0 rfl) ?_
  refine lv_ishr hx hb dX7_four_17 ?_
  refine lv_topi (fun x_2 ex_2 => ?_)
  refine lv_i2b (v := x_2.toInt8.toInt32) hx hb dX7_four_18 rfl ?_
  refine lv_topi (fun x_3 ex_3 => ?_)
  refine va_bast hx hb hK hP hD hS 1 0 rfl rfl (vp_in_iff.mpr ⟨by decide, by decide⟩) dX7_four_19 (fun H locs hP hD hS => ?_)
  have hP : va_P (dC, dI) vwCl [(h0, .inr (7, [.int 0, .ref m_width, .ref m_many, .ref m_cells, .ref m_moved, .ref m_tape, .int 4, .int 0, .int 0, .int 0, .int 0, .long 0, .int 0, .int 0, .int 0, .int (-1), .ref m_lines, .ref m_has, .ref m_state, .ref m_gate, .ref m_guest, .ref m_gone, .int 0, .ref m_isKept, .ref m_first, .ref m_second, .int 0, .ref m_far, .ref m_wished, .ref m_wasState, .ref m_isHere, .ref m_round, .ref m_bestRound, .int 0, .int 0, .long 0, .long 0, .ref m_taken, .int 0])), (m_tape, .inl (k_tape, 1600, .inl (upd ft ((4 : Int32)).toNatClampNeg (vp_nar .byte x_3))))] H := hP
  have hD : va_D A [(h0, .inr (7, [.int 0, .ref m_width, .ref m_many, .ref m_cells, .ref m_moved, .ref m_tape, .int 4, .int 0, .int 0, .int 0, .int 0, .long 0, .int 0, .int 0, .int 0, .int (-1), .ref m_lines, .ref m_has, .ref m_state, .ref m_gate, .ref m_guest, .ref m_gone, .int 0, .ref m_isKept, .ref m_first, .ref m_second, .int 0, .ref m_far, .ref m_wished, .ref m_wasState, .ref m_isHere, .ref m_round, .ref m_bestRound, .int 0, .int 0, .long 0, .long 0, .ref m_taken, .int 0])), (m_tape, .inl (k_tape, 1600, .inl (upd ft ((4 : Int32)).toNatClampNeg (vp_nar .byte x_3))))] := hD
  obtain ⟨f_4, ef_4⟩ : ∃ g, g = upd ft ((4 : Int32)).toNatClampNeg (vp_nar .byte x_3) := ⟨_, rfl⟩
  rw [← ef_4] at hP hD
  refine lv_aload_n hx hb dX7_four_20 rfl (lv_at hl 1 rfl) ?_
  refine lv_dup hx hb dX7_four_21 rfl ?_
  refine va_get (D := (dC, dI)) (ci := 7) (v := .int 4) (C := RX7) (T := TX7) (N := 39) hx hb hts in_X7_four_4_X7 hown hK hP 0 rfl rfl 6 (by decide) (hts _ wd_X7_four_4_1) (fun _ h9 => h9) rfl dX7_four_22 ?_
  refine lv_iconst (v := 1) hx hb dX7_four_25 (by decide) ?_
  refine lv_iadd hx hb dX7_four_26 ?_
  refine lv_topi (fun z_5 ez_5 => ?_)
  obtain rfl : z_5 = 5 := ez_5.trans (by decide)
  refine va_put (D := (dC, dI)) (ci := 7) (v := .int 5) (ty := .int) (C := RX7) (T := TX7) (N := 39) hx hb hts in_X7_four_4_X7 tyX7 tyX7_ok nmX7 hown hK hP hD hS 0 rfl rfl 6 (by decide) (hts _ wd_X7_four_4_1) (fun _ h9 => h9) rfl (by decide +kernel) rfl rfl (Nat.le_of_ble_eq_true rfl) dX7_four_27 (fun H locs hP hD hS => ?_)
  have hP : va_P (dC, dI) vwCl [(h0, .inr (7, [.int 0, .ref m_width, .ref m_many, .ref m_cells, .ref m_moved, .ref m_tape, .int 5, .int 0, .int 0, .int 0, .int 0, .long 0, .int 0, .int 0, .int 0, .int (-1), .ref m_lines, .ref m_has, .ref m_state, .ref m_gate, .ref m_guest, .ref m_gone, .int 0, .ref m_isKept, .ref m_first, .ref m_second, .int 0, .ref m_far, .ref m_wished, .ref m_wasState, .ref m_isHere, .ref m_round, .ref m_bestRound, .int 0, .int 0, .long 0, .long 0, .ref m_taken, .int 0])), (m_tape, .inl (k_tape, 1600, .inl f_4))] H := hP
  have hD : va_D A [(h0, .inr (7, [.int 0, .ref m_width, .ref m_many, .ref m_cells, .ref m_moved, .ref m_tape, .int 5, .int 0, .int 0, .int 0, .int 0, .long 0, .int 0, .int 0, .int 0, .int (-1), .ref m_lines, .ref m_has, .ref m_state, .ref m_gate, .ref m_guest, .ref m_gone, .int 0, .ref m_isKept, .ref m_first, .ref m_second, .int 0, .ref m_far, .ref m_wished, .ref m_wasState, .ref m_isHere, .ref m_round, .ref m_bestRound, .int 0, .int 0, .long 0, .long 0, .ref m_taken, .int 0])), (m_tape, .inl (k_tape, 1600, .inl f_4))] := hD
  refine lv_iinc (v := 16) (lv' := [(2, .int 16), (0, .ref h0), (1, .int p0)]) hx hb dX7_four_30 hl (k := 0) rfl (by decide) (by decide) rfl (fun ls hl => ?_)
  refine lv_goto (tgt := 3) hx hb dX7_four_33 (by decide) ?_
  refine lv_iload_n hx hb dX7_four_3 rfl (lv_at hl 0 rfl) ?_
  refine lv_if_lt (tgt := 36) hx hb dX7_four_4 (by decide) (fun h => absurd h (by decide)) (fun _ => ?_)
  refine lv_aload_n hx hb dX7_four_7 rfl (lv_at hl 1 rfl) ?_
  refine va_get (D := (dC, dI)) (ci := 7) (v := .ref m_tape) (C := RX7) (T := TX7) (N := 39) hx hb hts in_X7_four_4_X7 hown hK hP 0 rfl rfl 5 (by decide) (hts _ wd_X7_four_4_0) (fun _ h9 => h9) rfl dX7_four_8 ?_
  refine lv_aload_n hx hb dX7_four_11 rfl (lv_at hl 1 rfl) ?_
  refine va_get (D := (dC, dI)) (ci := 7) (v := .int 5) (C := RX7) (T := TX7) (N := 39) hx hb hts in_X7_four_4_X7 hown hK hP 0 rfl rfl 6 (by decide) (hts _ wd_X7_four_4_1) (fun _ h9 => h9) rfl dX7_four_12 ?_
  refine lv_iload_n hx hb dX7_four_15 rfl (lv_at hl 2 rfl) ?_
  refine lv_iload_n hx hb dX7_four_16 rfl (lv_at hl 0 rfl) ?_
  refine lv_ishr hx hb dX7_four_17 ?_
  refine lv_topi (fun x_7 ex_7 => ?_)
  refine lv_i2b (v := x_7.toInt8.toInt32) hx hb dX7_four_18 rfl ?_
  refine lv_topi (fun x_8 ex_8 => ?_)
  refine va_bast hx hb hK hP hD hS 1 0 rfl rfl (vp_in_iff.mpr ⟨by decide, by decide⟩) dX7_four_19 (fun H locs hP hD hS => ?_)
  have hP : va_P (dC, dI) vwCl [(h0, .inr (7, [.int 0, .ref m_width, .ref m_many, .ref m_cells, .ref m_moved, .ref m_tape, .int 5, .int 0, .int 0, .int 0, .int 0, .long 0, .int 0, .int 0, .int 0, .int (-1), .ref m_lines, .ref m_has, .ref m_state, .ref m_gate, .ref m_guest, .ref m_gone, .int 0, .ref m_isKept, .ref m_first, .ref m_second, .int 0, .ref m_far, .ref m_wished, .ref m_wasState, .ref m_isHere, .ref m_round, .ref m_bestRound, .int 0, .int 0, .long 0, .long 0, .ref m_taken, .int 0])), (m_tape, .inl (k_tape, 1600, .inl (upd f_4 ((5 : Int32)).toNatClampNeg (vp_nar .byte x_8))))] H := hP
  have hD : va_D A [(h0, .inr (7, [.int 0, .ref m_width, .ref m_many, .ref m_cells, .ref m_moved, .ref m_tape, .int 5, .int 0, .int 0, .int 0, .int 0, .long 0, .int 0, .int 0, .int 0, .int (-1), .ref m_lines, .ref m_has, .ref m_state, .ref m_gate, .ref m_guest, .ref m_gone, .int 0, .ref m_isKept, .ref m_first, .ref m_second, .int 0, .ref m_far, .ref m_wished, .ref m_wasState, .ref m_isHere, .ref m_round, .ref m_bestRound, .int 0, .int 0, .long 0, .long 0, .ref m_taken, .int 0])), (m_tape, .inl (k_tape, 1600, .inl (upd f_4 ((5 : Int32)).toNatClampNeg (vp_nar .byte x_8))))] := hD
  obtain ⟨f_9, ef_9⟩ : ∃ g, g = upd f_4 ((5 : Int32)).toNatClampNeg (vp_nar .byte x_8) := ⟨_, rfl⟩
  rw [← ef_9] at hP hD
  refine lv_aload_n hx hb dX7_four_20 rfl (lv_at hl 1 rfl) ?_
  refine lv_dup hx hb dX7_four_21 rfl ?_
  refine va_get (D := (dC, dI)) (ci := 7) (v := .int 5) (C := RX7) (T := TX7) (N := 39) hx hb hts in_X7_four_4_X7 hown hK hP 0 rfl rfl 6 (by decide) (hts _ wd_X7_four_4_1) (fun _ h9 => h9) rfl dX7_four_22 ?_
  refine lv_iconst (v := 1) hx hb dX7_four_25 (by decide) ?_
  refine lv_iadd hx hb dX7_four_26 ?_
  refine lv_topi (fun z_10 ez_10 => ?_)
  obtain rfl : z_10 = 6 := ez_10.trans (by decide)
  refine va_put (D := (dC, dI)) (ci := 7) (v := .int 6) (ty := .int) (C := RX7) (T := TX7) (N := 39) hx hb hts in_X7_four_4_X7 tyX7 tyX7_ok nmX7 hown hK hP hD hS 0 rfl rfl 6 (by decide) (hts _ wd_X7_four_4_1) (fun _ h9 => h9) rfl (by decide +kernel) rfl rfl (Nat.le_of_ble_eq_true rfl) dX7_four_27 (fun H locs hP hD hS => ?_)
  have hP : va_P (dC, dI) vwCl [(h0, .inr (7, [.int 0, .ref m_width, .ref m_many, .ref m_cells, .ref m_moved, .ref m_tape, .int 6, .int 0, .int 0, .int 0, .int 0, .long 0, .int 0, .int 0, .int 0, .int (-1), .ref m_lines, .ref m_has, .ref m_state, .ref m_gate, .ref m_guest, .ref m_gone, .int 0, .ref m_isKept, .ref m_first, .ref m_second, .int 0, .ref m_far, .ref m_wished, .ref m_wasState, .ref m_isHere, .ref m_round, .ref m_bestRound, .int 0, .int 0, .long 0, .long 0, .ref m_taken, .int 0])), (m_tape, .inl (k_tape, 1600, .inl f_9))] H := hP
  have hD : va_D A [(h0, .inr (7, [.int 0, .ref m_width, .ref m_many, .ref m_cells, .ref m_moved, .ref m_tape, .int 6, .int 0, .int 0, .int 0, .int 0, .long 0, .int 0, .int 0, .int 0, .int (-1), .ref m_lines, .ref m_has, .ref m_state, .ref m_gate, .ref m_guest, .ref m_gone, .int 0, .ref m_isKept, .ref m_first, .ref m_second, .int 0, .ref m_far, .ref m_wished, .ref m_wasState, .ref m_isHere, .ref m_round, .ref m_bestRound, .int 0, .int 0, .long 0, .long 0, .ref m_taken, .int 0])), (m_tape, .inl (k_tape, 1600, .inl f_9))] := hD
  refine lv_iinc (v := 8) (lv' := [(2, .int 8), (0, .ref h0), (1, .int p0)]) hx hb dX7_four_30 hl (k := 0) rfl (by decide) (by decide) rfl (fun ls hl => ?_)
  refine lv_goto (tgt := 3) hx hb dX7_four_33 (by decide) ?_
  refine lv_iload_n hx hb dX7_four_3 rfl (lv_at hl 0 rfl) ?_
  refine lv_if_lt (tgt := 36) hx hb dX7_four_4 (by decide) (fun h => absurd h (by decide)) (fun _ => ?_)
  refine lv_aload_n hx hb dX7_four_7 rfl (lv_at hl 1 rfl) ?_
  refine va_get (D := (dC, dI)) (ci := 7) (v := .ref m_tape) (C := RX7) (T := TX7) (N := 39) hx hb hts in_X7_four_4_X7 hown hK hP 0 rfl rfl 5 (by decide) (hts _ wd_X7_four_4_0) (fun _ h9 => h9) rfl dX7_four_8 ?_
  refine lv_aload_n hx hb dX7_four_11 rfl (lv_at hl 1 rfl) ?_
  refine va_get (D := (dC, dI)) (ci := 7) (v := .int 6) (C := RX7) (T := TX7) (N := 39) hx hb hts in_X7_four_4_X7 hown hK hP 0 rfl rfl 6 (by decide) (hts _ wd_X7_four_4_1) (fun _ h9 => h9) rfl dX7_four_12 ?_
  refine lv_iload_n hx hb dX7_four_15 rfl (lv_at hl 2 rfl) ?_
  refine lv_iload_n hx hb dX7_four_16 rfl (lv_at hl 0 rfl) ?_
  refine lv_ishr hx hb dX7_four_17 ?_
  refine lv_topi (fun x_12 ex_12 => ?_)
  refine lv_i2b (v := x_12.toInt8.toInt32) hx hb dX7_four_18 rfl ?_
  refine lv_topi (fun x_13 ex_13 => ?_)
  refine va_bast hx hb hK hP hD hS 1 0 rfl rfl (vp_in_iff.mpr ⟨by decide, by decide⟩) dX7_four_19 (fun H locs hP hD hS => ?_)
  have hP : va_P (dC, dI) vwCl [(h0, .inr (7, [.int 0, .ref m_width, .ref m_many, .ref m_cells, .ref m_moved, .ref m_tape, .int 6, .int 0, .int 0, .int 0, .int 0, .long 0, .int 0, .int 0, .int 0, .int (-1), .ref m_lines, .ref m_has, .ref m_state, .ref m_gate, .ref m_guest, .ref m_gone, .int 0, .ref m_isKept, .ref m_first, .ref m_second, .int 0, .ref m_far, .ref m_wished, .ref m_wasState, .ref m_isHere, .ref m_round, .ref m_bestRound, .int 0, .int 0, .long 0, .long 0, .ref m_taken, .int 0])), (m_tape, .inl (k_tape, 1600, .inl (upd f_9 ((6 : Int32)).toNatClampNeg (vp_nar .byte x_13))))] H := hP
  have hD : va_D A [(h0, .inr (7, [.int 0, .ref m_width, .ref m_many, .ref m_cells, .ref m_moved, .ref m_tape, .int 6, .int 0, .int 0, .int 0, .int 0, .long 0, .int 0, .int 0, .int 0, .int (-1), .ref m_lines, .ref m_has, .ref m_state, .ref m_gate, .ref m_guest, .ref m_gone, .int 0, .ref m_isKept, .ref m_first, .ref m_second, .int 0, .ref m_far, .ref m_wished, .ref m_wasState, .ref m_isHere, .ref m_round, .ref m_bestRound, .int 0, .int 0, .long 0, .long 0, .ref m_taken, .int 0])), (m_tape, .inl (k_tape, 1600, .inl (upd f_9 ((6 : Int32)).toNatClampNeg (vp_nar .byte x_13))))] := hD
  obtain ⟨f_14, ef_14⟩ : ∃ g, g = upd f_9 ((6 : Int32)).toNatClampNeg (vp_nar .byte x_13) := ⟨_, rfl⟩
  rw [← ef_14] at hP hD
  refine lv_aload_n hx hb dX7_four_20 rfl (lv_at hl 1 rfl) ?_
  refine lv_dup hx hb dX7_four_21 rfl ?_
  refine va_get (D := (dC, dI)) (ci := 7) (v := .int 6) (C := RX7) (T := TX7) (N := 39) hx hb hts in_X7_four_4_X7 hown hK hP 0 rfl rfl 6 (by decide) (hts _ wd_X7_four_4_1) (fun _ h9 => h9) rfl dX7_four_22 ?_
  refine lv_iconst (v := 1) hx hb dX7_four_25 (by decide) ?_
  refine lv_iadd hx hb dX7_four_26 ?_
  refine lv_topi (fun z_15 ez_15 => ?_)
  obtain rfl : z_15 = 7 := ez_15.trans (by decide)
  refine va_put (D := (dC, dI)) (ci := 7) (v := .int 7) (ty := .int) (C := RX7) (T := TX7) (N := 39) hx hb hts in_X7_four_4_X7 tyX7 tyX7_ok nmX7 hown hK hP hD hS 0 rfl rfl 6 (by decide) (hts _ wd_X7_four_4_1) (fun _ h9 => h9) rfl (by decide +kernel) rfl rfl (Nat.le_of_ble_eq_true rfl) dX7_four_27 (fun H locs hP hD hS => ?_)
  have hP : va_P (dC, dI) vwCl [(h0, .inr (7, [.int 0, .ref m_width, .ref m_many, .ref m_cells, .ref m_moved, .ref m_tape, .int 7, .int 0, .int 0, .int 0, .int 0, .long 0, .int 0, .int 0, .int 0, .int (-1), .ref m_lines, .ref m_has, .ref m_state, .ref m_gate, .ref m_guest, .ref m_gone, .int 0, .ref m_isKept, .ref m_first, .ref m_second, .int 0, .ref m_far, .ref m_wished, .ref m_wasState, .ref m_isHere, .ref m_round, .ref m_bestRound, .int 0, .int 0, .long 0, .long 0, .ref m_taken, .int 0])), (m_tape, .inl (k_tape, 1600, .inl f_14))] H := hP
  have hD : va_D A [(h0, .inr (7, [.int 0, .ref m_width, .ref m_many, .ref m_cells, .ref m_moved, .ref m_tape, .int 7, .int 0, .int 0, .int 0, .int 0, .long 0, .int 0, .int 0, .int 0, .int (-1), .ref m_lines, .ref m_has, .ref m_state, .ref m_gate, .ref m_guest, .ref m_gone, .int 0, .ref m_isKept, .ref m_first, .ref m_second, .int 0, .ref m_far, .ref m_wished, .ref m_wasState, .ref m_isHere, .ref m_round, .ref m_bestRound, .int 0, .int 0, .long 0, .long 0, .ref m_taken, .int 0])), (m_tape, .inl (k_tape, 1600, .inl f_14))] := hD
  refine lv_iinc (v := 0) (lv' := [(2, .int 0), (0, .ref h0), (1, .int p0)]) hx hb dX7_four_30 hl (k := 0) rfl (by decide) (by decide) rfl (fun ls hl => ?_)
  refine lv_goto (tgt := 3) hx hb dX7_four_33 (by decide) ?_
  refine lv_iload_n hx hb dX7_four_3 rfl (lv_at hl 0 rfl) ?_
  refine lv_if_lt (tgt := 36) hx hb dX7_four_4 (by decide) (fun h => absurd h (by decide)) (fun _ => ?_)
  refine lv_aload_n hx hb dX7_four_7 rfl (lv_at hl 1 rfl) ?_
  refine va_get (D := (dC, dI)) (ci := 7) (v := .ref m_tape) (C := RX7) (T := TX7) (N := 39) hx hb hts in_X7_four_4_X7 hown hK hP 0 rfl rfl 5 (by decide) (hts _ wd_X7_four_4_0) (fun _ h9 => h9) rfl dX7_four_8 ?_
  refine lv_aload_n hx hb dX7_four_11 rfl (lv_at hl 1 rfl) ?_
  refine va_get (D := (dC, dI)) (ci := 7) (v := .int 7) (C := RX7) (T := TX7) (N := 39) hx hb hts in_X7_four_4_X7 hown hK hP 0 rfl rfl 6 (by decide) (hts _ wd_X7_four_4_1) (fun _ h9 => h9) rfl dX7_four_12 ?_
  refine lv_iload_n hx hb dX7_four_15 rfl (lv_at hl 2 rfl) ?_
  refine lv_iload_n hx hb dX7_four_16 rfl (lv_at hl 0 rfl) ?_
  refine lv_ishr hx hb dX7_four_17 ?_
  refine lv_topi (fun x_17 ex_17 => ?_)
  refine lv_i2b (v := x_17.toInt8.toInt32) hx hb dX7_four_18 rfl ?_
  refine lv_topi (fun x_18 ex_18 => ?_)
  refine va_bast hx hb hK hP hD hS 1 0 rfl rfl (vp_in_iff.mpr ⟨by decide, by decide⟩) dX7_four_19 (fun H locs hP hD hS => ?_)
  have hP : va_P (dC, dI) vwCl [(h0, .inr (7, [.int 0, .ref m_width, .ref m_many, .ref m_cells, .ref m_moved, .ref m_tape, .int 7, .int 0, .int 0, .int 0, .int 0, .long 0, .int 0, .int 0, .int 0, .int (-1), .ref m_lines, .ref m_has, .ref m_state, .ref m_gate, .ref m_guest, .ref m_gone, .int 0, .ref m_isKept, .ref m_first, .ref m_second, .int 0, .ref m_far, .ref m_wished, .ref m_wasState, .ref m_isHere, .ref m_round, .ref m_bestRound, .int 0, .int 0, .long 0, .long 0, .ref m_taken, .int 0])), (m_tape, .inl (k_tape, 1600, .inl (upd f_14 ((7 : Int32)).toNatClampNeg (vp_nar .byte x_18))))] H := hP
  have hD : va_D A [(h0, .inr (7, [.int 0, .ref m_width, .ref m_many, .ref m_cells, .ref m_moved, .ref m_tape, .int 7, .int 0, .int 0, .int 0, .int 0, .long 0, .int 0, .int 0, .int 0, .int (-1), .ref m_lines, .ref m_has, .ref m_state, .ref m_gate, .ref m_guest, .ref m_gone, .int 0, .ref m_isKept, .ref m_first, .ref m_second, .int 0, .ref m_far, .ref m_wished, .ref m_wasState, .ref m_isHere, .ref m_round, .ref m_bestRound, .int 0, .int 0, .long 0, .long 0, .ref m_taken, .int 0])), (m_tape, .inl (k_tape, 1600, .inl (upd f_14 ((7 : Int32)).toNatClampNeg (vp_nar .byte x_18))))] := hD
  obtain ⟨f_19, ef_19⟩ : ∃ g, g = upd f_14 ((7 : Int32)).toNatClampNeg (vp_nar .byte x_18) := ⟨_, rfl⟩
  rw [← ef_19] at hP hD
  refine lv_aload_n hx hb dX7_four_20 rfl (lv_at hl 1 rfl) ?_
  refine lv_dup hx hb dX7_four_21 rfl ?_
  refine va_get (D := (dC, dI)) (ci := 7) (v := .int 7) (C := RX7) (T := TX7) (N := 39) hx hb hts in_X7_four_4_X7 hown hK hP 0 rfl rfl 6 (by decide) (hts _ wd_X7_four_4_1) (fun _ h9 => h9) rfl dX7_four_22 ?_
  refine lv_iconst (v := 1) hx hb dX7_four_25 (by decide) ?_
  refine lv_iadd hx hb dX7_four_26 ?_
  refine lv_topi (fun z_20 ez_20 => ?_)
  obtain rfl : z_20 = 8 := ez_20.trans (by decide)
  refine va_put (D := (dC, dI)) (ci := 7) (v := .int 8) (ty := .int) (C := RX7) (T := TX7) (N := 39) hx hb hts in_X7_four_4_X7 tyX7 tyX7_ok nmX7 hown hK hP hD hS 0 rfl rfl 6 (by decide) (hts _ wd_X7_four_4_1) (fun _ h9 => h9) rfl (by decide +kernel) rfl rfl (Nat.le_of_ble_eq_true rfl) dX7_four_27 (fun H locs hP hD hS => ?_)
  have hP : va_P (dC, dI) vwCl [(h0, .inr (7, [.int 0, .ref m_width, .ref m_many, .ref m_cells, .ref m_moved, .ref m_tape, .int 8, .int 0, .int 0, .int 0, .int 0, .long 0, .int 0, .int 0, .int 0, .int (-1), .ref m_lines, .ref m_has, .ref m_state, .ref m_gate, .ref m_guest, .ref m_gone, .int 0, .ref m_isKept, .ref m_first, .ref m_second, .int 0, .ref m_far, .ref m_wished, .ref m_wasState, .ref m_isHere, .ref m_round, .ref m_bestRound, .int 0, .int 0, .long 0, .long 0, .ref m_taken, .int 0])), (m_tape, .inl (k_tape, 1600, .inl f_19))] H := hP
  have hD : va_D A [(h0, .inr (7, [.int 0, .ref m_width, .ref m_many, .ref m_cells, .ref m_moved, .ref m_tape, .int 8, .int 0, .int 0, .int 0, .int 0, .long 0, .int 0, .int 0, .int 0, .int (-1), .ref m_lines, .ref m_has, .ref m_state, .ref m_gate, .ref m_guest, .ref m_gone, .int 0, .ref m_isKept, .ref m_first, .ref m_second, .int 0, .ref m_far, .ref m_wished, .ref m_wasState, .ref m_isHere, .ref m_round, .ref m_bestRound, .int 0, .int 0, .long 0, .long 0, .ref m_taken, .int 0])), (m_tape, .inl (k_tape, 1600, .inl f_19))] := hD
  refine lv_iinc (v := -8) (lv' := [(2, .int (-8)), (0, .ref h0), (1, .int p0)]) hx hb dX7_four_30 hl (k := 0) rfl (by decide) (by decide) rfl (fun ls hl => ?_)
  refine lv_goto (tgt := 3) hx hb dX7_four_33 (by decide) ?_
  refine lv_iload_n hx hb dX7_four_3 rfl (lv_at hl 0 rfl) ?_
  refine lv_if_lt (tgt := 36) hx hb dX7_four_4 (by decide) (fun _ => ?_) (fun h => absurd (by decide) h)
  have hP9 := hP.sub (ws' := [(h0, .inr (7, [.int 0, .ref m_width, .ref m_many, .ref m_cells, .ref m_moved, .ref m_tape, .int 8, .int 0, .int 0, .int 0, .int 0, .long 0, .int 0, .int 0, .int 0, .int (-1), .ref m_lines, .ref m_has, .ref m_state, .ref m_gate, .ref m_guest, .ref m_gone, .int 0, .ref m_isKept, .ref m_first, .ref m_second, .int 0, .ref m_far, .ref m_wished, .ref m_wasState, .ref m_isHere, .ref m_round, .ref m_bestRound, .int 0, .int 0, .long 0, .long 0, .ref m_taken, .int 0])), (m_tape, .inl (k_tape, 1600, .inl f_19))]) [0, 1] rfl
  have hD9 := hD.sub (ws' := [(h0, .inr (7, [.int 0, .ref m_width, .ref m_many, .ref m_cells, .ref m_moved, .ref m_tape, .int 8, .int 0, .int 0, .int 0, .int 0, .long 0, .int 0, .int 0, .int 0, .int (-1), .ref m_lines, .ref m_has, .ref m_state, .ref m_gate, .ref m_guest, .ref m_gone, .int 0, .ref m_isKept, .ref m_first, .ref m_second, .int 0, .ref m_far, .ref m_wished, .ref m_wasState, .ref m_isHere, .ref m_round, .ref m_bestRound, .int 0, .int 0, .long 0, .long 0, .ref m_taken, .int 0])), (m_tape, .inl (k_tape, 1600, .inl f_19))]) [0, 1] (by decide) rfl
  have hK9 := hK.sub (tys' := []) [] rfl
  refine W.widen (k := 0) (n := 0) (by omega) (by omega) ?_
  exact W.vret hx hb hr (fun t ht hW => ⟨⟨(f_19), rfl, trivial, by rw [ht]; exact hP9, va_K.moved hW.alike hK9, hD9⟩, hS.F ht⟩) hS.2.2 dX7_four_36

def wz_X7_four_8 : List Cond := .code yX7_four cX7_four 3 none :: ([Cond.fieldLink RX7 23 "HedgeMazeModel" "tape" "[B", Cond.fieldLink RX7 97 "HedgeMazeModel" "taped" "I"] ++ wsX70)
theorem wd_X7_four_8_0 : Cond.fieldLink RX7 23 "HedgeMazeModel" "tape" "[B" ∈ wz_X7_four_8 := List.mem_of_getElem? (i := 1) rfl
theorem wd_X7_four_8_1 : Cond.fieldLink RX7 97 "HedgeMazeModel" "taped" "I" ∈ wz_X7_four_8 := List.mem_of_getElem? (i := 2) rfl
theorem in_X7_four_8_X7 : ∀ w ∈ wsX70, w ∈ wz_X7_four_8 := fun _ h => List.mem_cons_of_mem _ (List.mem_append_right _ h)
set_option maxHeartbeats 4000000 in
set_option maxRecDepth 100000 in
theorem c_X7_four_8 (l : Launch) (dC : Nat → ClassId) (dI : Nat → Nat → Nat) (sz : Nat) (h0 : Nat) (m_width : Nat) (m_many : Nat) (m_cells : Nat) (m_moved : Nat) (m_tape : Nat) (m_lines : Nat) (m_has : Nat) (m_state : Nat) (m_gate : Nat) (m_guest : Nat) (m_gone : Nat) (m_isKept : Nat) (m_first : Nat) (m_second : Nat) (m_far : Nat) (m_wished : Nat) (m_wasState : Nat) (m_isHere : Nat) (m_round : Nat) (m_bestRound : Nat) (m_taken : Nat) (k_tape : ClassId) (ft : Nat → Int32) (p0 : Int32)  : Met l yX7_four wz_X7_four_8 ({ frames := 0, cells := 0, slots := 0, locals := 0 }) (va_Pc [.ref h0, .int p0] (fun U => U.heap.size = sz ∧ va_P (dC, dI) vwCl [(h0, .inr (7, [.int 0, .ref m_width, .ref m_many, .ref m_cells, .ref m_moved, .ref m_tape, .int 8, .int 0, .int 0, .int 0, .int 0, .long 0, .int 0, .int 0, .int 0, .int (-1), .ref m_lines, .ref m_has, .ref m_state, .ref m_gate, .ref m_guest, .ref m_gone, .int 0, .ref m_isKept, .ref m_first, .ref m_second, .int 0, .ref m_far, .ref m_wished, .ref m_wasState, .ref m_isHere, .ref m_round, .ref m_bestRound, .int 0, .int 0, .long 0, .long 0, .ref m_taken, .int 0])), (m_tape, .inl (k_tape, 1600, .inl ft))] U.heap ∧ va_K (dC, dI) vwCl [(k_tape, .byte)] U ∧ va_D (fun _ => True) [(h0, .inr (7, [.int 0, .ref m_width, .ref m_many, .ref m_cells, .ref m_moved, .ref m_tape, .int 8, .int 0, .int 0, .int 0, .int 0, .long 0, .int 0, .int 0, .int 0, .int (-1), .ref m_lines, .ref m_has, .ref m_state, .ref m_gate, .ref m_guest, .ref m_gone, .int 0, .ref m_isKept, .ref m_first, .ref m_second, .int 0, .ref m_far, .ref m_wished, .ref m_wasState, .ref m_isHere, .ref m_round, .ref m_bestRound, .int 0, .int 0, .long 0, .long 0, .ref m_taken, .int 0])), (m_tape, .inl (k_tape, 1600, .inl ft))])) (va_Qv (fun (u : (Nat → Int32)) => True) (fun (u : (Nat → Int32)) (t : State) => va_P (dC, dI) vwCl [(h0, .inr (7, [.int 0, .ref m_width, .ref m_many, .ref m_cells, .ref m_moved, .ref m_tape, .int 12, .int 0, .int 0, .int 0, .int 0, .long 0, .int 0, .int 0, .int 0, .int (-1), .ref m_lines, .ref m_has, .ref m_state, .ref m_gate, .ref m_guest, .ref m_gone, .int 0, .ref m_isKept, .ref m_first, .ref m_second, .int 0, .ref m_far, .ref m_wished, .ref m_wasState, .ref m_isHere, .ref m_round, .ref m_bestRound, .int 0, .int 0, .long 0, .long 0, .ref m_taken, .int 0])), (m_tape, .inl (k_tape, 1600, .inl u))] t.heap ∧ va_K (dC, dI) vwCl [] t ∧ va_D (va_A [(h0, .inr (7, [.int 0, .ref m_width, .ref m_many, .ref m_cells, .ref m_moved, .ref m_tape, .int 8, .int 0, .int 0, .int 0, .int 0, .long 0, .int 0, .int 0, .int 0, .int (-1), .ref m_lines, .ref m_has, .ref m_state, .ref m_gate, .ref m_guest, .ref m_gone, .int 0, .ref m_isKept, .ref m_first, .ref m_second, .int 0, .ref m_far, .ref m_wished, .ref m_wasState, .ref m_isHere, .ref m_round, .ref m_bestRound, .int 0, .int 0, .long 0, .long 0, .ref m_taken, .int 0])), (m_tape, .inl (k_tape, 1600, .inl ft))] sz) [(h0, .inr (7, [.int 0, .ref m_width, .ref m_many, .ref m_cells, .ref m_moved, .ref m_tape, .int 12, .int 0, .int 0, .int 0, .int 0, .long 0, .int 0, .int 0, .int 0, .int (-1), .ref m_lines, .ref m_has, .ref m_state, .ref m_gate, .ref m_guest, .ref m_gone, .int 0, .ref m_isKept, .ref m_first, .ref m_second, .int 0, .ref m_far, .ref m_wished, .ref m_wasState, .ref m_isHere, .ref m_round, .ref m_bestRound, .int 0, .int 0, .long 0, .long 0, .ref m_taken, .int 0])), (m_tape, .inl (k_tape, 1600, .inl u))]) (va_A [(h0, .inr (7, [.int 0, .ref m_width, .ref m_many, .ref m_cells, .ref m_moved, .ref m_tape, .int 8, .int 0, .int 0, .int 0, .int 0, .long 0, .int 0, .int 0, .int 0, .int (-1), .ref m_lines, .ref m_has, .ref m_state, .ref m_gate, .ref m_guest, .ref m_gone, .int 0, .ref m_isKept, .ref m_first, .ref m_second, .int 0, .ref m_far, .ref m_wished, .ref m_wasState, .ref m_isHere, .ref m_round, .ref m_bestRound, .int 0, .int 0, .long 0, .long 0, .ref m_taken, .int 0])), (m_tape, .inl (k_tape, 1600, .inl ft))] sz)) 0 0 (va_A [(h0, .inr (7, [.int 0, .ref m_width, .ref m_many, .ref m_cells, .ref m_moved, .ref m_tape, .int 8, .int 0, .int 0, .int 0, .int 0, .long 0, .int 0, .int 0, .int 0, .int (-1), .ref m_lines, .ref m_has, .ref m_state, .ref m_gate, .ref m_guest, .ref m_gone, .int 0, .ref m_isKept, .ref m_first, .ref m_second, .int 0, .ref m_far, .ref m_wished, .ref m_wasState, .ref m_isHere, .ref m_round, .ref m_bestRound, .int 0, .int 0, .long 0, .long 0, .ref m_taken, .int 0])), (m_tape, .inl (k_tape, 1600, .inl ft))] sz) := by
  refine Met.ofW (cc := cX7_four) (maxL := 3) (ret := none) (by decide) rfl ?_
  intro p e s m args below meth c s₁ B hml hv
  obtain ⟨rfl, hsz, hP, hK, hD0⟩ := hv
  have hx := B.exec
  have hb := B.bytes
  have hr := B.returns
  have hts := atoms_spec (ws := wz_X7_four_8) B.pre
  have hown : s.vm.findClass RX7 = some m.cls := findClass_of_methodNamed B.named
  have hlocks := B.notSynchronized
  subst hsz
  have hD := hD0.self (sz := s.heap.size)
  generalize hAe : va_A [(h0, .inr (7, [.int 0, .ref m_width, .ref m_many, .ref m_cells, .ref m_moved, .ref m_tape, .int 8, .int 0, .int 0, .int 0, .int 0, .long 0, .int 0, .int 0, .int 0, .int (-1), .ref m_lines, .ref m_has, .ref m_state, .ref m_gate, .ref m_guest, .ref m_gone, .int 0, .ref m_isKept, .ref m_first, .ref m_second, .int 0, .ref m_far, .ref m_wished, .ref m_wasState, .ref m_isHere, .ref m_round, .ref m_bestRound, .int 0, .int 0, .long 0, .long 0, .ref m_taken, .int 0])), (m_tape, .inl (k_tape, 1600, .inl ft))] s.heap.size = A at hD ⊢
  have hA : ∀ q : Nat, s.heap.size ≤ q → A q := fun q h => by rw [← hAe]; exact Or.inr h
  have hS : va_S A s.heap s.heap [] := va_S.rf
  have hP : va_P (dC, dI) vwCl [(h0, .inr (7, [.int 0, .ref m_width, .ref m_many, .ref m_cells, .ref m_moved, .ref m_tape, .int 8, .int 0, .int 0, .int 0, .int 0, .long 0, .int 0, .int 0, .int 0, .int (-1), .ref m_lines, .ref m_has, .ref m_state, .ref m_gate, .ref m_guest, .ref m_gone, .int 0, .ref m_isKept, .ref m_first, .ref m_second, .int 0, .ref m_far, .ref m_wished, .ref m_wasState, .ref m_isHere, .ref m_round, .ref m_bestRound, .int 0, .int 0, .long 0, .long 0, .ref m_taken, .int 0])), (m_tape, .inl (k_tape, 1600, .inl ft))] s.heap := hP
  have hl := lv_entry ([.ref h0, .int p0]) (n := 3) (Nat.le_of_ble_eq_true rfl)
  rw [lg_entry_eq]
  generalize (lg_sl ([.ref h0, .int p0]) ++ List.replicate (3 - (lg_sl ([.ref h0, .int p0])).length) Slot.unset).toArray = ls at hl ⊢
  have hl : lv_has ls 3 [(0, .ref h0), (1, .int p0)] := hl
  refine lv_bipush (v := 24) hx hb dX7_four_0 (by decide) ?_
  refine lv_istore_n (lv' := [(2, .int 24), (0, .ref h0), (1, .int p0)]) hx hb dX7_four_2 rfl hl (by decide) rfl (fun ls hl => ?_)
  refine lv_iload_n hx hb dX7_four_3 rfl (lv_at hl 0 rfl) ?_
  refine lv_if_lt (tgt := 36) hx hb dX7_four_4 (by decide) (fun h => absurd h (by decide)) (fun _ => ?_)
  refine lv_aload_n hx hb dX7_four_7 rfl (lv_at hl 1 rfl) ?_
  refine va_get (D := (dC, dI)) (ci := 7) (v := .ref m_tape) (C := RX7) (T := TX7) (N := 39) hx hb hts in_X7_four_8_X7 hown hK hP 0 rfl rfl 5 (by decide) (hts _ wd_X7_four_8_0) (fun _ h9 => h9) rfl dX7_four_8 ?_
  refine lv_aload_n hx hb dX7_four_11 rfl (lv_at hl 1 rfl) ?_
  refine va_get (D := (dC, dI)) (ci := 7) (v := .int 8) (C := RX7) (T := TX7) (N := 39) hx hb hts in_X7_four_8_X7 hown hK hP 0 rfl rfl 6 (by decide) (hts _ wd_X7_four_8_1) (fun _ h9 => h9) rfl dX7_four_12 ?_
  refine lv_iload_n hx hb dX7_four_15 rfl (lv_at hl 2 rfl) ?_
  refine lv_iload_n hx hb dX7_four_16 rfl (lv_at hl 0 rfl) ?_
  refine lv_ishr hx hb dX7_four_17 ?_
  refine lv_topi (fun x_2 ex_2 => ?_)
  refine lv_i2b (v := x_2.toInt8.toInt32) hx hb dX7_four_18 rfl ?_
  refine lv_topi (fun x_3 ex_3 => ?_)
  refine va_bast hx hb hK hP hD hS 1 0 rfl rfl (vp_in_iff.mpr ⟨by decide, by decide⟩) dX7_four_19 (fun H locs hP hD hS => ?_)
  have hP : va_P (dC, dI) vwCl [(h0, .inr (7, [.int 0, .ref m_width, .ref m_many, .ref m_cells, .ref m_moved, .ref m_tape, .int 8, .int 0, .int 0, .int 0, .int 0, .long 0, .int 0, .int 0, .int 0, .int (-1), .ref m_lines, .ref m_has, .ref m_state, .ref m_gate, .ref m_guest, .ref m_gone, .int 0, .ref m_isKept, .ref m_first, .ref m_second, .int 0, .ref m_far, .ref m_wished, .ref m_wasState, .ref m_isHere, .ref m_round, .ref m_bestRound, .int 0, .int 0, .long 0, .long 0, .ref m_taken, .int 0])), (m_tape, .inl (k_tape, 1600, .inl (upd ft ((8 : Int32)).toNatClampNeg (vp_nar .byte x_3))))] H := hP
  have hD : va_D A [(h0, .inr (7, [.int 0, .ref m_width, .ref m_many, .ref m_cells, .ref m_moved, .ref m_tape, .int 8, .int 0, .int 0, .int 0, .int 0, .long 0, .int 0, .int 0, .int 0, .int (-1), .ref m_lines, .ref m_has, .ref m_state, .ref m_gate, .ref m_guest, .ref m_gone, .int 0, .ref m_isKept, .ref m_first, .ref m_second, .int 0, .ref m_far, .ref m_wished, .ref m_wasState, .ref m_isHere, .ref m_round, .ref m_bestRound, .int 0, .int 0, .long 0, .long 0, .ref m_taken, .int 0])), (m_tape, .inl (k_tape, 1600, .inl (upd ft ((8 : Int32)).toNatClampNeg (vp_nar .byte x_3))))] := hD
  obtain ⟨f_4, ef_4⟩ : ∃ g, g = upd ft ((8 : Int32)).toNatClampNeg (vp_nar .byte x_3) := ⟨_, rfl⟩
  rw [← ef_4] at hP hD
  refine lv_aload_n hx hb dX7_four_20 rfl (lv_at hl 1 rfl) ?_
  refine lv_dup hx hb dX7_four_21 rfl ?_
  refine va_get (D := (dC, dI)) (ci := 7) (v := .int 8) (C := RX7) (T := TX7) (N := 39) hx hb hts in_X7_four_8_X7 hown hK hP 0 rfl rfl 6 (by decide) (hts _ wd_X7_four_8_1) (fun _ h9 => h9) rfl dX7_four_22 ?_
  refine lv_iconst (v := 1) hx hb dX7_four_25 (by decide) ?_
  refine lv_iadd hx hb dX7_four_26 ?_
  refine lv_topi (fun z_5 ez_5 => ?_)
  obtain rfl : z_5 = 9 := ez_5.trans (by decide)
  refine va_put (D := (dC, dI)) (ci := 7) (v := .int 9) (ty := .int) (C := RX7) (T := TX7) (N := 39) hx hb hts in_X7_four_8_X7 tyX7 tyX7_ok nmX7 hown hK hP hD hS 0 rfl rfl 6 (by decide) (hts _ wd_X7_four_8_1) (fun _ h9 => h9) rfl (by decide +kernel) rfl rfl (Nat.le_of_ble_eq_true rfl) dX7_four_27 (fun H locs hP hD hS => ?_)
  have hP : va_P (dC, dI) vwCl [(h0, .inr (7, [.int 0, .ref m_width, .ref m_many, .ref m_cells, .ref m_moved, .ref m_tape, .int 9, .int 0, .int 0, .int 0, .int 0, .long 0, .int 0, .int 0, .int 0, .int (-1), .ref m_lines, .ref m_has, .ref m_state, .ref m_gate, .ref m_guest, .ref m_gone, .int 0, .ref m_isKept, .ref m_first, .ref m_second, .int 0, .ref m_far, .ref m_wished, .ref m_wasState, .ref m_isHere, .ref m_round, .ref m_bestRound, .int 0, .int 0, .long 0, .long 0, .ref m_taken, .int 0])), (m_tape, .inl (k_tape, 1600, .inl f_4))] H := hP
  have hD : va_D A [(h0, .inr (7, [.int 0, .ref m_width, .ref m_many, .ref m_cells, .ref m_moved, .ref m_tape, .int 9, .int 0, .int 0, .int 0, .int 0, .long 0, .int 0, .int 0, .int 0, .int (-1), .ref m_lines, .ref m_has, .ref m_state, .ref m_gate, .ref m_guest, .ref m_gone, .int 0, .ref m_isKept, .ref m_first, .ref m_second, .int 0, .ref m_far, .ref m_wished, .ref m_wasState, .ref m_isHere, .ref m_round, .ref m_bestRound, .int 0, .int 0, .long 0, .long 0, .ref m_taken, .int 0])), (m_tape, .inl (k_tape, 1600, .inl f_4))] := hD
  refine lv_iinc (v := 16) (lv' := [(2, .int 16), (0, .ref h0), (1, .int p0)]) hx hb dX7_four_30 hl (k := 0) rfl (by decide) (by decide) rfl (fun ls hl => ?_)
  refine lv_goto (tgt := 3) hx hb dX7_four_33 (by decide) ?_
  refine lv_iload_n hx hb dX7_four_3 rfl (lv_at hl 0 rfl) ?_
  refine lv_if_lt (tgt := 36) hx hb dX7_four_4 (by decide) (fun h => absurd h (by decide)) (fun _ => ?_)
  refine lv_aload_n hx hb dX7_four_7 rfl (lv_at hl 1 rfl) ?_
  refine va_get (D := (dC, dI)) (ci := 7) (v := .ref m_tape) (C := RX7) (T := TX7) (N := 39) hx hb hts in_X7_four_8_X7 hown hK hP 0 rfl rfl 5 (by decide) (hts _ wd_X7_four_8_0) (fun _ h9 => h9) rfl dX7_four_8 ?_
  refine lv_aload_n hx hb dX7_four_11 rfl (lv_at hl 1 rfl) ?_
  refine va_get (D := (dC, dI)) (ci := 7) (v := .int 9) (C := RX7) (T := TX7) (N := 39) hx hb hts in_X7_four_8_X7 hown hK hP 0 rfl rfl 6 (by decide) (hts _ wd_X7_four_8_1) (fun _ h9 => h9) rfl dX7_four_12 ?_
  refine lv_iload_n hx hb dX7_four_15 rfl (lv_at hl 2 rfl) ?_
  refine lv_iload_n hx hb dX7_four_16 rfl (lv_at hl 0 rfl) ?_
  refine lv_ishr hx hb dX7_four_17 ?_
  refine lv_topi (fun x_7 ex_7 => ?_)
  refine lv_i2b (v := x_7.toInt8.toInt32) hx hb dX7_four_18 rfl ?_
  refine lv_topi (fun x_8 ex_8 => ?_)
  refine va_bast hx hb hK hP hD hS 1 0 rfl rfl (vp_in_iff.mpr ⟨by decide, by decide⟩) dX7_four_19 (fun H locs hP hD hS => ?_)
  have hP : va_P (dC, dI) vwCl [(h0, .inr (7, [.int 0, .ref m_width, .ref m_many, .ref m_cells, .ref m_moved, .ref m_tape, .int 9, .int 0, .int 0, .int 0, .int 0, .long 0, .int 0, .int 0, .int 0, .int (-1), .ref m_lines, .ref m_has, .ref m_state, .ref m_gate, .ref m_guest, .ref m_gone, .int 0, .ref m_isKept, .ref m_first, .ref m_second, .int 0, .ref m_far, .ref m_wished, .ref m_wasState, .ref m_isHere, .ref m_round, .ref m_bestRound, .int 0, .int 0, .long 0, .long 0, .ref m_taken, .int 0])), (m_tape, .inl (k_tape, 1600, .inl (upd f_4 ((9 : Int32)).toNatClampNeg (vp_nar .byte x_8))))] H := hP
  have hD : va_D A [(h0, .inr (7, [.int 0, .ref m_width, .ref m_many, .ref m_cells, .ref m_moved, .ref m_tape, .int 9, .int 0, .int 0, .int 0, .int 0, .long 0, .int 0, .int 0, .int 0, .int (-1), .ref m_lines, .ref m_has, .ref m_state, .ref m_gate, .ref m_guest, .ref m_gone, .int 0, .ref m_isKept, .ref m_first, .ref m_second, .int 0, .ref m_far, .ref m_wished, .ref m_wasState, .ref m_isHere, .ref m_round, .ref m_bestRound, .int 0, .int 0, .long 0, .long 0, .ref m_taken, .int 0])), (m_tape, .inl (k_tape, 1600, .inl (upd f_4 ((9 : Int32)).toNatClampNeg (vp_nar .byte x_8))))] := hD
  obtain ⟨f_9, ef_9⟩ : ∃ g, g = upd f_4 ((9 : Int32)).toNatClampNeg (vp_nar .byte x_8) := ⟨_, rfl⟩
  rw [← ef_9] at hP hD
  refine lv_aload_n hx hb dX7_four_20 rfl (lv_at hl 1 rfl) ?_
  refine lv_dup hx hb dX7_four_21 rfl ?_
  refine va_get (D := (dC, dI)) (ci := 7) (v := .int 9) (C := RX7) (T := TX7) (N := 39) hx hb hts in_X7_four_8_X7 hown hK hP 0 rfl rfl 6 (by decide) (hts _ wd_X7_four_8_1) (fun _ h9 => h9) rfl dX7_four_22 ?_
  refine lv_iconst (v := 1) hx hb dX7_four_25 (by decide) ?_
  refine lv_iadd hx hb dX7_four_26 ?_
  refine lv_topi (fun z_10 ez_10 => ?_)
  obtain rfl : z_10 = 10 := ez_10.trans (by decide)
  refine va_put (D := (dC, dI)) (ci := 7) (v := .int 10) (ty := .int) (C := RX7) (T := TX7) (N := 39) hx hb hts in_X7_four_8_X7 tyX7 tyX7_ok nmX7 hown hK hP hD hS 0 rfl rfl 6 (by decide) (hts _ wd_X7_four_8_1) (fun _ h9 => h9) rfl (by decide +kernel) rfl rfl (Nat.le_of_ble_eq_true rfl) dX7_four_27 (fun H locs hP hD hS => ?_)
  have hP : va_P (dC, dI) vwCl [(h0, .inr (7, [.int 0, .ref m_width, .ref m_many, .ref m_cells, .ref m_moved, .ref m_tape, .int 10, .int 0, .int 0, .int 0, .int 0, .long 0, .int 0, .int 0, .int 0, .int (-1), .ref m_lines, .ref m_has, .ref m_state, .ref m_gate, .ref m_guest, .ref m_gone, .int 0, .ref m_isKept, .ref m_first, .ref m_second, .int 0, .ref m_far, .ref m_wished, .ref m_wasState, .ref m_isHere, .ref m_round, .ref m_bestRound, .int 0, .int 0, .long 0, .long 0, .ref m_taken, .int 0])), (m_tape, .inl (k_tape, 1600, .inl f_9))] H := hP
  have hD : va_D A [(h0, .inr (7, [.int 0, .ref m_width, .ref m_many, .ref m_cells, .ref m_moved, .ref m_tape, .int 10, .int 0, .int 0, .int 0, .int 0, .long 0, .int 0, .int 0, .int 0, .int (-1), .ref m_lines, .ref m_has, .ref m_state, .ref m_gate, .ref m_guest, .ref m_gone, .int 0, .ref m_isKept, .ref m_first, .ref m_second, .int 0, .ref m_far, .ref m_wished, .ref m_wasState, .ref m_isHere, .ref m_round, .ref m_bestRound, .int 0, .int 0, .long 0, .long 0, .ref m_taken, .int 0])), (m_tape, .inl (k_tape, 1600, .inl f_9))] := hD
  refine lv_iinc (v := 8) (lv' := [(2, .int 8), (0, .ref h0), (1, .int p0)]) hx hb dX7_four_30 hl (k := 0) rfl (by decide) (by decide) rfl (fun ls hl => ?_)
  refine lv_goto (tgt := 3) hx hb dX7_four_33 (by decide) ?_
  refine lv_iload_n hx hb dX7_four_3 rfl (lv_at hl 0 rfl) ?_
  refine lv_if_lt (tgt := 36) hx hb dX7_four_4 (by decide) (fun h => absurd h (by decide)) (fun _ => ?_)
  refine lv_aload_n hx hb dX7_four_7 rfl (lv_at hl 1 rfl) ?_
  refine va_get (D := (dC, dI)) (ci := 7) (v := .ref m_tape) (C := RX7) (T := TX7) (N := 39) hx hb hts in_X7_four_8_X7 hown hK hP 0 rfl rfl 5 (by decide) (hts _ wd_X7_four_8_0) (fun _ h9 => h9) rfl dX7_four_8 ?_
  refine lv_aload_n hx hb dX7_four_11 rfl (lv_at hl 1 rfl) ?_
  refine va_get (D := (dC, dI)) (ci := 7) (v := .int 10) (C := RX7) (T := TX7) (N := 39) hx hb hts in_X7_four_8_X7 hown hK hP 0 rfl rfl 6 (by decide) (hts _ wd_X7_four_8_1) (fun _ h9 => h9) rfl dX7_four_12 ?_
  refine lv_iload_n hx hb dX7_four_15 rfl (lv_at hl 2 rfl) ?_
  refine lv_iload_n hx hb dX7_four_16 rfl (lv_at hl 0 rfl) ?_
  refine lv_ishr hx hb dX7_four_17 ?_
  refine lv_topi (fun x_12 ex_12 => ?_)
  refine lv_i2b (v := x_12.toInt8.toInt32) hx hb dX7_four_18 rfl ?_
  refine lv_topi (fun x_13 ex_13 => ?_)
  refine va_bast hx hb hK hP hD hS 1 0 rfl rfl (vp_in_iff.mpr ⟨by decide, by decide⟩) dX7_four_19 (fun H locs hP hD hS => ?_)
  have hP : va_P (dC, dI) vwCl [(h0, .inr (7, [.int 0, .ref m_width, .ref m_many, .ref m_cells, .ref m_moved, .ref m_tape, .int 10, .int 0, .int 0, .int 0, .int 0, .long 0, .int 0, .int 0, .int 0, .int (-1), .ref m_lines, .ref m_has, .ref m_state, .ref m_gate, .ref m_guest, .ref m_gone, .int 0, .ref m_isKept, .ref m_first, .ref m_second, .int 0, .ref m_far, .ref m_wished, .ref m_wasState, .ref m_isHere, .ref m_round, .ref m_bestRound, .int 0, .int 0, .long 0, .long 0, .ref m_taken, .int 0])), (m_tape, .inl (k_tape, 1600, .inl (upd f_9 ((10 : Int32)).toNatClampNeg (vp_nar .byte x_13))))] H := hP
  have hD : va_D A [(h0, .inr (7, [.int 0, .ref m_width, .ref m_many, .ref m_cells, .ref m_moved, .ref m_tape, .int 10, .int 0, .int 0, .int 0, .int 0, .long 0, .int 0, .int 0, .int 0, .int (-1), .ref m_lines, .ref m_has, .ref m_state, .ref m_gate, .ref m_guest, .ref m_gone, .int 0, .ref m_isKept, .ref m_first, .ref m_second, .int 0, .ref m_far, .ref m_wished, .ref m_wasState, .ref m_isHere, .ref m_round, .ref m_bestRound, .int 0, .int 0, .long 0, .long 0, .ref m_taken, .int 0])), (m_tape, .inl (k_tape, 1600, .inl (upd f_9 ((10 : Int32)).toNatClampNeg (vp_nar .byte x_13))))] := hD
  obtain ⟨f_14, ef_14⟩ : ∃ g, g = upd f_9 ((10 : Int32)).toNatClampNeg (vp_nar .byte x_13) := ⟨_, rfl⟩
  rw [← ef_14] at hP hD
  refine lv_aload_n hx hb dX7_four_20 rfl (lv_at hl 1 rfl) ?_
  refine lv_dup hx hb dX7_four_21 rfl ?_
  refine va_get (D := (dC, dI)) (ci := 7) (v := .int 10) (C := RX7) (T := TX7) (N := 39) hx hb hts in_X7_four_8_X7 hown hK hP 0 rfl rfl 6 (by decide) (hts _ wd_X7_four_8_1) (fun _ h9 => h9) rfl dX7_four_22 ?_
  refine lv_iconst (v := 1) hx hb dX7_four_25 (by decide) ?_
  refine lv_iadd hx hb dX7_four_26 ?_
  refine lv_topi (fun z_15 ez_15 => ?_)
  obtain rfl : z_15 = 11 := ez_15.trans (by decide)
  refine va_put (D := (dC, dI)) (ci := 7) (v := .int 11) (ty := .int) (C := RX7) (T := TX7) (N := 39) hx hb hts in_X7_four_8_X7 tyX7 tyX7_ok nmX7 hown hK hP hD hS 0 rfl rfl 6 (by decide) (hts _ wd_X7_four_8_1) (fun _ h9 => h9) rfl (by decide +kernel) rfl rfl (Nat.le_of_ble_eq_true rfl) dX7_four_27 (fun H locs hP hD hS => ?_)
  have hP : va_P (dC, dI) vwCl [(h0, .inr (7, [.int 0, .ref m_width, .ref m_many, .ref m_cells, .ref m_moved, .ref m_tape, .int 11, .int 0, .int 0, .int 0, .int 0, .long 0, .int 0, .int 0, .int 0, .int (-1), .ref m_lines, .ref m_has, .ref m_state, .ref m_gate, .ref m_guest, .ref m_gone, .int 0, .ref m_isKept, .ref m_first, .ref m_second, .int 0, .ref m_far, .ref m_wished, .ref m_wasState, .ref m_isHere, .ref m_round, .ref m_bestRound, .int 0, .int 0, .long 0, .long 0, .ref m_taken, .int 0])), (m_tape, .inl (k_tape, 1600, .inl f_14))] H := hP
  have hD : va_D A [(h0, .inr (7, [.int 0, .ref m_width, .ref m_many, .ref m_cells, .ref m_moved, .ref m_tape, .int 11, .int 0, .int 0, .int 0, .int 0, .long 0, .int 0, .int 0, .int 0, .int (-1), .ref m_lines, .ref m_has, .ref m_state, .ref m_gate, .ref m_guest, .ref m_gone, .int 0, .ref m_isKept, .ref m_first, .ref m_second, .int 0, .ref m_far, .ref m_wished, .ref m_wasState, .ref m_isHere, .ref m_round, .ref m_bestRound, .int 0, .int 0, .long 0, .long 0, .ref m_taken, .int 0])), (m_tape, .inl (k_tape, 1600, .inl f_14))] := hD
  refine lv_iinc (v := 0) (lv' := [(2, .int 0), (0, .ref h0), (1, .int p0)]) hx hb dX7_four_30 hl (k := 0) rfl (by decide) (by decide) rfl (fun ls hl => ?_)
  refine lv_goto (tgt := 3) hx hb dX7_four_33 (by decide) ?_
  refine lv_iload_n hx hb dX7_four_3 rfl (lv_at hl 0 rfl) ?_
  refine lv_if_lt (tgt := 36) hx hb dX7_four_4 (by decide) (fun h => absurd h (by decide)) (fun _ => ?_)
  refine lv_aload_n hx hb dX7_four_7 rfl (lv_at hl 1 rfl) ?_
  refine va_get (D := (dC, dI)) (ci := 7) (v := .ref m_tape) (C := RX7) (T := TX7) (N := 39) hx hb hts in_X7_four_8_X7 hown hK hP 0 rfl rfl 5 (by decide) (hts _ wd_X7_four_8_0) (fun _ h9 => h9) rfl dX7_four_8 ?_
  refine lv_aload_n hx hb dX7_four_11 rfl (lv_at hl 1 rfl) ?_
  refine va_get (D := (dC, dI)) (ci := 7) (v := .int 11) (C := RX7) (T := TX7) (N := 39) hx hb hts in_X7_four_8_X7 hown hK hP 0 rfl rfl 6 (by decide) (hts _ wd_X7_four_8_1) (fun _ h9 => h9) rfl dX7_four_12 ?_
  refine lv_iload_n hx hb dX7_four_15 rfl (lv_at hl 2 rfl) ?_
  refine lv_iload_n hx hb dX7_four_16 rfl (lv_at hl 0 rfl) ?_
  refine lv_ishr hx hb dX7_four_17 ?_
  refine lv_topi (fun x_17 ex_17 => ?_)
  refine lv_i2b (v := x_17.toInt8.toInt32) hx hb dX7_four_18 rfl ?_
  refine lv_topi (fun x_18 ex_18 => ?_)
  refine va_bast hx hb hK hP hD hS 1 0 rfl rfl (vp_in_iff.mpr ⟨by decide, by decide⟩) dX7_four_19 (fun H locs hP hD hS => ?_)
  have hP : va_P (dC, dI) vwCl [(h0, .inr (7, [.int 0, .ref m_width, .ref m_many, .ref m_cells, .ref m_moved, .ref m_tape, .int 11, .int 0, .int 0, .int 0, .int 0, .long 0, .int 0, .int 0, .int 0, .int (-1), .ref m_lines, .ref m_has, .ref m_state, .ref m_gate, .ref m_guest, .ref m_gone, .int 0, .ref m_isKept, .ref m_first, .ref m_second, .int 0, .ref m_far, .ref m_wished, .ref m_wasState, .ref m_isHere, .ref m_round, .ref m_bestRound, .int 0, .int 0, .long 0, .long 0, .ref m_taken, .int 0])), (m_tape, .inl (k_tape, 1600, .inl (upd f_14 ((11 : Int32)).toNatClampNeg (vp_nar .byte x_18))))] H := hP
  have hD : va_D A [(h0, .inr (7, [.int 0, .ref m_width, .ref m_many, .ref m_cells, .ref m_moved, .ref m_tape, .int 11, .int 0, .int 0, .int 0, .int 0, .long 0, .int 0, .int 0, .int 0, .int (-1), .ref m_lines, .ref m_has, .ref m_state, .ref m_gate, .ref m_guest, .ref m_gone, .int 0, .ref m_isKept, .ref m_first, .ref m_second, .int 0, .ref m_far, .ref m_wished, .ref m_wasState, .ref m_isHere, .ref m_round, .ref m_bestRound, .int 0, .int 0, .long 0, .long 0, .ref m_taken, .int 0])), (m_tape, .inl (k_tape, 1600, .inl (upd f_14 ((11 : Int32)).toNatClampNeg (vp_nar .byte x_18))))] := hD
  obtain ⟨f_19, ef_19⟩ : ∃ g, g = upd f_14 ((11 : Int32)).toNatClampNeg (vp_nar .byte x_18) := ⟨_, rfl⟩
  rw [← ef_19] at hP hD
  refine lv_aload_n hx hb dX7_four_20 rfl (lv_at hl 1 rfl) ?_
  refine lv_dup hx hb dX7_four_21 rfl ?_
  refine va_get (D := (dC, dI)) (ci := 7) (v := .int 11) (C := RX7) (T := TX7) (N := 39) hx hb hts in_X7_four_8_X7 hown hK hP 0 rfl rfl 6 (by decide) (hts _ wd_X7_four_8_1) (fun _ h9 => h9) rfl dX7_four_22 ?_
  refine lv_iconst (v := 1) hx hb dX7_four_25 (by decide) ?_
  refine lv_iadd hx hb dX7_four_26 ?_
  refine lv_topi (fun z_20 ez_20 => ?_)
  obtain rfl : z_20 = 12 := ez_20.trans (by decide)
  refine va_put (D := (dC, dI)) (ci := 7) (v := .int 12) (ty := .int) (C := RX7) (T := TX7) (N := 39) hx hb hts in_X7_four_8_X7 tyX7 tyX7_ok nmX7 hown hK hP hD hS 0 rfl rfl 6 (by decide) (hts _ wd_X7_four_8_1) (fun _ h9 => h9) rfl (by decide +kernel) rfl rfl (Nat.le_of_ble_eq_true rfl) dX7_four_27 (fun H locs hP hD hS => ?_)
  have hP : va_P (dC, dI) vwCl [(h0, .inr (7, [.int 0, .ref m_width, .ref m_many, .ref m_cells, .ref m_moved, .ref m_tape, .int 12, .int 0, .int 0, .int 0, .int 0, .long 0, .int 0, .int 0, .int 0, .int (-1), .ref m_lines, .ref m_has, .ref m_state, .ref m_gate, .ref m_guest, .ref m_gone, .int 0, .ref m_isKept, .ref m_first, .ref m_second, .int 0, .ref m_far, .ref m_wished, .ref m_wasState, .ref m_isHere, .ref m_round, .ref m_bestRound, .int 0, .int 0, .long 0, .long 0, .ref m_taken, .int 0])), (m_tape, .inl (k_tape, 1600, .inl f_19))] H := hP
  have hD : va_D A [(h0, .inr (7, [.int 0, .ref m_width, .ref m_many, .ref m_cells, .ref m_moved, .ref m_tape, .int 12, .int 0, .int 0, .int 0, .int 0, .long 0, .int 0, .int 0, .int 0, .int (-1), .ref m_lines, .ref m_has, .ref m_state, .ref m_gate, .ref m_guest, .ref m_gone, .int 0, .ref m_isKept, .ref m_first, .ref m_second, .int 0, .ref m_far, .ref m_wished, .ref m_wasState, .ref m_isHere, .ref m_round, .ref m_bestRound, .int 0, .int 0, .long 0, .long 0, .ref m_taken, .int 0])), (m_tape, .inl (k_tape, 1600, .inl f_19))] := hD
  refine lv_iinc (v := -8) (lv' := [(2, .int (-8)), (0, .ref h0), (1, .int p0)]) hx hb dX7_four_30 hl (k := 0) rfl (by decide) (by decide) rfl (fun ls hl => ?_)
  refine lv_goto (tgt := 3) hx hb dX7_four_33 (by decide) ?_
  refine lv_iload_n hx hb dX7_four_3 rfl (lv_at hl 0 rfl) ?_
  refine lv_if_lt (tgt := 36) hx hb dX7_four_4 (by decide) (fun _ => ?_) (fun h => absurd (by decide) h)
  have hP9 := hP.sub (ws' := [(h0, .inr (7, [.int 0, .ref m_width, .ref m_many, .ref m_cells, .ref m_moved, .ref m_tape, .int 12, .int 0, .int 0, .int 0, .int 0, .long 0, .int 0, .int 0, .int 0, .int (-1), .ref m_lines, .ref m_has, .ref m_state, .ref m_gate, .ref m_guest, .ref m_gone, .int 0, .ref m_isKept, .ref m_first, .ref m_second, .int 0, .ref m_far, .ref m_wished, .ref m_wasState, .ref m_isHere, .ref m_round, .ref m_bestRound, .int 0, .int 0, .long 0, .long 0, .ref m_taken, .int 0])), (m_tape, .inl (k_tape, 1600, .inl f_19))]) [0, 1] rfl
  have hD9 := hD.sub (ws' := [(h0, .inr (7, [.int 0, .ref m_width, .ref m_many, .ref m_cells, .ref m_moved, .ref m_tape, .int 12, .int 0, .int 0, .int 0, .int 0, .long 0, .int 0, .int 0, .int 0, .int (-1), .ref m_lines, .ref m_has, .ref m_state, .ref m_gate, .ref m_guest, .ref m_gone, .int 0, .ref m_isKept, .ref m_first, .ref m_second, .int 0, .ref m_far, .ref m_wished, .ref m_wasState, .ref m_isHere, .ref m_round, .ref m_bestRound, .int 0, .int 0, .long 0, .long 0, .ref m_taken, .int 0])), (m_tape, .inl (k_tape, 1600, .inl f_19))]) [0, 1] (by decide) rfl
  have hK9 := hK.sub (tys' := []) [] rfl
  refine W.widen (k := 0) (n := 0) (by omega) (by omega) ?_
  exact W.vret hx hb hr (fun t ht hW => ⟨⟨(f_19), rfl, trivial, by rw [ht]; exact hP9, va_K.moved hW.alike hK9, hD9⟩, hS.F ht⟩) hS.2.2 dX7_four_36

def wz_X7_four_12 : List Cond := .code yX7_four cX7_four 3 none :: ([Cond.fieldLink RX7 23 "HedgeMazeModel" "tape" "[B", Cond.fieldLink RX7 97 "HedgeMazeModel" "taped" "I"] ++ wsX70)
theorem wd_X7_four_12_0 : Cond.fieldLink RX7 23 "HedgeMazeModel" "tape" "[B" ∈ wz_X7_four_12 := List.mem_of_getElem? (i := 1) rfl
theorem wd_X7_four_12_1 : Cond.fieldLink RX7 97 "HedgeMazeModel" "taped" "I" ∈ wz_X7_four_12 := List.mem_of_getElem? (i := 2) rfl
theorem in_X7_four_12_X7 : ∀ w ∈ wsX70, w ∈ wz_X7_four_12 := fun _ h => List.mem_cons_of_mem _ (List.mem_append_right _ h)
set_option maxHeartbeats 4000000 in
set_option maxRecDepth 100000 in
theorem c_X7_four_12 (l : Launch) (dC : Nat → ClassId) (dI : Nat → Nat → Nat) (sz : Nat) (h0 : Nat) (m_width : Nat) (m_many : Nat) (m_cells : Nat) (m_moved : Nat) (m_tape : Nat) (m_lines : Nat) (m_has : Nat) (m_state : Nat) (m_gate : Nat) (m_guest : Nat) (m_gone : Nat) (m_isKept : Nat) (m_first : Nat) (m_second : Nat) (m_far : Nat) (m_wished : Nat) (m_wasState : Nat) (m_isHere : Nat) (m_round : Nat) (m_bestRound : Nat) (m_taken : Nat) (k_tape : ClassId) (ft : Nat → Int32) (p0 : Int32)  : Met l yX7_four wz_X7_four_12 ({ frames := 0, cells := 0, slots := 0, locals := 0 }) (va_Pc [.ref h0, .int p0] (fun U => U.heap.size = sz ∧ va_P (dC, dI) vwCl [(h0, .inr (7, [.int 0, .ref m_width, .ref m_many, .ref m_cells, .ref m_moved, .ref m_tape, .int 12, .int 0, .int 0, .int 0, .int 0, .long 0, .int 0, .int 0, .int 0, .int (-1), .ref m_lines, .ref m_has, .ref m_state, .ref m_gate, .ref m_guest, .ref m_gone, .int 0, .ref m_isKept, .ref m_first, .ref m_second, .int 0, .ref m_far, .ref m_wished, .ref m_wasState, .ref m_isHere, .ref m_round, .ref m_bestRound, .int 0, .int 0, .long 0, .long 0, .ref m_taken, .int 0])), (m_tape, .inl (k_tape, 1600, .inl ft))] U.heap ∧ va_K (dC, dI) vwCl [(k_tape, .byte)] U ∧ va_D (fun _ => True) [(h0, .inr (7, [.int 0, .ref m_width, .ref m_many, .ref m_cells, .ref m_moved, .ref m_tape, .int 12, .int 0, .int 0, .int 0, .int 0, .long 0, .int 0, .int 0, .int 0, .int (-1), .ref m_lines, .ref m_has, .ref m_state, .ref m_gate, .ref m_guest, .ref m_gone, .int 0, .ref m_isKept, .ref m_first, .ref m_second, .int 0, .ref m_far, .ref m_wished, .ref m_wasState, .ref m_isHere, .ref m_round, .ref m_bestRound, .int 0, .int 0, .long 0, .long 0, .ref m_taken, .int 0])), (m_tape, .inl (k_tape, 1600, .inl ft))])) (va_Qv (fun (u : (Nat → Int32)) => True) (fun (u : (Nat → Int32)) (t : State) => va_P (dC, dI) vwCl [(h0, .inr (7, [.int 0, .ref m_width, .ref m_many, .ref m_cells, .ref m_moved, .ref m_tape, .int 16, .int 0, .int 0, .int 0, .int 0, .long 0, .int 0, .int 0, .int 0, .int (-1), .ref m_lines, .ref m_has, .ref m_state, .ref m_gate, .ref m_guest, .ref m_gone, .int 0, .ref m_isKept, .ref m_first, .ref m_second, .int 0, .ref m_far, .ref m_wished, .ref m_wasState, .ref m_isHere, .ref m_round, .ref m_bestRound, .int 0, .int 0, .long 0, .long 0, .ref m_taken, .int 0])), (m_tape, .inl (k_tape, 1600, .inl u))] t.heap ∧ va_K (dC, dI) vwCl [] t ∧ va_D (va_A [(h0, .inr (7, [.int 0, .ref m_width, .ref m_many, .ref m_cells, .ref m_moved, .ref m_tape, .int 12, .int 0, .int 0, .int 0, .int 0, .long 0, .int 0, .int 0, .int 0, .int (-1), .ref m_lines, .ref m_has, .ref m_state, .ref m_gate, .ref m_guest, .ref m_gone, .int 0, .ref m_isKept, .ref m_first, .ref m_second, .int 0, .ref m_far, .ref m_wished, .ref m_wasState, .ref m_isHere, .ref m_round, .ref m_bestRound, .int 0, .int 0, .long 0, .long 0, .ref m_taken, .int 0])), (m_tape, .inl (k_tape, 1600, .inl ft))] sz) [(h0, .inr (7, [.int 0, .ref m_width, .ref m_many, .ref m_cells, .ref m_moved, .ref m_tape, .int 16, .int 0, .int 0, .int 0, .int 0, .long 0, .int 0, .int 0, .int 0, .int (-1), .ref m_lines, .ref m_has, .ref m_state, .ref m_gate, .ref m_guest, .ref m_gone, .int 0, .ref m_isKept, .ref m_first, .ref m_second, .int 0, .ref m_far, .ref m_wished, .ref m_wasState, .ref m_isHere, .ref m_round, .ref m_bestRound, .int 0, .int 0, .long 0, .long 0, .ref m_taken, .int 0])), (m_tape, .inl (k_tape, 1600, .inl u))]) (va_A [(h0, .inr (7, [.int 0, .ref m_width, .ref m_many, .ref m_cells, .ref m_moved, .ref m_tape, .int 12, .int 0, .int 0, .int 0, .int 0, .long 0, .int 0, .int 0, .int 0, .int (-1), .ref m_lines, .ref m_has, .ref m_state, .ref m_gate, .ref m_guest, .ref m_gone, .int 0, .ref m_isKept, .ref m_first, .ref m_second, .int 0, .ref m_far, .ref m_wished, .ref m_wasState, .ref m_isHere, .ref m_round, .ref m_bestRound, .int 0, .int 0, .long 0, .long 0, .ref m_taken, .int 0])), (m_tape, .inl (k_tape, 1600, .inl ft))] sz)) 0 0 (va_A [(h0, .inr (7, [.int 0, .ref m_width, .ref m_many, .ref m_cells, .ref m_moved, .ref m_tape, .int 12, .int 0, .int 0, .int 0, .int 0, .long 0, .int 0, .int 0, .int 0, .int (-1), .ref m_lines, .ref m_has, .ref m_state, .ref m_gate, .ref m_guest, .ref m_gone, .int 0, .ref m_isKept, .ref m_first, .ref m_second, .int 0, .ref m_far, .ref m_wished, .ref m_wasState, .ref m_isHere, .ref m_round, .ref m_bestRound, .int 0, .int 0, .long 0, .long 0, .ref m_taken, .int 0])), (m_tape, .inl (k_tape, 1600, .inl ft))] sz) := by
  refine Met.ofW (cc := cX7_four) (maxL := 3) (ret := none) (by decide) rfl ?_
  intro p e s m args below meth c s₁ B hml hv
  obtain ⟨rfl, hsz, hP, hK, hD0⟩ := hv
  have hx := B.exec
  have hb := B.bytes
  have hr := B.returns
  have hts := atoms_spec (ws := wz_X7_four_12) B.pre
  have hown : s.vm.findClass RX7 = some m.cls := findClass_of_methodNamed B.named
  have hlocks := B.notSynchronized
  subst hsz
  have hD := hD0.self (sz := s.heap.size)
  generalize hAe : va_A [(h0, .inr (7, [.int 0, .ref m_width, .ref m_many, .ref m_cells, .ref m_moved, .ref m_tape, .int 12, .int 0, .int 0, .int 0, .int 0, .long 0, .int 0, .int 0, .int 0, .int (-1), .ref m_lines, .ref m_has, .ref m_state, .ref m_gate, .ref m_guest, .ref m_gone, .int 0, .ref m_isKept, .ref m_first, .ref m_second, .int 0, .ref m_far, .ref m_wished, .ref m_wasState, .ref m_isHere, .ref m_round, .ref m_bestRound, .int 0, .int 0, .long 0, .long 0, .ref m_taken, .int 0])), (m_tape, .inl (k_tape, 1600, .inl ft))] s.heap.size = A at hD ⊢
  have hA : ∀ q : Nat, s.heap.size ≤ q → A q := fun q h => by rw [← hAe]; exact Or.inr h
  have hS : va_S A s.heap s.heap [] := va_S.rf
  have hP : va_P (dC, dI) vwCl [(h0, .inr (7, [.int 0, .ref m_width, .ref m_many, .ref m_cells, .ref m_moved, .ref m_tape, .int 12, .int 0, .int 0, .int 0, .int 0, .long 0, .int 0, .int 0, .int 0, .int (-1), .ref m_lines, .ref m_has, .ref m_state, .ref m_gate, .ref m_guest, .ref m_gone, .int 0, .ref m_isKept, .ref m_first, .ref m_second, .int 0, .ref m_far, .ref m_wished, .ref m_wasState, .ref m_isHere, .ref m_round, .ref m_bestRound, .int 0, .int 0, .long 0, .long 0, .ref m_taken, .int 0])), (m_tape, .inl (k_tape, 1600, .inl ft))] s.heap := hP
  have hl := lv_entry ([.ref h0, .int p0]) (n := 3) (Nat.le_of_ble_eq_true rfl)
  rw [lg_entry_eq]
  generalize (lg_sl ([.ref h0, .int p0]) ++ List.replicate (3 - (lg_sl ([.ref h0, .int p0])).length) Slot.unset).toArray = ls at hl ⊢
  have hl : lv_has ls 3 [(0, .ref h0), (1, .int p0)] := hl
  refine lv_bipush (v := 24) hx hb dX7_four_0 (by decide) ?_
  refine lv_istore_n (lv' := [(2, .int 24), (0, .ref h0), (1, .int p0)]) hx hb dX7_four_2 rfl hl (by decide) rfl (fun ls hl => ?_)
  refine lv_iload_n hx hb dX7_four_3 rfl (lv_at hl 0 rfl) ?_
  refine lv_if_lt (tgt := 36) hx hb dX7_four_4 (by decide) (fun h => absurd h (by decide)) (fun _ => ?_)
  refine lv_aload_n hx hb dX7_four_7 rfl (lv_at hl 1 rfl) ?_
  refine va_get (D := (dC, dI)) (ci := 7) (v := .ref m_tape) (C := RX7) (T := TX7) (N := 39) hx hb hts in_X7_four_12_X7 hown hK hP 0 rfl rfl 5 (by decide) (hts _ wd_X7_four_12_0) (fun _ h9 => h9) rfl dX7_four_8 ?_
  refine lv_aload_n hx hb dX7_four_11 rfl (lv_at hl 1 rfl) ?_
  refine va_get (D := (dC, dI)) (ci := 7) (v := .int 12) (C := RX7) (T := TX7) (N := 39) hx hb hts in_X7_four_12_X7 hown hK hP 0 rfl rfl 6 (by decide) (hts _ wd_X7_four_12_1) (fun _ h9 => h9) rfl dX7_four_12 ?_
  refine lv_iload_n hx hb dX7_four_15 rfl (lv_at hl 2 rfl) ?_
  refine lv_iload_n hx hb dX7_four_16 rfl (lv_at hl 0 rfl) ?_
  refine lv_ishr hx hb dX7_four_17 ?_
  refine lv_topi (fun x_2 ex_2 => ?_)
  refine lv_i2b (v := x_2.toInt8.toInt32) hx hb dX7_four_18 rfl ?_
  refine lv_topi (fun x_3 ex_3 => ?_)
  refine va_bast hx hb hK hP hD hS 1 0 rfl rfl (vp_in_iff.mpr ⟨by decide, by decide⟩) dX7_four_19 (fun H locs hP hD hS => ?_)
  have hP : va_P (dC, dI) vwCl [(h0, .inr (7, [.int 0, .ref m_width, .ref m_many, .ref m_cells, .ref m_moved, .ref m_tape, .int 12, .int 0, .int 0, .int 0, .int 0, .long 0, .int 0, .int 0, .int 0, .int (-1), .ref m_lines, .ref m_has, .ref m_state, .ref m_gate, .ref m_guest, .ref m_gone, .int 0, .ref m_isKept, .ref m_first, .ref m_second, .int 0, .ref m_far, .ref m_wished, .ref m_wasState, .ref m_isHere, .ref m_round, .ref m_bestRound, .int 0, .int 0, .long 0, .long 0, .ref m_taken, .int 0])), (m_tape, .inl (k_tape, 1600, .inl (upd ft ((12 : Int32)).toNatClampNeg (vp_nar .byte x_3))))] H := hP
  have hD : va_D A [(h0, .inr (7, [.int 0, .ref m_width, .ref m_many, .ref m_cells, .ref m_moved, .ref m_tape, .int 12, .int 0, .int 0, .int 0, .int 0, .long 0, .int 0, .int 0, .int 0, .int (-1), .ref m_lines, .ref m_has, .ref m_state, .ref m_gate, .ref m_guest, .ref m_gone, .int 0, .ref m_isKept, .ref m_first, .ref m_second, .int 0, .ref m_far, .ref m_wished, .ref m_wasState, .ref m_isHere, .ref m_round, .ref m_bestRound, .int 0, .int 0, .long 0, .long 0, .ref m_taken, .int 0])), (m_tape, .inl (k_tape, 1600, .inl (upd ft ((12 : Int32)).toNatClampNeg (vp_nar .byte x_3))))] := hD
  obtain ⟨f_4, ef_4⟩ : ∃ g, g = upd ft ((12 : Int32)).toNatClampNeg (vp_nar .byte x_3) := ⟨_, rfl⟩
  rw [← ef_4] at hP hD
  refine lv_aload_n hx hb dX7_four_20 rfl (lv_at hl 1 rfl) ?_
  refine lv_dup hx hb dX7_four_21 rfl ?_
  refine va_get (D := (dC, dI)) (ci := 7) (v := .int 12) (C := RX7) (T := TX7) (N := 39) hx hb hts in_X7_four_12_X7 hown hK hP 0 rfl rfl 6 (by decide) (hts _ wd_X7_four_12_1) (fun _ h9 => h9) rfl dX7_four_22 ?_
  refine lv_iconst (v := 1) hx hb dX7_four_25 (by decide) ?_
  refine lv_iadd hx hb dX7_four_26 ?_
  refine lv_topi (fun z_5 ez_5 => ?_)
  obtain rfl : z_5 = 13 := ez_5.trans (by decide)
  refine va_put (D := (dC, dI)) (ci := 7) (v := .int 13) (ty := .int) (C := RX7) (T := TX7) (N := 39) hx hb hts in_X7_four_12_X7 tyX7 tyX7_ok nmX7 hown hK hP hD hS 0 rfl rfl 6 (by decide) (hts _ wd_X7_four_12_1) (fun _ h9 => h9) rfl (by decide +kernel) rfl rfl (Nat.le_of_ble_eq_true rfl) dX7_four_27 (fun H locs hP hD hS => ?_)
  have hP : va_P (dC, dI) vwCl [(h0, .inr (7, [.int 0, .ref m_width, .ref m_many, .ref m_cells, .ref m_moved, .ref m_tape, .int 13, .int 0, .int 0, .int 0, .int 0, .long 0, .int 0, .int 0, .int 0, .int (-1), .ref m_lines, .ref m_has, .ref m_state, .ref m_gate, .ref m_guest, .ref m_gone, .int 0, .ref m_isKept, .ref m_first, .ref m_second, .int 0, .ref m_far, .ref m_wished, .ref m_wasState, .ref m_isHere, .ref m_round, .ref m_bestRound, .int 0, .int 0, .long 0, .long 0, .ref m_taken, .int 0])), (m_tape, .inl (k_tape, 1600, .inl f_4))] H := hP
  have hD : va_D A [(h0, .inr (7, [.int 0, .ref m_width, .ref m_many, .ref m_cells, .ref m_moved, .ref m_tape, .int 13, .int 0, .int 0, .int 0, .int 0, .long 0, .int 0, .int 0, .int 0, .int (-1), .ref m_lines, .ref m_has, .ref m_state, .ref m_gate, .ref m_guest, .ref m_gone, .int 0, .ref m_isKept, .ref m_first, .ref m_second, .int 0, .ref m_far, .ref m_wished, .ref m_wasState, .ref m_isHere, .ref m_round, .ref m_bestRound, .int 0, .int 0, .long 0, .long 0, .ref m_taken, .int 0])), (m_tape, .inl (k_tape, 1600, .inl f_4))] := hD
  refine lv_iinc (v := 16) (lv' := [(2, .int 16), (0, .ref h0), (1, .int p0)]) hx hb dX7_four_30 hl (k := 0) rfl (by decide) (by decide) rfl (fun ls hl => ?_)
  refine lv_goto (tgt := 3) hx hb dX7_four_33 (by decide) ?_
  refine lv_iload_n hx hb dX7_four_3 rfl (lv_at hl 0 rfl) ?_
  refine lv_if_lt (tgt := 36) hx hb dX7_four_4 (by decide) (fun h => absurd h (by decide)) (fun _ => ?_)
  refine lv_aload_n hx hb dX7_four_7 rfl (lv_at hl 1 rfl) ?_
  refine va_get (D := (dC, dI)) (ci := 7) (v := .ref m_tape) (C := RX7) (T := TX7) (N := 39) hx hb hts in_X7_four_12_X7 hown hK hP 0 rfl rfl 5 (by decide) (hts _ wd_X7_four_12_0) (fun _ h9 => h9) rfl dX7_four_8 ?_
  refine lv_aload_n hx hb dX7_four_11 rfl (lv_at hl 1 rfl) ?_
  refine va_get (D := (dC, dI)) (ci := 7) (v := .int 13) (C := RX7) (T := TX7) (N := 39) hx hb hts in_X7_four_12_X7 hown hK hP 0 rfl rfl 6 (by decide) (hts _ wd_X7_four_12_1) (fun _ h9 => h9) rfl dX7_four_12 ?_
  refine lv_iload_n hx hb dX7_four_15 rfl (lv_at hl 2 rfl) ?_
  refine lv_iload_n hx hb dX7_four_16 rfl (lv_at hl 0 rfl) ?_
  refine lv_ishr hx hb dX7_four_17 ?_
  refine lv_topi (fun x_7 ex_7 => ?_)
  refine lv_i2b (v := x_7.toInt8.toInt32) hx hb dX7_four_18 rfl ?_
  refine lv_topi (fun x_8 ex_8 => ?_)
  refine va_bast hx hb hK hP hD hS 1 0 rfl rfl (vp_in_iff.mpr ⟨by decide, by decide⟩) dX7_four_19 (fun H locs hP hD hS => ?_)
  have hP : va_P (dC, dI) vwCl [(h0, .inr (7, [.int 0, .ref m_width, .ref m_many, .ref m_cells, .ref m_moved, .ref m_tape, .int 13, .int 0, .int 0, .int 0, .int 0, .long 0, .int 0, .int 0, .int 0, .int (-1), .ref m_lines, .ref m_has, .ref m_state, .ref m_gate, .ref m_guest, .ref m_gone, .int 0, .ref m_isKept, .ref m_first, .ref m_second, .int 0, .ref m_far, .ref m_wished, .ref m_wasState, .ref m_isHere, .ref m_round, .ref m_bestRound, .int 0, .int 0, .long 0, .long 0, .ref m_taken, .int 0])), (m_tape, .inl (k_tape, 1600, .inl (upd f_4 ((13 : Int32)).toNatClampNeg (vp_nar .byte x_8))))] H := hP
  have hD : va_D A [(h0, .inr (7, [.int 0, .ref m_width, .ref m_many, .ref m_cells, .ref m_moved, .ref m_tape, .int 13, .int 0, .int 0, .int 0, .int 0, .long 0, .int 0, .int 0, .int 0, .int (-1), .ref m_lines, .ref m_has, .ref m_state, .ref m_gate, .ref m_guest, .ref m_gone, .int 0, .ref m_isKept, .ref m_first, .ref m_second, .int 0, .ref m_far, .ref m_wished, .ref m_wasState, .ref m_isHere, .ref m_round, .ref m_bestRound, .int 0, .int 0, .long 0, .long 0, .ref m_taken, .int 0])), (m_tape, .inl (k_tape, 1600, .inl (upd f_4 ((13 : Int32)).toNatClampNeg (vp_nar .byte x_8))))] := hD
  obtain ⟨f_9, ef_9⟩ : ∃ g, g = upd f_4 ((13 : Int32)).toNatClampNeg (vp_nar .byte x_8) := ⟨_, rfl⟩
  rw [← ef_9] at hP hD
  refine lv_aload_n hx hb dX7_four_20 rfl (lv_at hl 1 rfl) ?_
  refine lv_dup hx hb dX7_four_21 rfl ?_
  refine va_get (D := (dC, dI)) (ci := 7) (v := .int 13) (C := RX7) (T := TX7) (N := 39) hx hb hts in_X7_four_12_X7 hown hK hP 0 rfl rfl 6 (by decide) (hts _ wd_X7_four_12_1) (fun _ h9 => h9) rfl dX7_four_22 ?_
  refine lv_iconst (v := 1) hx hb dX7_four_25 (by decide) ?_
  refine lv_iadd hx hb dX7_four_26 ?_
  refine lv_topi (fun z_10 ez_10 => ?_)
  obtain rfl : z_10 = 14 := ez_10.trans (by decide)
  refine va_put (D := (dC, dI)) (ci := 7) (v := .int 14) (ty := .int) (C := RX7) (T := TX7) (N := 39) hx hb hts in_X7_four_12_X7 tyX7 tyX7_ok nmX7 hown hK hP hD hS 0 rfl rfl 6 (by decide) (hts _ wd_X7_four_12_1) (fun _ h9 => h9) rfl (by decide +kernel) rfl rfl (Nat.le_of_ble_eq_true rfl) dX7_four_27 (fun H locs hP hD hS => ?_)
  have hP : va_P (dC, dI) vwCl [(h0, .inr (7, [.int 0, .ref m_width, .ref m_many, .ref m_cells, .ref m_moved, .ref m_tape, .int 14, .int 0, .int 0, .int 0, .int 0, .long 0, .int 0, .int 0, .int 0, .int (-1), .ref m_lines, .ref m_has, .ref m_state, .ref m_gate, .ref m_guest, .ref m_gone, .int 0, .ref m_isKept, .ref m_first, .ref m_second, .int 0, .ref m_far, .ref m_wished, .ref m_wasState, .ref m_isHere, .ref m_round, .ref m_bestRound, .int 0, .int 0, .long 0, .long 0, .ref m_taken, .int 0])), (m_tape, .inl (k_tape, 1600, .inl f_9))] H := hP
  have hD : va_D A [(h0, .inr (7, [.int 0, .ref m_width, .ref m_many, .ref m_cells, .ref m_moved, .ref m_tape, .int 14, .int 0, .int 0, .int 0, .int 0, .long 0, .int 0, .int 0, .int 0, .int (-1), .ref m_lines, .ref m_has, .ref m_state, .ref m_gate, .ref m_guest, .ref m_gone, .int 0, .ref m_isKept, .ref m_first, .ref m_second, .int 0, .ref m_far, .ref m_wished, .ref m_wasState, .ref m_isHere, .ref m_round, .ref m_bestRound, .int 0, .int 0, .long 0, .long 0, .ref m_taken, .int 0])), (m_tape, .inl (k_tape, 1600, .inl f_9))] := hD
  refine lv_iinc (v := 8) (lv' := [(2, .int 8), (0, .ref h0), (1, .int p0)]) hx hb dX7_four_30 hl (k := 0) rfl (by decide) (by decide) rfl (fun ls hl => ?_)
  refine lv_goto (tgt := 3) hx hb dX7_four_33 (by decide) ?_
  refine lv_iload_n hx hb dX7_four_3 rfl (lv_at hl 0 rfl) ?_
  refine lv_if_lt (tgt := 36) hx hb dX7_four_4 (by decide) (fun h => absurd h (by decide)) (fun _ => ?_)
  refine lv_aload_n hx hb dX7_four_7 rfl (lv_at hl 1 rfl) ?_
  refine va_get (D := (dC, dI)) (ci := 7) (v := .ref m_tape) (C := RX7) (T := TX7) (N := 39) hx hb hts in_X7_four_12_X7 hown hK hP 0 rfl rfl 5 (by decide) (hts _ wd_X7_four_12_0) (fun _ h9 => h9) rfl dX7_four_8 ?_
  refine lv_aload_n hx hb dX7_four_11 rfl (lv_at hl 1 rfl) ?_
  refine va_get (D := (dC, dI)) (ci := 7) (v := .int 14) (C := RX7) (T := TX7) (N := 39) hx hb hts in_X7_four_12_X7 hown hK hP 0 rfl rfl 6 (by decide) (hts _ wd_X7_four_12_1) (fun _ h9 => h9) rfl dX7_four_12 ?_
  refine lv_iload_n hx hb dX7_four_15 rfl (lv_at hl 2 rfl) ?_
  refine lv_iload_n hx hb dX7_four_16 rfl (lv_at hl 0 rfl) ?_
  refine lv_ishr hx hb dX7_four_17 ?_
  refine lv_topi (fun x_12 ex_12 => ?_)
  refine lv_i2b (v := x_12.toInt8.toInt32) hx hb dX7_four_18 rfl ?_
  refine lv_topi (fun x_13 ex_13 => ?_)
  refine va_bast hx hb hK hP hD hS 1 0 rfl rfl (vp_in_iff.mpr ⟨by decide, by decide⟩) dX7_four_19 (fun H locs hP hD hS => ?_)
  have hP : va_P (dC, dI) vwCl [(h0, .inr (7, [.int 0, .ref m_width, .ref m_many, .ref m_cells, .ref m_moved, .ref m_tape, .int 14, .int 0, .int 0, .int 0, .int 0, .long 0, .int 0, .int 0, .int 0, .int (-1), .ref m_lines, .ref m_has, .ref m_state, .ref m_gate, .ref m_guest, .ref m_gone, .int 0, .ref m_isKept, .ref m_first, .ref m_second, .int 0, .ref m_far, .ref m_wished, .ref m_wasState, .ref m_isHere, .ref m_round, .ref m_bestRound, .int 0, .int 0, .long 0, .long 0, .ref m_taken, .int 0])), (m_tape, .inl (k_tape, 1600, .inl (upd f_9 ((14 : Int32)).toNatClampNeg (vp_nar .byte x_13))))] H := hP
  have hD : va_D A [(h0, .inr (7, [.int 0, .ref m_width, .ref m_many, .ref m_cells, .ref m_moved, .ref m_tape, .int 14, .int 0, .int 0, .int 0, .int 0, .long 0, .int 0, .int 0, .int 0, .int (-1), .ref m_lines, .ref m_has, .ref m_state, .ref m_gate, .ref m_guest, .ref m_gone, .int 0, .ref m_isKept, .ref m_first, .ref m_second, .int 0, .ref m_far, .ref m_wished, .ref m_wasState, .ref m_isHere, .ref m_round, .ref m_bestRound, .int 0, .int 0, .long 0, .long 0, .ref m_taken, .int 0])), (m_tape, .inl (k_tape, 1600, .inl (upd f_9 ((14 : Int32)).toNatClampNeg (vp_nar .byte x_13))))] := hD
  obtain ⟨f_14, ef_14⟩ : ∃ g, g = upd f_9 ((14 : Int32)).toNatClampNeg (vp_nar .byte x_13) := ⟨_, rfl⟩
  rw [← ef_14] at hP hD
  refine lv_aload_n hx hb dX7_four_20 rfl (lv_at hl 1 rfl) ?_
  refine lv_dup hx hb dX7_four_21 rfl ?_
  refine va_get (D := (dC, dI)) (ci := 7) (v := .int 14) (C := RX7) (T := TX7) (N := 39) hx hb hts in_X7_four_12_X7 hown hK hP 0 rfl rfl 6 (by decide) (hts _ wd_X7_four_12_1) (fun _ h9 => h9) rfl dX7_four_22 ?_
  refine lv_iconst (v := 1) hx hb dX7_four_25 (by decide) ?_
  refine lv_iadd hx hb dX7_four_26 ?_
  refine lv_topi (fun z_15 ez_15 => ?_)
  obtain rfl : z_15 = 15 := ez_15.trans (by decide)
  refine va_put (D := (dC, dI)) (ci := 7) (v := .int 15) (ty := .int) (C := RX7) (T := TX7) (N := 39) hx hb hts in_X7_four_12_X7 tyX7 tyX7_ok nmX7 hown hK hP hD hS 0 rfl rfl 6 (by decide) (hts _ wd_X7_four_12_1) (fun _ h9 => h9) rfl (by decide +kernel) rfl rfl (Nat.le_of_ble_eq_true rfl) dX7_four_27 (fun H locs hP hD hS => ?_)
  have hP : va_P (dC, dI) vwCl [(h0, .inr (7, [.int 0, .ref m_width, .ref m_many, .ref m_cells, .ref m_moved, .ref m_tape, .int 15, .int 0, .int 0, .int 0, .int 0, .long 0, .int 0, .int 0, .int 0, .int (-1), .ref m_lines, .ref m_has, .ref m_state, .ref m_gate, .ref m_guest, .ref m_gone, .int 0, .ref m_isKept, .ref m_first, .ref m_second, .int 0, .ref m_far, .ref m_wished, .ref m_wasState, .ref m_isHere, .ref m_round, .ref m_bestRound, .int 0, .int 0, .long 0, .long 0, .ref m_taken, .int 0])), (m_tape, .inl (k_tape, 1600, .inl f_14))] H := hP
  have hD : va_D A [(h0, .inr (7, [.int 0, .ref m_width, .ref m_many, .ref m_cells, .ref m_moved, .ref m_tape, .int 15, .int 0, .int 0, .int 0, .int 0, .long 0, .int 0, .int 0, .int 0, .int (-1), .ref m_lines, .ref m_has, .ref m_state, .ref m_gate, .ref m_guest, .ref m_gone, .int 0, .ref m_isKept, .ref m_first, .ref m_second, .int 0, .ref m_far, .ref m_wished, .ref m_wasState, .ref m_isHere, .ref m_round, .ref m_bestRound, .int 0, .int 0, .long 0, .long 0, .ref m_taken, .int 0])), (m_tape, .inl (k_tape, 1600, .inl f_14))] := hD
  refine lv_iinc (v := 0) (lv' := [(2, .int 0), (0, .ref h0), (1, .int p0)]) hx hb dX7_four_30 hl (k := 0) rfl (by decide) (by decide) rfl (fun ls hl => ?_)
  refine lv_goto (tgt := 3) hx hb dX7_four_33 (by decide) ?_
  refine lv_iload_n hx hb dX7_four_3 rfl (lv_at hl 0 rfl) ?_
  refine lv_if_lt (tgt := 36) hx hb dX7_four_4 (by decide) (fun h => absurd h (by decide)) (fun _ => ?_)
  refine lv_aload_n hx hb dX7_four_7 rfl (lv_at hl 1 rfl) ?_
  refine va_get (D := (dC, dI)) (ci := 7) (v := .ref m_tape) (C := RX7) (T := TX7) (N := 39) hx hb hts in_X7_four_12_X7 hown hK hP 0 rfl rfl 5 (by decide) (hts _ wd_X7_four_12_0) (fun _ h9 => h9) rfl dX7_four_8 ?_
  refine lv_aload_n hx hb dX7_four_11 rfl (lv_at hl 1 rfl) ?_
  refine va_get (D := (dC, dI)) (ci := 7) (v := .int 15) (C := RX7) (T := TX7) (N := 39) hx hb hts in_X7_four_12_X7 hown hK hP 0 rfl rfl 6 (by decide) (hts _ wd_X7_four_12_1) (fun _ h9 => h9) rfl dX7_four_12 ?_
  refine lv_iload_n hx hb dX7_four_15 rfl (lv_at hl 2 rfl) ?_
  refine lv_iload_n hx hb dX7_four_16 rfl (lv_at hl 0 rfl) ?_
  refine lv_ishr hx hb dX7_four_17 ?_
  refine lv_topi (fun x_17 ex_17 => ?_)
  refine lv_i2b (v := x_17.toInt8.toInt32) hx hb dX7_four_18 rfl ?_
  refine lv_topi (fun x_18 ex_18 => ?_)
  refine va_bast hx hb hK hP hD hS 1 0 rfl rfl (vp_in_iff.mpr ⟨by decide, by decide⟩) dX7_four_19 (fun H locs hP hD hS => ?_)
  have hP : va_P (dC, dI) vwCl [(h0, .inr (7, [.int 0, .ref m_width, .ref m_many, .ref m_cells, .ref m_moved, .ref m_tape, .int 15, .int 0, .int 0, .int 0, .int 0, .long 0, .int 0, .int 0, .int 0, .int (-1), .ref m_lines, .ref m_has, .ref m_state, .ref m_gate, .ref m_guest, .ref m_gone, .int 0, .ref m_isKept, .ref m_first, .ref m_second, .int 0, .ref m_far, .ref m_wished, .ref m_wasState, .ref m_isHere, .ref m_round, .ref m_bestRound, .int 0, .int 0, .long 0, .long 0, .ref m_taken, .int 0])), (m_tape, .inl (k_tape, 1600, .inl (upd f_14 ((15 : Int32)).toNatClampNeg (vp_nar .byte x_18))))] H := hP
  have hD : va_D A [(h0, .inr (7, [.int 0, .ref m_width, .ref m_many, .ref m_cells, .ref m_moved, .ref m_tape, .int 15, .int 0, .int 0, .int 0, .int 0, .long 0, .int 0, .int 0, .int 0, .int (-1), .ref m_lines, .ref m_has, .ref m_state, .ref m_gate, .ref m_guest, .ref m_gone, .int 0, .ref m_isKept, .ref m_first, .ref m_second, .int 0, .ref m_far, .ref m_wished, .ref m_wasState, .ref m_isHere, .ref m_round, .ref m_bestRound, .int 0, .int 0, .long 0, .long 0, .ref m_taken, .int 0])), (m_tape, .inl (k_tape, 1600, .inl (upd f_14 ((15 : Int32)).toNatClampNeg (vp_nar .byte x_18))))] := hD
  obtain ⟨f_19, ef_19⟩ : ∃ g, g = upd f_14 ((15 : Int32)).toNatClampNeg (vp_nar .byte x_18) := ⟨_, rfl⟩
  rw [← ef_19] at hP hD
  refine lv_aload_n hx hb dX7_four_20 rfl (lv_at hl 1 rfl) ?_
  refine lv_dup hx hb dX7_four_21 rfl ?_
  refine va_get (D := (dC, dI)) (ci := 7) (v := .int 15) (C := RX7) (T := TX7) (N := 39) hx hb hts in_X7_four_12_X7 hown hK hP 0 rfl rfl 6 (by decide) (hts _ wd_X7_four_12_1) (fun _ h9 => h9) rfl dX7_four_22 ?_
  refine lv_iconst (v := 1) hx hb dX7_four_25 (by decide) ?_
  refine lv_iadd hx hb dX7_four_26 ?_
  refine lv_topi (fun z_20 ez_20 => ?_)
  obtain rfl : z_20 = 16 := ez_20.trans (by decide)
  refine va_put (D := (dC, dI)) (ci := 7) (v := .int 16) (ty := .int) (C := RX7) (T := TX7) (N := 39) hx hb hts in_X7_four_12_X7 tyX7 tyX7_ok nmX7 hown hK hP hD hS 0 rfl rfl 6 (by decide) (hts _ wd_X7_four_12_1) (fun _ h9 => h9) rfl (by decide +kernel) rfl rfl (Nat.le_of_ble_eq_true rfl) dX7_four_27 (fun H locs hP hD hS => ?_)
  have hP : va_P (dC, dI) vwCl [(h0, .inr (7, [.int 0, .ref m_width, .ref m_many, .ref m_cells, .ref m_moved, .ref m_tape, .int 16, .int 0, .int 0, .int 0, .int 0, .long 0, .int 0, .int 0, .int 0, .int (-1), .ref m_lines, .ref m_has, .ref m_state, .ref m_gate, .ref m_guest, .ref m_gone, .int 0, .ref m_isKept, .ref m_first, .ref m_second, .int 0, .ref m_far, .ref m_wished, .ref m_wasState, .ref m_isHere, .ref m_round, .ref m_bestRound, .int 0, .int 0, .long 0, .long 0, .ref m_taken, .int 0])), (m_tape, .inl (k_tape, 1600, .inl f_19))] H := hP
  have hD : va_D A [(h0, .inr (7, [.int 0, .ref m_width, .ref m_many, .ref m_cells, .ref m_moved, .ref m_tape, .int 16, .int 0, .int 0, .int 0, .int 0, .long 0, .int 0, .int 0, .int 0, .int (-1), .ref m_lines, .ref m_has, .ref m_state, .ref m_gate, .ref m_guest, .ref m_gone, .int 0, .ref m_isKept, .ref m_first, .ref m_second, .int 0, .ref m_far, .ref m_wished, .ref m_wasState, .ref m_isHere, .ref m_round, .ref m_bestRound, .int 0, .int 0, .long 0, .long 0, .ref m_taken, .int 0])), (m_tape, .inl (k_tape, 1600, .inl f_19))] := hD
  refine lv_iinc (v := -8) (lv' := [(2, .int (-8)), (0, .ref h0), (1, .int p0)]) hx hb dX7_four_30 hl (k := 0) rfl (by decide) (by decide) rfl (fun ls hl => ?_)
  refine lv_goto (tgt := 3) hx hb dX7_four_33 (by decide) ?_
  refine lv_iload_n hx hb dX7_four_3 rfl (lv_at hl 0 rfl) ?_
  refine lv_if_lt (tgt := 36) hx hb dX7_four_4 (by decide) (fun _ => ?_) (fun h => absurd (by decide) h)
  have hP9 := hP.sub (ws' := [(h0, .inr (7, [.int 0, .ref m_width, .ref m_many, .ref m_cells, .ref m_moved, .ref m_tape, .int 16, .int 0, .int 0, .int 0, .int 0, .long 0, .int 0, .int 0, .int 0, .int (-1), .ref m_lines, .ref m_has, .ref m_state, .ref m_gate, .ref m_guest, .ref m_gone, .int 0, .ref m_isKept, .ref m_first, .ref m_second, .int 0, .ref m_far, .ref m_wished, .ref m_wasState, .ref m_isHere, .ref m_round, .ref m_bestRound, .int 0, .int 0, .long 0, .long 0, .ref m_taken, .int 0])), (m_tape, .inl (k_tape, 1600, .inl f_19))]) [0, 1] rfl
  have hD9 := hD.sub (ws' := [(h0, .inr (7, [.int 0, .ref m_width, .ref m_many, .ref m_cells, .ref m_moved, .ref m_tape, .int 16, .int 0, .int 0, .int 0, .int 0, .long 0, .int 0, .int 0, .int 0, .int (-1), .ref m_lines, .ref m_has, .ref m_state, .ref m_gate, .ref m_guest, .ref m_gone, .int 0, .ref m_isKept, .ref m_first, .ref m_second, .int 0, .ref m_far, .ref m_wished, .ref m_wasState, .ref m_isHere, .ref m_round, .ref m_bestRound, .int 0, .int 0, .long 0, .long 0, .ref m_taken, .int 0])), (m_tape, .inl (k_tape, 1600, .inl f_19))]) [0, 1] (by decide) rfl
  have hK9 := hK.sub (tys' := []) [] rfl
  refine W.widen (k := 0) (n := 0) (by omega) (by omega) ?_
  exact W.vret hx hb hr (fun t ht hW => ⟨⟨(f_19), rfl, trivial, by rw [ht]; exact hP9, va_K.moved hW.alike hK9, hD9⟩, hS.F ht⟩) hS.2.2 dX7_four_36

def wz_X7_four_16 : List Cond := .code yX7_four cX7_four 3 none :: ([Cond.fieldLink RX7 23 "HedgeMazeModel" "tape" "[B", Cond.fieldLink RX7 97 "HedgeMazeModel" "taped" "I"] ++ wsX70)
theorem wd_X7_four_16_0 : Cond.fieldLink RX7 23 "HedgeMazeModel" "tape" "[B" ∈ wz_X7_four_16 := List.mem_of_getElem? (i := 1) rfl
theorem wd_X7_four_16_1 : Cond.fieldLink RX7 97 "HedgeMazeModel" "taped" "I" ∈ wz_X7_four_16 := List.mem_of_getElem? (i := 2) rfl
theorem in_X7_four_16_X7 : ∀ w ∈ wsX70, w ∈ wz_X7_four_16 := fun _ h => List.mem_cons_of_mem _ (List.mem_append_right _ h)
set_option maxHeartbeats 4000000 in
set_option maxRecDepth 100000 in
theorem c_X7_four_16 (l : Launch) (dC : Nat → ClassId) (dI : Nat → Nat → Nat) (sz : Nat) (h0 : Nat) (m_width : Nat) (m_many : Nat) (m_cells : Nat) (m_moved : Nat) (m_tape : Nat) (m_lines : Nat) (m_has : Nat) (m_state : Nat) (m_gate : Nat) (m_guest : Nat) (m_gone : Nat) (m_isKept : Nat) (m_first : Nat) (m_second : Nat) (m_far : Nat) (m_wished : Nat) (m_wasState : Nat) (m_isHere : Nat) (m_round : Nat) (m_bestRound : Nat) (m_taken : Nat) (k_tape : ClassId) (ft : Nat → Int32) (p0 : Int32)  : Met l yX7_four wz_X7_four_16 ({ frames := 0, cells := 0, slots := 0, locals := 0 }) (va_Pc [.ref h0, .int p0] (fun U => U.heap.size = sz ∧ va_P (dC, dI) vwCl [(h0, .inr (7, [.int 0, .ref m_width, .ref m_many, .ref m_cells, .ref m_moved, .ref m_tape, .int 16, .int 0, .int 0, .int 0, .int 0, .long 0, .int 0, .int 0, .int 0, .int (-1), .ref m_lines, .ref m_has, .ref m_state, .ref m_gate, .ref m_guest, .ref m_gone, .int 0, .ref m_isKept, .ref m_first, .ref m_second, .int 0, .ref m_far, .ref m_wished, .ref m_wasState, .ref m_isHere, .ref m_round, .ref m_bestRound, .int 0, .int 0, .long 0, .long 0, .ref m_taken, .int 0])), (m_tape, .inl (k_tape, 1600, .inl ft))] U.heap ∧ va_K (dC, dI) vwCl [(k_tape, .byte)] U ∧ va_D (fun _ => True) [(h0, .inr (7, [.int 0, .ref m_width, .ref m_many, .ref m_cells, .ref m_moved, .ref m_tape, .int 16, .int 0, .int 0, .int 0, .int 0, .long 0, .int 0, .int 0, .int 0, .int (-1), .ref m_lines, .ref m_has, .ref m_state, .ref m_gate, .ref m_guest, .ref m_gone, .int 0, .ref m_isKept, .ref m_first, .ref m_second, .int 0, .ref m_far, .ref m_wished, .ref m_wasState, .ref m_isHere, .ref m_round, .ref m_bestRound, .int 0, .int 0, .long 0, .long 0, .ref m_taken, .int 0])), (m_tape, .inl (k_tape, 1600, .inl ft))])) (va_Qv (fun (u : (Nat → Int32)) => True) (fun (u : (Nat → Int32)) (t : State) => va_P (dC, dI) vwCl [(h0, .inr (7, [.int 0, .ref m_width, .ref m_many, .ref m_cells, .ref m_moved, .ref m_tape, .int 20, .int 0, .int 0, .int 0, .int 0, .long 0, .int 0, .int 0, .int 0, .int (-1), .ref m_lines, .ref m_has, .ref m_state, .ref m_gate, .ref m_guest, .ref m_gone, .int 0, .ref m_isKept, .ref m_first, .ref m_second, .int 0, .ref m_far, .ref m_wished, .ref m_wasState, .ref m_isHere, .ref m_round, .ref m_bestRound, .int 0, .int 0, .long 0, .long 0, .ref m_taken, .int 0])), (m_tape, .inl (k_tape, 1600, .inl u))] t.heap ∧ va_K (dC, dI) vwCl [] t ∧ va_D (va_A [(h0, .inr (7, [.int 0, .ref m_width, .ref m_many, .ref m_cells, .ref m_moved, .ref m_tape, .int 16, .int 0, .int 0, .int 0, .int 0, .long 0, .int 0, .int 0, .int 0, .int (-1), .ref m_lines, .ref m_has, .ref m_state, .ref m_gate, .ref m_guest, .ref m_gone, .int 0, .ref m_isKept, .ref m_first, .ref m_second, .int 0, .ref m_far, .ref m_wished, .ref m_wasState, .ref m_isHere, .ref m_round, .ref m_bestRound, .int 0, .int 0, .long 0, .long 0, .ref m_taken, .int 0])), (m_tape, .inl (k_tape, 1600, .inl ft))] sz) [(h0, .inr (7, [.int 0, .ref m_width, .ref m_many, .ref m_cells, .ref m_moved, .ref m_tape, .int 20, .int 0, .int 0, .int 0, .int 0, .long 0, .int 0, .int 0, .int 0, .int (-1), .ref m_lines, .ref m_has, .ref m_state, .ref m_gate, .ref m_guest, .ref m_gone, .int 0, .ref m_isKept, .ref m_first, .ref m_second, .int 0, .ref m_far, .ref m_wished, .ref m_wasState, .ref m_isHere, .ref m_round, .ref m_bestRound, .int 0, .int 0, .long 0, .long 0, .ref m_taken, .int 0])), (m_tape, .inl (k_tape, 1600, .inl u))]) (va_A [(h0, .inr (7, [.int 0, .ref m_width, .ref m_many, .ref m_cells, .ref m_moved, .ref m_tape, .int 16, .int 0, .int 0, .int 0, .int 0, .long 0, .int 0, .int 0, .int 0, .int (-1), .ref m_lines, .ref m_has, .ref m_state, .ref m_gate, .ref m_guest, .ref m_gone, .int 0, .ref m_isKept, .ref m_first, .ref m_second, .int 0, .ref m_far, .ref m_wished, .ref m_wasState, .ref m_isHere, .ref m_round, .ref m_bestRound, .int 0, .int 0, .long 0, .long 0, .ref m_taken, .int 0])), (m_tape, .inl (k_tape, 1600, .inl ft))] sz)) 0 0 (va_A [(h0, .inr (7, [.int 0, .ref m_width, .ref m_many, .ref m_cells, .ref m_moved, .ref m_tape, .int 16, .int 0, .int 0, .int 0, .int 0, .long 0, .int 0, .int 0, .int 0, .int (-1), .ref m_lines, .ref m_has, .ref m_state, .ref m_gate, .ref m_guest, .ref m_gone, .int 0, .ref m_isKept, .ref m_first, .ref m_second, .int 0, .ref m_far, .ref m_wished, .ref m_wasState, .ref m_isHere, .ref m_round, .ref m_bestRound, .int 0, .int 0, .long 0, .long 0, .ref m_taken, .int 0])), (m_tape, .inl (k_tape, 1600, .inl ft))] sz) := by
  refine Met.ofW (cc := cX7_four) (maxL := 3) (ret := none) (by decide) rfl ?_
  intro p e s m args below meth c s₁ B hml hv
  obtain ⟨rfl, hsz, hP, hK, hD0⟩ := hv
  have hx := B.exec
  have hb := B.bytes
  have hr := B.returns
  have hts := atoms_spec (ws := wz_X7_four_16) B.pre
  have hown : s.vm.findClass RX7 = some m.cls := findClass_of_methodNamed B.named
  have hlocks := B.notSynchronized
  subst hsz
  have hD := hD0.self (sz := s.heap.size)
  generalize hAe : va_A [(h0, .inr (7, [.int 0, .ref m_width, .ref m_many, .ref m_cells, .ref m_moved, .ref m_tape, .int 16, .int 0, .int 0, .int 0, .int 0, .long 0, .int 0, .int 0, .int 0, .int (-1), .ref m_lines, .ref m_has, .ref m_state, .ref m_gate, .ref m_guest, .ref m_gone, .int 0, .ref m_isKept, .ref m_first, .ref m_second, .int 0, .ref m_far, .ref m_wished, .ref m_wasState, .ref m_isHere, .ref m_round, .ref m_bestRound, .int 0, .int 0, .long 0, .long 0, .ref m_taken, .int 0])), (m_tape, .inl (k_tape, 1600, .inl ft))] s.heap.size = A at hD ⊢
  have hA : ∀ q : Nat, s.heap.size ≤ q → A q := fun q h => by rw [← hAe]; exact Or.inr h
  have hS : va_S A s.heap s.heap [] := va_S.rf
  have hP : va_P (dC, dI) vwCl [(h0, .inr (7, [.int 0, .ref m_width, .ref m_many, .ref m_cells, .ref m_moved, .ref m_tape, .int 16, .int 0, .int 0, .int 0, .int 0, .long 0, .int 0, .int 0, .int 0, .int (-1), .ref m_lines, .ref m_has, .ref m_state, .ref m_gate, .ref m_guest, .ref m_gone, .int 0, .ref m_isKept, .ref m_first, .ref m_second, .int 0, .ref m_far, .ref m_wished, .ref m_wasState, .ref m_isHere, .ref m_round, .ref m_bestRound, .int 0, .int 0, .long 0, .long 0, .ref m_taken, .int 0])), (m_tape, .inl (k_tape, 1600, .inl ft))] s.heap := hP
  have hl := lv_entry ([.ref h0, .int p0]) (n := 3) (Nat.le_of_ble_eq_true rfl)
  rw [lg_entry_eq]
  generalize (lg_sl ([.ref h0, .int p0]) ++ List.replicate (3 - (lg_sl ([.ref h0, .int p0])).length) Slot.unset).toArray = ls at hl ⊢
  have hl : lv_has ls 3 [(0, .ref h0), (1, .int p0)] := hl
  refine lv_bipush (v := 24) hx hb dX7_four_0 (by decide) ?_
  refine lv_istore_n (lv' := [(2, .int 24), (0, .ref h0), (1, .int p0)]) hx hb dX7_four_2 rfl hl (by decide) rfl (fun ls hl => ?_)
  refine lv_iload_n hx hb dX7_four_3 rfl (lv_at hl 0 rfl) ?_
  refine lv_if_lt (tgt := 36) hx hb dX7_four_4 (by decide) (fun h => absurd h (by decide)) (fun _ => ?_)
  refine lv_aload_n hx hb dX7_four_7 rfl (lv_at hl 1 rfl) ?_
  refine va_get (D := (dC, dI)) (ci := 7) (v := .ref m_tape) (C := RX7) (T := TX7) (N := 39) hx hb hts in_X7_four_16_X7 hown hK hP 0 rfl rfl 5 (by decide) (hts _ wd_X7_four_16_0) (fun _ h9 => h9) rfl dX7_four_8 ?_
  refine lv_aload_n hx hb dX7_four_11 rfl (lv_at hl 1 rfl) ?_
  refine va_get (D := (dC, dI)) (ci := 7) (v := .int 16) (C := RX7) (T := TX7) (N := 39) hx hb hts in_X7_four_16_X7 hown hK hP 0 rfl rfl 6 (by decide) (hts _ wd_X7_four_16_1) (fun _ h9 => h9) rfl dX7_four_12 ?_
  refine lv_iload_n hx hb dX7_four_15 rfl (lv_at hl 2 rfl) ?_
  refine lv_iload_n hx hb dX7_four_16 rfl (lv_at hl 0 rfl) ?_
  refine lv_ishr hx hb dX7_four_17 ?_
  refine lv_topi (fun x_2 ex_2 => ?_)
  refine lv_i2b (v := x_2.toInt8.toInt32) hx hb dX7_four_18 rfl ?_
  refine lv_topi (fun x_3 ex_3 => ?_)
  refine va_bast hx hb hK hP hD hS 1 0 rfl rfl (vp_in_iff.mpr ⟨by decide, by decide⟩) dX7_four_19 (fun H locs hP hD hS => ?_)
  have hP : va_P (dC, dI) vwCl [(h0, .inr (7, [.int 0, .ref m_width, .ref m_many, .ref m_cells, .ref m_moved, .ref m_tape, .int 16, .int 0, .int 0, .int 0, .int 0, .long 0, .int 0, .int 0, .int 0, .int (-1), .ref m_lines, .ref m_has, .ref m_state, .ref m_gate, .ref m_guest, .ref m_gone, .int 0, .ref m_isKept, .ref m_first, .ref m_second, .int 0, .ref m_far, .ref m_wished, .ref m_wasState, .ref m_isHere, .ref m_round, .ref m_bestRound, .int 0, .int 0, .long 0, .long 0, .ref m_taken, .int 0])), (m_tape, .inl (k_tape, 1600, .inl (upd ft ((16 : Int32)).toNatClampNeg (vp_nar .byte x_3))))] H := hP
  have hD : va_D A [(h0, .inr (7, [.int 0, .ref m_width, .ref m_many, .ref m_cells, .ref m_moved, .ref m_tape, .int 16, .int 0, .int 0, .int 0, .int 0, .long 0, .int 0, .int 0, .int 0, .int (-1), .ref m_lines, .ref m_has, .ref m_state, .ref m_gate, .ref m_guest, .ref m_gone, .int 0, .ref m_isKept, .ref m_first, .ref m_second, .int 0, .ref m_far, .ref m_wished, .ref m_wasState, .ref m_isHere, .ref m_round, .ref m_bestRound, .int 0, .int 0, .long 0, .long 0, .ref m_taken, .int 0])), (m_tape, .inl (k_tape, 1600, .inl (upd ft ((16 : Int32)).toNatClampNeg (vp_nar .byte x_3))))] := hD
  obtain ⟨f_4, ef_4⟩ : ∃ g, g = upd ft ((16 : Int32)).toNatClampNeg (vp_nar .byte x_3) := ⟨_, rfl⟩
  rw [← ef_4] at hP hD
  refine lv_aload_n hx hb dX7_four_20 rfl (lv_at hl 1 rfl) ?_
  refine lv_dup hx hb dX7_four_21 rfl ?_
  refine va_get (D := (dC, dI)) (ci := 7) (v := .int 16) (C := RX7) (T := TX7) (N := 39) hx hb hts in_X7_four_16_X7 hown hK hP 0 rfl rfl 6 (by decide) (hts _ wd_X7_four_16_1) (fun _ h9 => h9) rfl dX7_four_22 ?_
  refine lv_iconst (v := 1) hx hb dX7_four_25 (by decide) ?_
  refine lv_iadd hx hb dX7_four_26 ?_
  refine lv_topi (fun z_5 ez_5 => ?_)
  obtain rfl : z_5 = 17 := ez_5.trans (by decide)
  refine va_put (D := (dC, dI)) (ci := 7) (v := .int 17) (ty := .int) (C := RX7) (T := TX7) (N := 39) hx hb hts in_X7_four_16_X7 tyX7 tyX7_ok nmX7 hown hK hP hD hS 0 rfl rfl 6 (by decide) (hts _ wd_X7_four_16_1) (fun _ h9 => h9) rfl (by decide +kernel) rfl rfl (Nat.le_of_ble_eq_true rfl) dX7_four_27 (fun H locs hP hD hS => ?_)
  have hP : va_P (dC, dI) vwCl [(h0, .inr (7, [.int 0, .ref m_width, .ref m_many, .ref m_cells, .ref m_moved, .ref m_tape, .int 17, .int 0, .int 0, .int 0, .int 0, .long 0, .int 0, .int 0, .int 0, .int (-1), .ref m_lines, .ref m_has, .ref m_state, .ref m_gate, .ref m_guest, .ref m_gone, .int 0, .ref m_isKept, .ref m_first, .ref m_second, .int 0, .ref m_far, .ref m_wished, .ref m_wasState, .ref m_isHere, .ref m_round, .ref m_bestRound, .int 0, .int 0, .long 0, .long 0, .ref m_taken, .int 0])), (m_tape, .inl (k_tape, 1600, .inl f_4))] H := hP
  have hD : va_D A [(h0, .inr (7, [.int 0, .ref m_width, .ref m_many, .ref m_cells, .ref m_moved, .ref m_tape, .int 17, .int 0, .int 0, .int 0, .int 0, .long 0, .int 0, .int 0, .int 0, .int (-1), .ref m_lines, .ref m_has, .ref m_state, .ref m_gate, .ref m_guest, .ref m_gone, .int 0, .ref m_isKept, .ref m_first, .ref m_second, .int 0, .ref m_far, .ref m_wished, .ref m_wasState, .ref m_isHere, .ref m_round, .ref m_bestRound, .int 0, .int 0, .long 0, .long 0, .ref m_taken, .int 0])), (m_tape, .inl (k_tape, 1600, .inl f_4))] := hD
  refine lv_iinc (v := 16) (lv' := [(2, .int 16), (0, .ref h0), (1, .int p0)]) hx hb dX7_four_30 hl (k := 0) rfl (by decide) (by decide) rfl (fun ls hl => ?_)
  refine lv_goto (tgt := 3) hx hb dX7_four_33 (by decide) ?_
  refine lv_iload_n hx hb dX7_four_3 rfl (lv_at hl 0 rfl) ?_
  refine lv_if_lt (tgt := 36) hx hb dX7_four_4 (by decide) (fun h => absurd h (by decide)) (fun _ => ?_)
  refine lv_aload_n hx hb dX7_four_7 rfl (lv_at hl 1 rfl) ?_
  refine va_get (D := (dC, dI)) (ci := 7) (v := .ref m_tape) (C := RX7) (T := TX7) (N := 39) hx hb hts in_X7_four_16_X7 hown hK hP 0 rfl rfl 5 (by decide) (hts _ wd_X7_four_16_0) (fun _ h9 => h9) rfl dX7_four_8 ?_
  refine lv_aload_n hx hb dX7_four_11 rfl (lv_at hl 1 rfl) ?_
  refine va_get (D := (dC, dI)) (ci := 7) (v := .int 17) (C := RX7) (T := TX7) (N := 39) hx hb hts in_X7_four_16_X7 hown hK hP 0 rfl rfl 6 (by decide) (hts _ wd_X7_four_16_1) (fun _ h9 => h9) rfl dX7_four_12 ?_
  refine lv_iload_n hx hb dX7_four_15 rfl (lv_at hl 2 rfl) ?_
  refine lv_iload_n hx hb dX7_four_16 rfl (lv_at hl 0 rfl) ?_
  refine lv_ishr hx hb dX7_four_17 ?_
  refine lv_topi (fun x_7 ex_7 => ?_)
  refine lv_i2b (v := x_7.toInt8.toInt32) hx hb dX7_four_18 rfl ?_
  refine lv_topi (fun x_8 ex_8 => ?_)
  refine va_bast hx hb hK hP hD hS 1 0 rfl rfl (vp_in_iff.mpr ⟨by decide, by decide⟩) dX7_four_19 (fun H locs hP hD hS => ?_)
  have hP : va_P (dC, dI) vwCl [(h0, .inr (7, [.int 0, .ref m_width, .ref m_many, .ref m_cells, .ref m_moved, .ref m_tape, .int 17, .int 0, .int 0, .int 0, .int 0, .long 0, .int 0, .int 0, .int 0, .int (-1), .ref m_lines, .ref m_has, .ref m_state, .ref m_gate, .ref m_guest, .ref m_gone, .int 0, .ref m_isKept, .ref m_first, .ref m_second, .int 0, .ref m_far, .ref m_wished, .ref m_wasState, .ref m_isHere, .ref m_round, .ref m_bestRound, .int 0, .int 0, .long 0, .long 0, .ref m_taken, .int 0])), (m_tape, .inl (k_tape, 1600, .inl (upd f_4 ((17 : Int32)).toNatClampNeg (vp_nar .byte x_8))))] H := hP
  have hD : va_D A [(h0, .inr (7, [.int 0, .ref m_width, .ref m_many, .ref m_cells, .ref m_moved, .ref m_tape, .int 17, .int 0, .int 0, .int 0, .int 0, .long 0, .int 0, .int 0, .int 0, .int (-1), .ref m_lines, .ref m_has, .ref m_state, .ref m_gate, .ref m_guest, .ref m_gone, .int 0, .ref m_isKept, .ref m_first, .ref m_second, .int 0, .ref m_far, .ref m_wished, .ref m_wasState, .ref m_isHere, .ref m_round, .ref m_bestRound, .int 0, .int 0, .long 0, .long 0, .ref m_taken, .int 0])), (m_tape, .inl (k_tape, 1600, .inl (upd f_4 ((17 : Int32)).toNatClampNeg (vp_nar .byte x_8))))] := hD
  obtain ⟨f_9, ef_9⟩ : ∃ g, g = upd f_4 ((17 : Int32)).toNatClampNeg (vp_nar .byte x_8) := ⟨_, rfl⟩
  rw [← ef_9] at hP hD
  refine lv_aload_n hx hb dX7_four_20 rfl (lv_at hl 1 rfl) ?_
  refine lv_dup hx hb dX7_four_21 rfl ?_
  refine va_get (D := (dC, dI)) (ci := 7) (v := .int 17) (C := RX7) (T := TX7) (N := 39) hx hb hts in_X7_four_16_X7 hown hK hP 0 rfl rfl 6 (by decide) (hts _ wd_X7_four_16_1) (fun _ h9 => h9) rfl dX7_four_22 ?_
  refine lv_iconst (v := 1) hx hb dX7_four_25 (by decide) ?_
  refine lv_iadd hx hb dX7_four_26 ?_
  refine lv_topi (fun z_10 ez_10 => ?_)
  obtain rfl : z_10 = 18 := ez_10.trans (by decide)
  refine va_put (D := (dC, dI)) (ci := 7) (v := .int 18) (ty := .int) (C := RX7) (T := TX7) (N := 39) hx hb hts in_X7_four_16_X7 tyX7 tyX7_ok nmX7 hown hK hP hD hS 0 rfl rfl 6 (by decide) (hts _ wd_X7_four_16_1) (fun _ h9 => h9) rfl (by decide +kernel) rfl rfl (Nat.le_of_ble_eq_true rfl) dX7_four_27 (fun H locs hP hD hS => ?_)
  have hP : va_P (dC, dI) vwCl [(h0, .inr (7, [.int 0, .ref m_width, .ref m_many, .ref m_cells, .ref m_moved, .ref m_tape, .int 18, .int 0, .int 0, .int 0, .int 0, .long 0, .int 0, .int 0, .int 0, .int (-1), .ref m_lines, .ref m_has, .ref m_state, .ref m_gate, .ref m_guest, .ref m_gone, .int 0, .ref m_isKept, .ref m_first, .ref m_second, .int 0, .ref m_far, .ref m_wished, .ref m_wasState, .ref m_isHere, .ref m_round, .ref m_bestRound, .int 0, .int 0, .long 0, .long 0, .ref m_taken, .int 0])), (m_tape, .inl (k_tape, 1600, .inl f_9))] H := hP
  have hD : va_D A [(h0, .inr (7, [.int 0, .ref m_width, .ref m_many, .ref m_cells, .ref m_moved, .ref m_tape, .int 18, .int 0, .int 0, .int 0, .int 0, .long 0, .int 0, .int 0, .int 0, .int (-1), .ref m_lines, .ref m_has, .ref m_state, .ref m_gate, .ref m_guest, .ref m_gone, .int 0, .ref m_isKept, .ref m_first, .ref m_second, .int 0, .ref m_far, .ref m_wished, .ref m_wasState, .ref m_isHere, .ref m_round, .ref m_bestRound, .int 0, .int 0, .long 0, .long 0, .ref m_taken, .int 0])), (m_tape, .inl (k_tape, 1600, .inl f_9))] := hD
  refine lv_iinc (v := 8) (lv' := [(2, .int 8), (0, .ref h0), (1, .int p0)]) hx hb dX7_four_30 hl (k := 0) rfl (by decide) (by decide) rfl (fun ls hl => ?_)
  refine lv_goto (tgt := 3) hx hb dX7_four_33 (by decide) ?_
  refine lv_iload_n hx hb dX7_four_3 rfl (lv_at hl 0 rfl) ?_
  refine lv_if_lt (tgt := 36) hx hb dX7_four_4 (by decide) (fun h => absurd h (by decide)) (fun _ => ?_)
  refine lv_aload_n hx hb dX7_four_7 rfl (lv_at hl 1 rfl) ?_
  refine va_get (D := (dC, dI)) (ci := 7) (v := .ref m_tape) (C := RX7) (T := TX7) (N := 39) hx hb hts in_X7_four_16_X7 hown hK hP 0 rfl rfl 5 (by decide) (hts _ wd_X7_four_16_0) (fun _ h9 => h9) rfl dX7_four_8 ?_
  refine lv_aload_n hx hb dX7_four_11 rfl (lv_at hl 1 rfl) ?_
  refine va_get (D := (dC, dI)) (ci := 7) (v := .int 18) (C := RX7) (T := TX7) (N := 39) hx hb hts in_X7_four_16_X7 hown hK hP 0 rfl rfl 6 (by decide) (hts _ wd_X7_four_16_1) (fun _ h9 => h9) rfl dX7_four_12 ?_
  refine lv_iload_n hx hb dX7_four_15 rfl (lv_at hl 2 rfl) ?_
  refine lv_iload_n hx hb dX7_four_16 rfl (lv_at hl 0 rfl) ?_
  refine lv_ishr hx hb dX7_four_17 ?_
  refine lv_topi (fun x_12 ex_12 => ?_)
  refine lv_i2b (v := x_12.toInt8.toInt32) hx hb dX7_four_18 rfl ?_
  refine lv_topi (fun x_13 ex_13 => ?_)
  refine va_bast hx hb hK hP hD hS 1 0 rfl rfl (vp_in_iff.mpr ⟨by decide, by decide⟩) dX7_four_19 (fun H locs hP hD hS => ?_)
  have hP : va_P (dC, dI) vwCl [(h0, .inr (7, [.int 0, .ref m_width, .ref m_many, .ref m_cells, .ref m_moved, .ref m_tape, .int 18, .int 0, .int 0, .int 0, .int 0, .long 0, .int 0, .int 0, .int 0, .int (-1), .ref m_lines, .ref m_has, .ref m_state, .ref m_gate, .ref m_guest, .ref m_gone, .int 0, .ref m_isKept, .ref m_first, .ref m_second, .int 0, .ref m_far, .ref m_wished, .ref m_wasState, .ref m_isHere, .ref m_round, .ref m_bestRound, .int 0, .int 0, .long 0, .long 0, .ref m_taken, .int 0])), (m_tape, .inl (k_tape, 1600, .inl (upd f_9 ((18 : Int32)).toNatClampNeg (vp_nar .byte x_13))))] H := hP
  have hD : va_D A [(h0, .inr (7, [.int 0, .ref m_width, .ref m_many, .ref m_cells, .ref m_moved, .ref m_tape, .int 18, .int 0, .int 0, .int 0, .int 0, .long 0, .int 0, .int 0, .int 0, .int (-1), .ref m_lines, .ref m_has, .ref m_state, .ref m_gate, .ref m_guest, .ref m_gone, .int 0, .ref m_isKept, .ref m_first, .ref m_second, .int 0, .ref m_far, .ref m_wished, .ref m_wasState, .ref m_isHere, .ref m_round, .ref m_bestRound, .int 0, .int 0, .long 0, .long 0, .ref m_taken, .int 0])), (m_tape, .inl (k_tape, 1600, .inl (upd f_9 ((18 : Int32)).toNatClampNeg (vp_nar .byte x_13))))] := hD
  obtain ⟨f_14, ef_14⟩ : ∃ g, g = upd f_9 ((18 : Int32)).toNatClampNeg (vp_nar .byte x_13) := ⟨_, rfl⟩
  rw [← ef_14] at hP hD
  refine lv_aload_n hx hb dX7_four_20 rfl (lv_at hl 1 rfl) ?_
  refine lv_dup hx hb dX7_four_21 rfl ?_
  refine va_get (D := (dC, dI)) (ci := 7) (v := .int 18) (C := RX7) (T := TX7) (N := 39) hx hb hts in_X7_four_16_X7 hown hK hP 0 rfl rfl 6 (by decide) (hts _ wd_X7_four_16_1) (fun _ h9 => h9) rfl dX7_four_22 ?_
  refine lv_iconst (v := 1) hx hb dX7_four_25 (by decide) ?_
  refine lv_iadd hx hb dX7_four_26 ?_
  refine lv_topi (fun z_15 ez_15 => ?_)
  obtain rfl : z_15 = 19 := ez_15.trans (by decide)
  refine va_put (D := (dC, dI)) (ci := 7) (v := .int 19) (ty := .int) (C := RX7) (T := TX7) (N := 39) hx hb hts in_X7_four_16_X7 tyX7 tyX7_ok nmX7 hown hK hP hD hS 0 rfl rfl 6 (by decide) (hts _ wd_X7_four_16_1) (fun _ h9 => h9) rfl (by decide +kernel) rfl rfl (Nat.le_of_ble_eq_true rfl) dX7_four_27 (fun H locs hP hD hS => ?_)
  have hP : va_P (dC, dI) vwCl [(h0, .inr (7, [.int 0, .ref m_width, .ref m_many, .ref m_cells, .ref m_moved, .ref m_tape, .int 19, .int 0, .int 0, .int 0, .int 0, .long 0, .int 0, .int 0, .int 0, .int (-1), .ref m_lines, .ref m_has, .ref m_state, .ref m_gate, .ref m_guest, .ref m_gone, .int 0, .ref m_isKept, .ref m_first, .ref m_second, .int 0, .ref m_far, .ref m_wished, .ref m_wasState, .ref m_isHere, .ref m_round, .ref m_bestRound, .int 0, .int 0, .long 0, .long 0, .ref m_taken, .int 0])), (m_tape, .inl (k_tape, 1600, .inl f_14))] H := hP
  have hD : va_D A [(h0, .inr (7, [.int 0, .ref m_width, .ref m_many, .ref m_cells, .ref m_moved, .ref m_tape, .int 19, .int 0, .int 0, .int 0, .int 0, .long 0, .int 0, .int 0, .int 0, .int (-1), .ref m_lines, .ref m_has, .ref m_state, .ref m_gate, .ref m_guest, .ref m_gone, .int 0, .ref m_isKept, .ref m_first, .ref m_second, .int 0, .ref m_far, .ref m_wished, .ref m_wasState, .ref m_isHere, .ref m_round, .ref m_bestRound, .int 0, .int 0, .long 0, .long 0, .ref m_taken, .int 0])), (m_tape, .inl (k_tape, 1600, .inl f_14))] := hD
  refine lv_iinc (v := 0) (lv' := [(2, .int 0), (0, .ref h0), (1, .int p0)]) hx hb dX7_four_30 hl (k := 0) rfl (by decide) (by decide) rfl (fun ls hl => ?_)
  refine lv_goto (tgt := 3) hx hb dX7_four_33 (by decide) ?_
  refine lv_iload_n hx hb dX7_four_3 rfl (lv_at hl 0 rfl) ?_
  refine lv_if_lt (tgt := 36) hx hb dX7_four_4 (by decide) (fun h => absurd h (by decide)) (fun _ => ?_)
  refine lv_aload_n hx hb dX7_four_7 rfl (lv_at hl 1 rfl) ?_
  refine va_get (D := (dC, dI)) (ci := 7) (v := .ref m_tape) (C := RX7) (T := TX7) (N := 39) hx hb hts in_X7_four_16_X7 hown hK hP 0 rfl rfl 5 (by decide) (hts _ wd_X7_four_16_0) (fun _ h9 => h9) rfl dX7_four_8 ?_
  refine lv_aload_n hx hb dX7_four_11 rfl (lv_at hl 1 rfl) ?_
  refine va_get (D := (dC, dI)) (ci := 7) (v := .int 19) (C := RX7) (T := TX7) (N := 39) hx hb hts in_X7_four_16_X7 hown hK hP 0 rfl rfl 6 (by decide) (hts _ wd_X7_four_16_1) (fun _ h9 => h9) rfl dX7_four_12 ?_
  refine lv_iload_n hx hb dX7_four_15 rfl (lv_at hl 2 rfl) ?_
  refine lv_iload_n hx hb dX7_four_16 rfl (lv_at hl 0 rfl) ?_
  refine lv_ishr hx hb dX7_four_17 ?_
  refine lv_topi (fun x_17 ex_17 => ?_)
  refine lv_i2b (v := x_17.toInt8.toInt32) hx hb dX7_four_18 rfl ?_
  refine lv_topi (fun x_18 ex_18 => ?_)
  refine va_bast hx hb hK hP hD hS 1 0 rfl rfl (vp_in_iff.mpr ⟨by decide, by decide⟩) dX7_four_19 (fun H locs hP hD hS => ?_)
  have hP : va_P (dC, dI) vwCl [(h0, .inr (7, [.int 0, .ref m_width, .ref m_many, .ref m_cells, .ref m_moved, .ref m_tape, .int 19, .int 0, .int 0, .int 0, .int 0, .long 0, .int 0, .int 0, .int 0, .int (-1), .ref m_lines, .ref m_has, .ref m_state, .ref m_gate, .ref m_guest, .ref m_gone, .int 0, .ref m_isKept, .ref m_first, .ref m_second, .int 0, .ref m_far, .ref m_wished, .ref m_wasState, .ref m_isHere, .ref m_round, .ref m_bestRound, .int 0, .int 0, .long 0, .long 0, .ref m_taken, .int 0])), (m_tape, .inl (k_tape, 1600, .inl (upd f_14 ((19 : Int32)).toNatClampNeg (vp_nar .byte x_18))))] H := hP
  have hD : va_D A [(h0, .inr (7, [.int 0, .ref m_width, .ref m_many, .ref m_cells, .ref m_moved, .ref m_tape, .int 19, .int 0, .int 0, .int 0, .int 0, .long 0, .int 0, .int 0, .int 0, .int (-1), .ref m_lines, .ref m_has, .ref m_state, .ref m_gate, .ref m_guest, .ref m_gone, .int 0, .ref m_isKept, .ref m_first, .ref m_second, .int 0, .ref m_far, .ref m_wished, .ref m_wasState, .ref m_isHere, .ref m_round, .ref m_bestRound, .int 0, .int 0, .long 0, .long 0, .ref m_taken, .int 0])), (m_tape, .inl (k_tape, 1600, .inl (upd f_14 ((19 : Int32)).toNatClampNeg (vp_nar .byte x_18))))] := hD
  obtain ⟨f_19, ef_19⟩ : ∃ g, g = upd f_14 ((19 : Int32)).toNatClampNeg (vp_nar .byte x_18) := ⟨_, rfl⟩
  rw [← ef_19] at hP hD
  refine lv_aload_n hx hb dX7_four_20 rfl (lv_at hl 1 rfl) ?_
  refine lv_dup hx hb dX7_four_21 rfl ?_
  refine va_get (D := (dC, dI)) (ci := 7) (v := .int 19) (C := RX7) (T := TX7) (N := 39) hx hb hts in_X7_four_16_X7 hown hK hP 0 rfl rfl 6 (by decide) (hts _ wd_X7_four_16_1) (fun _ h9 => h9) rfl dX7_four_22 ?_
  refine lv_iconst (v := 1) hx hb dX7_four_25 (by decide) ?_
  refine lv_iadd hx hb dX7_four_26 ?_
  refine lv_topi (fun z_20 ez_20 => ?_)
  obtain rfl : z_20 = 20 := ez_20.trans (by decide)
  refine va_put (D := (dC, dI)) (ci := 7) (v := .int 20) (ty := .int) (C := RX7) (T := TX7) (N := 39) hx hb hts in_X7_four_16_X7 tyX7 tyX7_ok nmX7 hown hK hP hD hS 0 rfl rfl 6 (by decide) (hts _ wd_X7_four_16_1) (fun _ h9 => h9) rfl (by decide +kernel) rfl rfl (Nat.le_of_ble_eq_true rfl) dX7_four_27 (fun H locs hP hD hS => ?_)
  have hP : va_P (dC, dI) vwCl [(h0, .inr (7, [.int 0, .ref m_width, .ref m_many, .ref m_cells, .ref m_moved, .ref m_tape, .int 20, .int 0, .int 0, .int 0, .int 0, .long 0, .int 0, .int 0, .int 0, .int (-1), .ref m_lines, .ref m_has, .ref m_state, .ref m_gate, .ref m_guest, .ref m_gone, .int 0, .ref m_isKept, .ref m_first, .ref m_second, .int 0, .ref m_far, .ref m_wished, .ref m_wasState, .ref m_isHere, .ref m_round, .ref m_bestRound, .int 0, .int 0, .long 0, .long 0, .ref m_taken, .int 0])), (m_tape, .inl (k_tape, 1600, .inl f_19))] H := hP
  have hD : va_D A [(h0, .inr (7, [.int 0, .ref m_width, .ref m_many, .ref m_cells, .ref m_moved, .ref m_tape, .int 20, .int 0, .int 0, .int 0, .int 0, .long 0, .int 0, .int 0, .int 0, .int (-1), .ref m_lines, .ref m_has, .ref m_state, .ref m_gate, .ref m_guest, .ref m_gone, .int 0, .ref m_isKept, .ref m_first, .ref m_second, .int 0, .ref m_far, .ref m_wished, .ref m_wasState, .ref m_isHere, .ref m_round, .ref m_bestRound, .int 0, .int 0, .long 0, .long 0, .ref m_taken, .int 0])), (m_tape, .inl (k_tape, 1600, .inl f_19))] := hD
  refine lv_iinc (v := -8) (lv' := [(2, .int (-8)), (0, .ref h0), (1, .int p0)]) hx hb dX7_four_30 hl (k := 0) rfl (by decide) (by decide) rfl (fun ls hl => ?_)
  refine lv_goto (tgt := 3) hx hb dX7_four_33 (by decide) ?_
  refine lv_iload_n hx hb dX7_four_3 rfl (lv_at hl 0 rfl) ?_
  refine lv_if_lt (tgt := 36) hx hb dX7_four_4 (by decide) (fun _ => ?_) (fun h => absurd (by decide) h)
  have hP9 := hP.sub (ws' := [(h0, .inr (7, [.int 0, .ref m_width, .ref m_many, .ref m_cells, .ref m_moved, .ref m_tape, .int 20, .int 0, .int 0, .int 0, .int 0, .long 0, .int 0, .int 0, .int 0, .int (-1), .ref m_lines, .ref m_has, .ref m_state, .ref m_gate, .ref m_guest, .ref m_gone, .int 0, .ref m_isKept, .ref m_first, .ref m_second, .int 0, .ref m_far, .ref m_wished, .ref m_wasState, .ref m_isHere, .ref m_round, .ref m_bestRound, .int 0, .int 0, .long 0, .long 0, .ref m_taken, .int 0])), (m_tape, .inl (k_tape, 1600, .inl f_19))]) [0, 1] rfl
  have hD9 := hD.sub (ws' := [(h0, .inr (7, [.int 0, .ref m_width, .ref m_many, .ref m_cells, .ref m_moved, .ref m_tape, .int 20, .int 0, .int 0, .int 0, .int 0, .long 0, .int 0, .int 0, .int 0, .int (-1), .ref m_lines, .ref m_has, .ref m_state, .ref m_gate, .ref m_guest, .ref m_gone, .int 0, .ref m_isKept, .ref m_first, .ref m_second, .int 0, .ref m_far, .ref m_wished, .ref m_wasState, .ref m_isHere, .ref m_round, .ref m_bestRound, .int 0, .int 0, .long 0, .long 0, .ref m_taken, .int 0])), (m_tape, .inl (k_tape, 1600, .inl f_19))]) [0, 1] (by decide) rfl
  have hK9 := hK.sub (tys' := []) [] rfl
  refine W.widen (k := 0) (n := 0) (by omega) (by omega) ?_
  exact W.vret hx hb hr (fun t ht hW => ⟨⟨(f_19), rfl, trivial, by rw [ht]; exact hP9, va_K.moved hW.alike hK9, hD9⟩, hS.F ht⟩) hS.2.2 dX7_four_36

theorem dX7_feed_0 : decode cX7_feed 0 = .ok (.aload_n 0, 1) := by decide +kernel
theorem dX7_feed_1 : decode cX7_feed 1 = .ok (.iconst 0, 1) := by decide +kernel
theorem dX7_feed_2 : decode cX7_feed 2 = .ok (.putfield 80, 3) := by decide +kernel
theorem dX7_feed_5 : decode cX7_feed 5 = .ok (.aload_n 0, 1) := by decide +kernel
theorem dX7_feed_6 : decode cX7_feed 6 = .ok (.getfield 97, 3) := by decide +kernel
theorem dX7_feed_9 : decode cX7_feed 9 = .ok (.bipush 20, 2) := by decide +kernel
theorem dX7_feed_11 : decode cX7_feed 11 = .ok (.iadd, 1) := by decide +kernel
theorem dX7_feed_12 : decode cX7_feed 12 = .ok (.sipush 1600, 3) := by decide +kernel
theorem dX7_feed_15 : decode cX7_feed 15 = .ok (.if_icmp .le 5, 3) := by decide +kernel
theorem dX7_feed_20 : decode cX7_feed 20 = .ok (.aload_n 0, 1) := by decide +kernel
theorem dX7_feed_21 : decode cX7_feed 21 = .ok (.iload_n 1, 1) := by decide +kernel
theorem dX7_feed_22 : decode cX7_feed 22 = .ok (.invokevirtual 100, 3) := by decide +kernel
theorem dX7_feed_25 : decode cX7_feed 25 = .ok (.aload_n 0, 1) := by decide +kernel
theorem dX7_feed_26 : decode cX7_feed 26 = .ok (.iload_n 2, 1) := by decide +kernel
theorem dX7_feed_27 : decode cX7_feed 27 = .ok (.invokevirtual 100, 3) := by decide +kernel
theorem dX7_feed_30 : decode cX7_feed 30 = .ok (.aload_n 0, 1) := by decide +kernel
theorem dX7_feed_31 : decode cX7_feed 31 = .ok (.iload_n 3, 1) := by decide +kernel
theorem dX7_feed_32 : decode cX7_feed 32 = .ok (.invokevirtual 100, 3) := by decide +kernel
theorem dX7_feed_35 : decode cX7_feed 35 = .ok (.aload_n 0, 1) := by decide +kernel
theorem dX7_feed_36 : decode cX7_feed 36 = .ok (.iload 4, 2) := by decide +kernel
theorem dX7_feed_38 : decode cX7_feed 38 = .ok (.invokevirtual 100, 3) := by decide +kernel
theorem dX7_feed_41 : decode cX7_feed 41 = .ok (.aload_n 0, 1) := by decide +kernel
theorem dX7_feed_42 : decode cX7_feed 42 = .ok (.iload 5, 2) := by decide +kernel
theorem dX7_feed_44 : decode cX7_feed 44 = .ok (.invokevirtual 100, 3) := by decide +kernel
theorem dX7_feed_47 : decode cX7_feed 47 = .ok (.aload_n 0, 1) := by decide +kernel
theorem dX7_feed_48 : decode cX7_feed 48 = .ok (.getfield 97, 3) := by decide +kernel
theorem dX7_feed_51 : decode cX7_feed 51 = .ok (.ireturn, 1) := by decide +kernel
def wz_X7_feed : List Cond := .code yX7_feed cX7_feed 6 (some .int) :: ([Cond.fieldLink RX7 80 "HedgeMazeModel" "thrown" "I", Cond.fieldLink RX7 97 "HedgeMazeModel" "taped" "I", Cond.methodLink RX7 100 yX7_four, Cond.instanceMethod yX7_four, Cond.selects RX7 yX7_four yX7_four, Cond.initialized RX7, Cond.code yX7_four cX7_four 3 none, Cond.fieldLink RX7 23 "HedgeMazeModel" "tape" "[B"] ++ wsX70)
theorem wd_X7_feed_0 : Cond.fieldLink RX7 80 "HedgeMazeModel" "thrown" "I" ∈ wz_X7_feed := List.mem_of_getElem? (i := 1) rfl
theorem wd_X7_feed_1 : Cond.fieldLink RX7 97 "HedgeMazeModel" "taped" "I" ∈ wz_X7_feed := List.mem_of_getElem? (i := 2) rfl
theorem in_X7_feed_X7 : ∀ w ∈ wsX70, w ∈ wz_X7_feed := fun _ h => List.mem_cons_of_mem _ (List.mem_append_right _ h)
set_option maxRecDepth 20000 in
theorem g_X7_feed_X7_four_0 : GoodIn wz_X7_feed (wsV RX7 100 RX7 yX7_four wz_X7_four_0) := goodIn_r _ [3, 4, 5, 6, 7, 8, 2, 9, 10, 11, 12, 13, 14, 15, 16, 17, 18, 19, 20, 21, 22, 23, 24, 25, 26, 27, 28, 29, 30, 31, 32, 33, 34, 35, 36, 37, 38, 39, 40, 41, 42, 43, 44, 45, 46, 47] rfl (by decide +kernel)
set_option maxRecDepth 20000 in
theorem g_X7_feed_X7_four_4 : GoodIn wz_X7_feed (wsV RX7 100 RX7 yX7_four wz_X7_four_4) := goodIn_r _ [3, 4, 5, 6, 7, 8, 2, 9, 10, 11, 12, 13, 14, 15, 16, 17, 18, 19, 20, 21, 22, 23, 24, 25, 26, 27, 28, 29, 30, 31, 32, 33, 34, 35, 36, 37, 38, 39, 40, 41, 42, 43, 44, 45, 46, 47] rfl (by decide +kernel)
set_option maxRecDepth 20000 in
theorem g_X7_feed_X7_four_8 : GoodIn wz_X7_feed (wsV RX7 100 RX7 yX7_four wz_X7_four_8) := goodIn_r _ [3, 4, 5, 6, 7, 8, 2, 9, 10, 11, 12, 13, 14, 15, 16, 17, 18, 19, 20, 21, 22, 23, 24, 25, 26, 27, 28, 29, 30, 31, 32, 33, 34, 35, 36, 37, 38, 39, 40, 41, 42, 43, 44, 45, 46, 47] rfl (by decide +kernel)
set_option maxRecDepth 20000 in
theorem g_X7_feed_X7_four_12 : GoodIn wz_X7_feed (wsV RX7 100 RX7 yX7_four wz_X7_four_12) := goodIn_r _ [3, 4, 5, 6, 7, 8, 2, 9, 10, 11, 12, 13, 14, 15, 16, 17, 18, 19, 20, 21, 22, 23, 24, 25, 26, 27, 28, 29, 30, 31, 32, 33, 34, 35, 36, 37, 38, 39, 40, 41, 42, 43, 44, 45, 46, 47] rfl (by decide +kernel)
set_option maxRecDepth 20000 in
theorem g_X7_feed_X7_four_16 : GoodIn wz_X7_feed (wsV RX7 100 RX7 yX7_four wz_X7_four_16) := goodIn_r _ [3, 4, 5, 6, 7, 8, 2, 9, 10, 11, 12, 13, 14, 15, 16, 17, 18, 19, 20, 21, 22, 23, 24, 25, 26, 27, 28, 29, 30, 31, 32, 33, 34, 35, 36, 37, 38, 39, 40, 41, 42, 43, 44, 45, 46, 47] rfl (by decide +kernel)
set_option maxHeartbeats 4000000 in
set_option maxRecDepth 100000 in
theorem c_X7_feed (l : Launch) (dC : Nat → ClassId) (dI : Nat → Nat → Nat) (sz : Nat) (h0 : Nat) (m_width : Nat) (m_many : Nat) (m_cells : Nat) (m_moved : Nat) (m_tape : Nat) (m_lines : Nat) (m_has : Nat) (m_state : Nat) (m_gate : Nat) (m_guest : Nat) (m_gone : Nat) (m_isKept : Nat) (m_first : Nat) (m_second : Nat) (m_far : Nat) (m_wished : Nat) (m_wasState : Nat) (m_isHere : Nat) (m_round : Nat) (m_bestRound : Nat) (m_taken : Nat) (k_tape : ClassId) (ft : Nat → Int32) (p0 : Int32) (p1 : Int32) (p2 : Int32) (p3 : Int32) (p4 : Int32)  : Met l yX7_feed wz_X7_feed ({ frames := 1, cells := 0, slots := 0, locals := 22 }) (va_Pc [.ref h0, .int p0, .int p1, .int p2, .int p3, .int p4] (fun U => U.heap.size = sz ∧ va_P (dC, dI) vwCl [(h0, .inr (7, [.int 0, .ref m_width, .ref m_many, .ref m_cells, .ref m_moved, .ref m_tape, .int 0, .int 0, .int 0, .int 0, .int 0, .long 0, .int 0, .int 0, .int 0, .int (-1), .ref m_lines, .ref m_has, .ref m_state, .ref m_gate, .ref m_guest, .ref m_gone, .int 0, .ref m_isKept, .ref m_first, .ref m_second, .int 0, .ref m_far, .ref m_wished, .ref m_wasState, .ref m_isHere, .ref m_round, .ref m_bestRound, .int 0, .int 0, .long 0, .long 0, .ref m_taken, .int 0])), (m_tape, .inl (k_tape, 1600, .inl ft))] U.heap ∧ va_K (dC, dI) vwCl [(k_tape, .byte)] U ∧ va_D (fun _ => True) [(h0, .inr (7, [.int 0, .ref m_width, .ref m_many, .ref m_cells, .ref m_moved, .ref m_tape, .int 0, .int 0, .int 0, .int 0, .int 0, .long 0, .int 0, .int 0, .int 0, .int (-1), .ref m_lines, .ref m_has, .ref m_state, .ref m_gate, .ref m_guest, .ref m_gone, .int 0, .ref m_isKept, .ref m_first, .ref m_second, .int 0, .ref m_far, .ref m_wished, .ref m_wasState, .ref m_isHere, .ref m_round, .ref m_bestRound, .int 0, .int 0, .long 0, .long 0, .ref m_taken, .int 0])), (m_tape, .inl (k_tape, 1600, .inl ft))])) (va_Qi (fun (r : Int32) (u : Unit) => r = 20) (fun (_ : Unit) (_ : State) => True) (va_A [(h0, .inr (7, [.int 0, .ref m_width, .ref m_many, .ref m_cells, .ref m_moved, .ref m_tape, .int 0, .int 0, .int 0, .int 0, .int 0, .long 0, .int 0, .int 0, .int 0, .int (-1), .ref m_lines, .ref m_has, .ref m_state, .ref m_gate, .ref m_guest, .ref m_gone, .int 0, .ref m_isKept, .ref m_first, .ref m_second, .int 0, .ref m_far, .ref m_wished, .ref m_wasState, .ref m_isHere, .ref m_round, .ref m_bestRound, .int 0, .int 0, .long 0, .long 0, .ref m_taken, .int 0])), (m_tape, .inl (k_tape, 1600, .inl ft))] sz)) 0 0 (va_A [(h0, .inr (7, [.int 0, .ref m_width, .ref m_many, .ref m_cells, .ref m_moved, .ref m_tape, .int 0, .int 0, .int 0, .int 0, .int 0, .long 0, .int 0, .int 0, .int 0, .int (-1), .ref m_lines, .ref m_has, .ref m_state, .ref m_gate, .ref m_guest, .ref m_gone, .int 0, .ref m_isKept, .ref m_first, .ref m_second, .int 0, .ref m_far, .ref m_wished, .ref m_wasState, .ref m_isHere, .ref m_round, .ref m_bestRound, .int 0, .int 0, .long 0, .long 0, .ref m_taken, .int 0])), (m_tape, .inl (k_tape, 1600, .inl ft))] sz) := by
  refine Met.ofW (cc := cX7_feed) (maxL := 6) (ret := (some .int)) (by decide) rfl ?_
  intro p e s m args below meth c s₁ B hml hv
  obtain ⟨rfl, hsz, hP, hK, hD0⟩ := hv
  have hx := B.exec
  have hb := B.bytes
  have hr := B.returns
  have hts := atoms_spec (ws := wz_X7_feed) B.pre
  have hown : s.vm.findClass RX7 = some m.cls := findClass_of_methodNamed B.named
  have hlocks := B.notSynchronized
  subst hsz
  have hD := hD0.self (sz := s.heap.size)
  generalize hAe : va_A [(h0, .inr (7, [.int 0, .ref m_width, .ref m_many, .ref m_cells, .ref m_moved, .ref m_tape, .int 0, .int 0, .int 0, .int 0, .int 0, .long 0, .int 0, .int 0, .int 0, .int (-1), .ref m_lines, .ref m_has, .ref m_state, .ref m_gate, .ref m_guest, .ref m_gone, .int 0, .ref m_isKept, .ref m_first, .ref m_second, .int 0, .ref m_far, .ref m_wished, .ref m_wasState, .ref m_isHere, .ref m_round, .ref m_bestRound, .int 0, .int 0, .long 0, .long 0, .ref m_taken, .int 0])), (m_tape, .inl (k_tape, 1600, .inl ft))] s.heap.size = A at hD ⊢
  have hA : ∀ q : Nat, s.heap.size ≤ q → A q := fun q h => by rw [← hAe]; exact Or.inr h
  have hS : va_S A s.heap s.heap [] := va_S.rf
  have hP : va_P (dC, dI) vwCl [(h0, .inr (7, [.int 0, .ref m_width, .ref m_many, .ref m_cells, .ref m_moved, .ref m_tape, .int 0, .int 0, .int 0, .int 0, .int 0, .long 0, .int 0, .int 0, .int 0, .int (-1), .ref m_lines, .ref m_has, .ref m_state, .ref m_gate, .ref m_guest, .ref m_gone, .int 0, .ref m_isKept, .ref m_first, .ref m_second, .int 0, .ref m_far, .ref m_wished, .ref m_wasState, .ref m_isHere, .ref m_round, .ref m_bestRound, .int 0, .int 0, .long 0, .long 0, .ref m_taken, .int 0])), (m_tape, .inl (k_tape, 1600, .inl ft))] s.heap := hP
  have hl := lv_entry ([.ref h0, .int p0, .int p1, .int p2, .int p3, .int p4]) (n := 6) (Nat.le_of_ble_eq_true rfl)
  rw [lg_entry_eq]
  generalize (lg_sl ([.ref h0, .int p0, .int p1, .int p2, .int p3, .int p4]) ++ List.replicate (6 - (lg_sl ([.ref h0, .int p0, .int p1, .int p2, .int p3, .int p4])).length) Slot.unset).toArray = ls at hl ⊢
  have hl : lv_has ls 6 [(0, .ref h0), (1, .int p0), (2, .int p1), (3, .int p2), (4, .int p3), (5, .int p4)] := hl
  refine lv_aload_n hx hb dX7_feed_0 rfl (lv_at hl 0 rfl) ?_
  refine lv_iconst (v := 0) hx hb dX7_feed_1 (by decide) ?_
  refine va_put (D := (dC, dI)) (ci := 7) (v := .int 0) (ty := .int) (C := RX7) (T := TX7) (N := 39) hx hb hts in_X7_feed_X7 tyX7 tyX7_ok nmX7 hown hK hP hD hS 0 rfl rfl 0 (by decide) (hts _ wd_X7_feed_0) (fun _ h9 => h9) rfl (by decide +kernel) rfl rfl (Nat.le_of_ble_eq_true rfl) dX7_feed_2 (fun H locs hP hD hS => ?_)
  have hP : va_P (dC, dI) vwCl [(h0, .inr (7, [.int 0, .ref m_width, .ref m_many, .ref m_cells, .ref m_moved, .ref m_tape, .int 0, .int 0, .int 0, .int 0, .int 0, .long 0, .int 0, .int 0, .int 0, .int (-1), .ref m_lines, .ref m_has, .ref m_state, .ref m_gate, .ref m_guest, .ref m_gone, .int 0, .ref m_isKept, .ref m_first, .ref m_second, .int 0, .ref m_far, .ref m_wished, .ref m_wasState, .ref m_isHere, .ref m_round, .ref m_bestRound, .int 0, .int 0, .long 0, .long 0, .ref m_taken, .int 0])), (m_tape, .inl (k_tape, 1600, .inl ft))] H := hP
  have hD : va_D A [(h0, .inr (7, [.int 0, .ref m_width, .ref m_many, .ref m_cells, .ref m_moved, .ref m_tape, .int 0, .int 0, .int 0, .int 0, .int 0, .long 0, .int 0, .int 0, .int 0, .int (-1), .ref m_lines, .ref m_has, .ref m_state, .ref m_gate, .ref m_guest, .ref m_gone, .int 0, .ref m_isKept, .ref m_first, .ref m_second, .int 0, .ref m_far, .ref m_wished, .ref m_wasState, .ref m_isHere, .ref m_round, .ref m_bestRound, .int 0, .int 0, .long 0, .long 0, .ref m_taken, .int 0])), (m_tape, .inl (k_tape, 1600, .inl ft))] := hD
  refine lv_aload_n hx hb dX7_feed_5 rfl (lv_at hl 0 rfl) ?_
  refine va_get (D := (dC, dI)) (ci := 7) (v := .int 0) (C := RX7) (T := TX7) (N := 39) hx hb hts in_X7_feed_X7 hown hK hP 0 rfl rfl 6 (by decide) (hts _ wd_X7_feed_1) (fun _ h9 => h9) rfl dX7_feed_6 ?_
  refine lv_bipush (v := 20) hx hb dX7_feed_9 (by decide) ?_
  refine lv_iadd hx hb dX7_feed_11 ?_
  refine lv_topi (fun z_1 ez_1 => ?_)
  obtain rfl : z_1 = 20 := ez_1.trans (by decide)
  refine lv_sipush (v := 1600) hx hb dX7_feed_12 (by decide) ?_
  refine lv_icmp_le (tgt := 20) hx hb dX7_feed_15 (by decide) (fun _ => ?_) (fun h => absurd (by decide) h)
  refine lv_aload_n hx hb dX7_feed_20 rfl (lv_at hl 0 rfl) ?_
  refine lv_iload_n hx hb dX7_feed_21 rfl (lv_at hl 1 rfl) ?_
  have hPc := hP.sub (ws' := [(h0, .inr (7, [.int 0, .ref m_width, .ref m_many, .ref m_cells, .ref m_moved, .ref m_tape, .int 0, .int 0, .int 0, .int 0, .int 0, .long 0, .int 0, .int 0, .int 0, .int (-1), .ref m_lines, .ref m_has, .ref m_state, .ref m_gate, .ref m_guest, .ref m_gone, .int 0, .ref m_isKept, .ref m_first, .ref m_second, .int 0, .ref m_far, .ref m_wished, .ref m_wasState, .ref m_isHere, .ref m_round, .ref m_bestRound, .int 0, .int 0, .long 0, .long 0, .ref m_taken, .int 0])), (m_tape, .inl (k_tape, 1600, .inl ft))]) [0, 1] rfl
  have hDc := hD.sub (ws' := [(h0, .inr (7, [.int 0, .ref m_width, .ref m_many, .ref m_cells, .ref m_moved, .ref m_tape, .int 0, .int 0, .int 0, .int 0, .int 0, .long 0, .int 0, .int 0, .int 0, .int (-1), .ref m_lines, .ref m_has, .ref m_state, .ref m_gate, .ref m_guest, .ref m_gone, .int 0, .ref m_isKept, .ref m_first, .ref m_second, .int 0, .ref m_far, .ref m_wished, .ref m_wasState, .ref m_isHere, .ref m_round, .ref m_bestRound, .int 0, .int 0, .long 0, .long 0, .ref m_taken, .int 0])), (m_tape, .inl (k_tape, 1600, .inl ft))]) [0, 1] (by decide) rfl
  have hKc := hK.sub (tys' := [(k_tape, .byte)]) [0] rfl
  have hFc := va_free (wc := [(h0, .inr (7, [.int 0, .ref m_width, .ref m_many, .ref m_cells, .ref m_moved, .ref m_tape, .int 0, .int 0, .int 0, .int 0, .int 0, .long 0, .int 0, .int 0, .int 0, .int (-1), .ref m_lines, .ref m_has, .ref m_state, .ref m_gate, .ref m_guest, .ref m_gone, .int 0, .ref m_isKept, .ref m_first, .ref m_second, .int 0, .ref m_far, .ref m_wished, .ref m_wasState, .ref m_isHere, .ref m_round, .ref m_bestRound, .int 0, .int 0, .long 0, .long 0, .ref m_taken, .int 0])), (m_tape, .inl (k_tape, 1600, .inl ft))]) hD hS hA [0, 1] rfl
  refine va_callv (va_runV (As := [.int p0]) (rest := []) ⟨hx, hb, hml, hown, hts⟩ (c_X7_four_0 l dC dI H.size h0 m_width m_many m_cells m_moved m_tape m_lines m_has m_state m_gate m_guest m_gone m_isKept m_first m_second m_far m_wished m_wasState m_isHere m_round m_bestRound m_taken k_tape ft p0 ) (cwV 1 hts g_X7_feed_X7_four_0 rfl rfl rfl (by decide +kernel) ⟨Nat.le_of_ble_eq_true rfl, Nat.le_of_ble_eq_true rfl⟩) ⟨fun a U g mk q => by obtain ⟨q0, q1, qP, qK, qD⟩ := q; exact ⟨q0, q1, qP, va_K.moved (u := U) (U := U.calling g mk a) (Vm.Alike.refl U.vm) qK, qD⟩, va_recv hKc hPc (ci := 7) (q0 := 0) rfl rfl, fun U hU hW => ⟨rfl, by rw [hU], by rw [hU]; exact hPc, va_K.moved hW.alike hKc, hDc.weaken (fun _ _ _ _ => trivial)⟩⟩ rfl rfl hl.1 rfl (lv_room (Nat.le_of_ble_eq_true rfl)) dX7_feed_22 ⟨Nat.le_of_ble_eq_true rfl, Nat.le_of_ble_eq_true rfl⟩) hS (fun q _ h => hFc q h) hFc (fun u t H1 locs ht hvm hw_3 hB hz1 hk1 hS => ?_)
  obtain ⟨f2_4, rfl⟩ : ∃ z, z = u := ⟨_, rfl⟩
  obtain ⟨hP1, hK1, hD1⟩ := hB
  have hP1 : va_P (dC, dI) vwCl [(h0, .inr (7, [.int 0, .ref m_width, .ref m_many, .ref m_cells, .ref m_moved, .ref m_tape, .int 4, .int 0, .int 0, .int 0, .int 0, .long 0, .int 0, .int 0, .int 0, .int (-1), .ref m_lines, .ref m_has, .ref m_state, .ref m_gate, .ref m_guest, .ref m_gone, .int 0, .ref m_isKept, .ref m_first, .ref m_second, .int 0, .ref m_far, .ref m_wished, .ref m_wasState, .ref m_isHere, .ref m_round, .ref m_bestRound, .int 0, .int 0, .long 0, .long 0, .ref m_taken, .int 0])), (m_tape, .inl (k_tape, 1600, .inl f2_4))] t.heap := hP1
  rw [ht] at hP1
  try dsimp only at hw_3
  obtain ⟨hP, hD⟩ := va_join (wr := []) (w1 := [(h0, .inr (7, [.int 0, .ref m_width, .ref m_many, .ref m_cells, .ref m_moved, .ref m_tape, .int 4, .int 0, .int 0, .int 0, .int 0, .long 0, .int 0, .int 0, .int 0, .int (-1), .ref m_lines, .ref m_has, .ref m_state, .ref m_gate, .ref m_guest, .ref m_gone, .int 0, .ref m_isKept, .ref m_first, .ref m_second, .int 0, .ref m_far, .ref m_wished, .ref m_wasState, .ref m_isHere, .ref m_round, .ref m_bestRound, .int 0, .int 0, .long 0, .long 0, .ref m_taken, .int 0])), (m_tape, .inl (k_tape, 1600, .inl f2_4))]) hP hD [0, 1] [] rfl rfl (by decide) (by decide) hk1 hFc hP1 hD1
  generalize H1 = H at hP hS ⊢
  have hP : va_P (dC, dI) vwCl [(h0, .inr (7, [.int 0, .ref m_width, .ref m_many, .ref m_cells, .ref m_moved, .ref m_tape, .int 4, .int 0, .int 0, .int 0, .int 0, .long 0, .int 0, .int 0, .int 0, .int (-1), .ref m_lines, .ref m_has, .ref m_state, .ref m_gate, .ref m_guest, .ref m_gone, .int 0, .ref m_isKept, .ref m_first, .ref m_second, .int 0, .ref m_far, .ref m_wished, .ref m_wasState, .ref m_isHere, .ref m_round, .ref m_bestRound, .int 0, .int 0, .long 0, .long 0, .ref m_taken, .int 0])), (m_tape, .inl (k_tape, 1600, .inl f2_4))] H := hP
  have hD : va_D A [(h0, .inr (7, [.int 0, .ref m_width, .ref m_many, .ref m_cells, .ref m_moved, .ref m_tape, .int 4, .int 0, .int 0, .int 0, .int 0, .long 0, .int 0, .int 0, .int 0, .int (-1), .ref m_lines, .ref m_has, .ref m_state, .ref m_gate, .ref m_guest, .ref m_gone, .int 0, .ref m_isKept, .ref m_first, .ref m_second, .int 0, .ref m_far, .ref m_wished, .ref m_wasState, .ref m_isHere, .ref m_round, .ref m_bestRound, .int 0, .int 0, .long 0, .long 0, .ref m_taken, .int 0])), (m_tape, .inl (k_tape, 1600, .inl f2_4))] := hD
  refine lv_aload_n hx hb dX7_feed_25 rfl (lv_at hl 0 rfl) ?_
  refine lv_iload_n hx hb dX7_feed_26 rfl (lv_at hl 2 rfl) ?_
  have hPc := hP.sub (ws' := [(h0, .inr (7, [.int 0, .ref m_width, .ref m_many, .ref m_cells, .ref m_moved, .ref m_tape, .int 4, .int 0, .int 0, .int 0, .int 0, .long 0, .int 0, .int 0, .int 0, .int (-1), .ref m_lines, .ref m_has, .ref m_state, .ref m_gate, .ref m_guest, .ref m_gone, .int 0, .ref m_isKept, .ref m_first, .ref m_second, .int 0, .ref m_far, .ref m_wished, .ref m_wasState, .ref m_isHere, .ref m_round, .ref m_bestRound, .int 0, .int 0, .long 0, .long 0, .ref m_taken, .int 0])), (m_tape, .inl (k_tape, 1600, .inl f2_4))]) [0, 1] rfl
  have hDc := hD.sub (ws' := [(h0, .inr (7, [.int 0, .ref m_width, .ref m_many, .ref m_cells, .ref m_moved, .ref m_tape, .int 4, .int 0, .int 0, .int 0, .int 0, .long 0, .int 0, .int 0, .int 0, .int (-1), .ref m_lines, .ref m_has, .ref m_state, .ref m_gate, .ref m_guest, .ref m_gone, .int 0, .ref m_isKept, .ref m_first, .ref m_second, .int 0, .ref m_far, .ref m_wished, .ref m_wasState, .ref m_isHere, .ref m_round, .ref m_bestRound, .int 0, .int 0, .long 0, .long 0, .ref m_taken, .int 0])), (m_tape, .inl (k_tape, 1600, .inl f2_4))]) [0, 1] (by decide) rfl
  have hKc := hK.sub (tys' := [(k_tape, .byte)]) [0] rfl
  have hFc := va_free (wc := [(h0, .inr (7, [.int 0, .ref m_width, .ref m_many, .ref m_cells, .ref m_moved, .ref m_tape, .int 4, .int 0, .int 0, .int 0, .int 0, .long 0, .int 0, .int 0, .int 0, .int (-1), .ref m_lines, .ref m_has, .ref m_state, .ref m_gate, .ref m_guest, .ref m_gone, .int 0, .ref m_isKept, .ref m_first, .ref m_second, .int 0, .ref m_far, .ref m_wished, .ref m_wasState, .ref m_isHere, .ref m_round, .ref m_bestRound, .int 0, .int 0, .long 0, .long 0, .ref m_taken, .int 0])), (m_tape, .inl (k_tape, 1600, .inl f2_4))]) hD hS hA [0, 1] rfl
  refine va_callv (va_runV (As := [.int p1]) (rest := []) ⟨hx, hb, hml, hown, hts⟩ (c_X7_four_4 l dC dI H.size h0 m_width m_many m_cells m_moved m_tape m_lines m_has m_state m_gate m_guest m_gone m_isKept m_first m_second m_far m_wished m_wasState m_isHere m_round m_bestRound m_taken k_tape f2_4 p1 ) (cwV 1 hts g_X7_feed_X7_four_4 rfl rfl rfl (by decide +kernel) ⟨Nat.le_of_ble_eq_true rfl, Nat.le_of_ble_eq_true rfl⟩) ⟨fun a U g mk q => by obtain ⟨q0, q1, qP, qK, qD⟩ := q; exact ⟨q0, q1, qP, va_K.moved (u := U) (U := U.calling g mk a) (Vm.Alike.refl U.vm) qK, qD⟩, va_recv hKc hPc (ci := 7) (q0 := 0) rfl rfl, fun U hU hW => ⟨rfl, by rw [hU], by rw [hU]; exact hPc, va_K.moved hW.alike hKc, hDc.weaken (fun _ _ _ _ => trivial)⟩⟩ rfl rfl hl.1 rfl (lv_room (Nat.le_of_ble_eq_true rfl)) dX7_feed_27 ⟨Nat.le_of_ble_eq_true rfl, Nat.le_of_ble_eq_true rfl⟩) hS (fun q _ h => hFc q h) hFc (fun u t H1 locs ht hvm hw_5 hB hz1 hk1 hS => ?_)
  obtain ⟨f2_6, rfl⟩ : ∃ z, z = u := ⟨_, rfl⟩
  obtain ⟨hP1, hK1, hD1⟩ := hB
  have hP1 : va_P (dC, dI) vwCl [(h0, .inr (7, [.int 0, .ref m_width, .ref m_many, .ref m_cells, .ref m_moved, .ref m_tape, .int 8, .int 0, .int 0, .int 0, .int 0, .long 0, .int 0, .int 0, .int 0, .int (-1), .ref m_lines, .ref m_has, .ref m_state, .ref m_gate, .ref m_guest, .ref m_gone, .int 0, .ref m_isKept, .ref m_first, .ref m_second, .int 0, .ref m_far, .ref m_wished, .ref m_wasState, .ref m_isHere, .ref m_round, .ref m_bestRound, .int 0, .int 0, .long 0, .long 0, .ref m_taken, .int 0])), (m_tape, .inl (k_tape, 1600, .inl f2_6))] t.heap := hP1
  rw [ht] at hP1
  try dsimp only at hw_5
  obtain ⟨hP, hD⟩ := va_join (wr := []) (w1 := [(h0, .inr (7, [.int 0, .ref m_width, .ref m_many, .ref m_cells, .ref m_moved, .ref m_tape, .int 8, .int 0, .int 0, .int 0, .int 0, .long 0, .int 0, .int 0, .int 0, .int (-1), .ref m_lines, .ref m_has, .ref m_state, .ref m_gate, .ref m_guest, .ref m_gone, .int 0, .ref m_isKept, .ref m_first, .ref m_second, .int 0, .ref m_far, .ref m_wished, .ref m_wasState, .ref m_isHere, .ref m_round, .ref m_bestRound, .int 0, .int 0, .long 0, .long 0, .ref m_taken, .int 0])), (m_tape, .inl (k_tape, 1600, .inl f2_6))]) hP hD [0, 1] [] rfl rfl (by decide) (by decide) hk1 hFc hP1 hD1
  generalize H1 = H at hP hS ⊢
  have hP : va_P (dC, dI) vwCl [(h0, .inr (7, [.int 0, .ref m_width, .ref m_many, .ref m_cells, .ref m_moved, .ref m_tape, .int 8, .int 0, .int 0, .int 0, .int 0, .long 0, .int 0, .int 0, .int 0, .int (-1), .ref m_lines, .ref m_has, .ref m_state, .ref m_gate, .ref m_guest, .ref m_gone, .int 0, .ref m_isKept, .ref m_first, .ref m_second, .int 0, .ref m_far, .ref m_wished, .ref m_wasState, .ref m_isHere, .ref m_round, .ref m_bestRound, .int 0, .int 0, .long 0, .long 0, .ref m_taken, .int 0])), (m_tape, .inl (k_tape, 1600, .inl f2_6))] H := hP
  have hD : va_D A [(h0, .inr (7, [.int 0, .ref m_width, .ref m_many, .ref m_cells, .ref m_moved, .ref m_tape, .int 8, .int 0, .int 0, .int 0, .int 0, .long 0, .int 0, .int 0, .int 0, .int (-1), .ref m_lines, .ref m_has, .ref m_state, .ref m_gate, .ref m_guest, .ref m_gone, .int 0, .ref m_isKept, .ref m_first, .ref m_second, .int 0, .ref m_far, .ref m_wished, .ref m_wasState, .ref m_isHere, .ref m_round, .ref m_bestRound, .int 0, .int 0, .long 0, .long 0, .ref m_taken, .int 0])), (m_tape, .inl (k_tape, 1600, .inl f2_6))] := hD
  refine lv_aload_n hx hb dX7_feed_30 rfl (lv_at hl 0 rfl) ?_
  refine lv_iload_n hx hb dX7_feed_31 rfl (lv_at hl 3 rfl) ?_
  have hPc := hP.sub (ws' := [(h0, .inr (7, [.int 0, .ref m_width, .ref m_many, .ref m_cells, .ref m_moved, .ref m_tape, .int 8, .int 0, .int 0, .int 0, .int 0, .long 0, .int 0, .int 0, .int 0, .int (-1), .ref m_lines, .ref m_has, .ref m_state, .ref m_gate, .ref m_guest, .ref m_gone, .int 0, .ref m_isKept, .ref m_first, .ref m_second, .int 0, .ref m_far, .ref m_wished, .ref m_wasState, .ref m_isHere, .ref m_round, .ref m_bestRound, .int 0, .int 0, .long 0, .long 0, .ref m_taken, .int 0])), (m_tape, .inl (k_tape, 1600, .inl f2_6))]) [0, 1] rfl
  have hDc := hD.sub (ws' := [(h0, .inr (7, [.int 0, .ref m_width, .ref m_many, .ref m_cells, .ref m_moved, .ref m_tape, .int 8, .int 0, .int 0, .int 0, .int 0, .long 0, .int 0, .int 0, .int 0, .int (-1), .ref m_lines, .ref m_has, .ref m_state, .ref m_gate, .ref m_guest, .ref m_gone, .int 0, .ref m_isKept, .ref m_first, .ref m_second, .int 0, .ref m_far, .ref m_wished, .ref m_wasState, .ref m_isHere, .ref m_round, .ref m_bestRound, .int 0, .int 0, .long 0, .long 0, .ref m_taken, .int 0])), (m_tape, .inl (k_tape, 1600, .inl f2_6))]) [0, 1] (by decide) rfl
  have hKc := hK.sub (tys' := [(k_tape, .byte)]) [0] rfl
  have hFc := va_free (wc := [(h0, .inr (7, [.int 0, .ref m_width, .ref m_many, .ref m_cells, .ref m_moved, .ref m_tape, .int 8, .int 0, .int 0, .int 0, .int 0, .long 0, .int 0, .int 0, .int 0, .int (-1), .ref m_lines, .ref m_has, .ref m_state, .ref m_gate, .ref m_guest, .ref m_gone, .int 0, .ref m_isKept, .ref m_first, .ref m_second, .int 0, .ref m_far, .ref m_wished, .ref m_wasState, .ref m_isHere, .ref m_round, .ref m_bestRound, .int 0, .int 0, .long 0, .long 0, .ref m_taken, .int 0])), (m_tape, .inl (k_tape, 1600, .inl f2_6))]) hD hS hA [0, 1] rfl
  refine va_callv (va_runV (As := [.int p2]) (rest := []) ⟨hx, hb, hml, hown, hts⟩ (c_X7_four_8 l dC dI H.size h0 m_width m_many m_cells m_moved m_tape m_lines m_has m_state m_gate m_guest m_gone m_isKept m_first m_second m_far m_wished m_wasState m_isHere m_round m_bestRound m_taken k_tape f2_6 p2 ) (cwV 1 hts g_X7_feed_X7_four_8 rfl rfl rfl (by decide +kernel) ⟨Nat.le_of_ble_eq_true rfl, Nat.le_of_ble_eq_true rfl⟩) ⟨fun a U g mk q => by obtain ⟨q0, q1, qP, qK, qD⟩ := q; exact ⟨q0, q1, qP, va_K.moved (u := U) (U := U.calling g mk a) (Vm.Alike.refl U.vm) qK, qD⟩, va_recv hKc hPc (ci := 7) (q0 := 0) rfl rfl, fun U hU hW => ⟨rfl, by rw [hU], by rw [hU]; exact hPc, va_K.moved hW.alike hKc, hDc.weaken (fun _ _ _ _ => trivial)⟩⟩ rfl rfl hl.1 rfl (lv_room (Nat.le_of_ble_eq_true rfl)) dX7_feed_32 ⟨Nat.le_of_ble_eq_true rfl, Nat.le_of_ble_eq_true rfl⟩) hS (fun q _ h => hFc q h) hFc (fun u t H1 locs ht hvm hw_7 hB hz1 hk1 hS => ?_)
  obtain ⟨f2_8, rfl⟩ : ∃ z, z = u := ⟨_, rfl⟩
  obtain ⟨hP1, hK1, hD1⟩ := hB
  have hP1 : va_P (dC, dI) vwCl [(h0, .inr (7, [.int 0, .ref m_width, .ref m_many, .ref m_cells, .ref m_moved, .ref m_tape, .int 12, .int 0, .int 0, .int 0, .int 0, .long 0, .int 0, .int 0, .int 0, .int (-1), .ref m_lines, .ref m_has, .ref m_state, .ref m_gate, .ref m_guest, .ref m_gone, .int 0, .ref m_isKept, .ref m_first, .ref m_second, .int 0, .ref m_far, .ref m_wished, .ref m_wasState, .ref m_isHere, .ref m_round, .ref m_bestRound, .int 0, .int 0, .long 0, .long 0, .ref m_taken, .int 0])), (m_tape, .inl (k_tape, 1600, .inl f2_8))] t.heap := hP1
  rw [ht] at hP1
  try dsimp only at hw_7
  obtain ⟨hP, hD⟩ := va_join (wr := []) (w1 := [(h0, .inr (7, [.int 0, .ref m_width, .ref m_many, .ref m_cells, .ref m_moved, .ref m_tape, .int 12, .int 0, .int 0, .int 0, .int 0, .long 0, .int 0, .int 0, .int 0, .int (-1), .ref m_lines, .ref m_has, .ref m_state, .ref m_gate, .ref m_guest, .ref m_gone, .int 0, .ref m_isKept, .ref m_first, .ref m_second, .int 0, .ref m_far, .ref m_wished, .ref m_wasState, .ref m_isHere, .ref m_round, .ref m_bestRound, .int 0, .int 0, .long 0, .long 0, .ref m_taken, .int 0])), (m_tape, .inl (k_tape, 1600, .inl f2_8))]) hP hD [0, 1] [] rfl rfl (by decide) (by decide) hk1 hFc hP1 hD1
  generalize H1 = H at hP hS ⊢
  have hP : va_P (dC, dI) vwCl [(h0, .inr (7, [.int 0, .ref m_width, .ref m_many, .ref m_cells, .ref m_moved, .ref m_tape, .int 12, .int 0, .int 0, .int 0, .int 0, .long 0, .int 0, .int 0, .int 0, .int (-1), .ref m_lines, .ref m_has, .ref m_state, .ref m_gate, .ref m_guest, .ref m_gone, .int 0, .ref m_isKept, .ref m_first, .ref m_second, .int 0, .ref m_far, .ref m_wished, .ref m_wasState, .ref m_isHere, .ref m_round, .ref m_bestRound, .int 0, .int 0, .long 0, .long 0, .ref m_taken, .int 0])), (m_tape, .inl (k_tape, 1600, .inl f2_8))] H := hP
  have hD : va_D A [(h0, .inr (7, [.int 0, .ref m_width, .ref m_many, .ref m_cells, .ref m_moved, .ref m_tape, .int 12, .int 0, .int 0, .int 0, .int 0, .long 0, .int 0, .int 0, .int 0, .int (-1), .ref m_lines, .ref m_has, .ref m_state, .ref m_gate, .ref m_guest, .ref m_gone, .int 0, .ref m_isKept, .ref m_first, .ref m_second, .int 0, .ref m_far, .ref m_wished, .ref m_wasState, .ref m_isHere, .ref m_round, .ref m_bestRound, .int 0, .int 0, .long 0, .long 0, .ref m_taken, .int 0])), (m_tape, .inl (k_tape, 1600, .inl f2_8))] := hD
  refine lv_aload_n hx hb dX7_feed_35 rfl (lv_at hl 0 rfl) ?_
  refine lv_iload hx hb dX7_feed_36 (lv_at hl 4 rfl) ?_
  have hPc := hP.sub (ws' := [(h0, .inr (7, [.int 0, .ref m_width, .ref m_many, .ref m_cells, .ref m_moved, .ref m_tape, .int 12, .int 0, .int 0, .int 0, .int 0, .long 0, .int 0, .int 0, .int 0, .int (-1), .ref m_lines, .ref m_has, .ref m_state, .ref m_gate, .ref m_guest, .ref m_gone, .int 0, .ref m_isKept, .ref m_first, .ref m_second, .int 0, .ref m_far, .ref m_wished, .ref m_wasState, .ref m_isHere, .ref m_round, .ref m_bestRound, .int 0, .int 0, .long 0, .long 0, .ref m_taken, .int 0])), (m_tape, .inl (k_tape, 1600, .inl f2_8))]) [0, 1] rfl
  have hDc := hD.sub (ws' := [(h0, .inr (7, [.int 0, .ref m_width, .ref m_many, .ref m_cells, .ref m_moved, .ref m_tape, .int 12, .int 0, .int 0, .int 0, .int 0, .long 0, .int 0, .int 0, .int 0, .int (-1), .ref m_lines, .ref m_has, .ref m_state, .ref m_gate, .ref m_guest, .ref m_gone, .int 0, .ref m_isKept, .ref m_first, .ref m_second, .int 0, .ref m_far, .ref m_wished, .ref m_wasState, .ref m_isHere, .ref m_round, .ref m_bestRound, .int 0, .int 0, .long 0, .long 0, .ref m_taken, .int 0])), (m_tape, .inl (k_tape, 1600, .inl f2_8))]) [0, 1] (by decide) rfl
  have hKc := hK.sub (tys' := [(k_tape, .byte)]) [0] rfl
  have hFc := va_free (wc := [(h0, .inr (7, [.int 0, .ref m_width, .ref m_many, .ref m_cells, .ref m_moved, .ref m_tape, .int 12, .int 0, .int 0, .int 0, .int 0, .long 0, .int 0, .int 0, .int 0, .int (-1), .ref m_lines, .ref m_has, .ref m_state, .ref m_gate, .ref m_guest, .ref m_gone, .int 0, .ref m_isKept, .ref m_first, .ref m_second, .int 0, .ref m_far, .ref m_wished, .ref m_wasState, .ref m_isHere, .ref m_round, .ref m_bestRound, .int 0, .int 0, .long 0, .long 0, .ref m_taken, .int 0])), (m_tape, .inl (k_tape, 1600, .inl f2_8))]) hD hS hA [0, 1] rfl
  refine va_callv (va_runV (As := [.int p3]) (rest := []) ⟨hx, hb, hml, hown, hts⟩ (c_X7_four_12 l dC dI H.size h0 m_width m_many m_cells m_moved m_tape m_lines m_has m_state m_gate m_guest m_gone m_isKept m_first m_second m_far m_wished m_wasState m_isHere m_round m_bestRound m_taken k_tape f2_8 p3 ) (cwV 1 hts g_X7_feed_X7_four_12 rfl rfl rfl (by decide +kernel) ⟨Nat.le_of_ble_eq_true rfl, Nat.le_of_ble_eq_true rfl⟩) ⟨fun a U g mk q => by obtain ⟨q0, q1, qP, qK, qD⟩ := q; exact ⟨q0, q1, qP, va_K.moved (u := U) (U := U.calling g mk a) (Vm.Alike.refl U.vm) qK, qD⟩, va_recv hKc hPc (ci := 7) (q0 := 0) rfl rfl, fun U hU hW => ⟨rfl, by rw [hU], by rw [hU]; exact hPc, va_K.moved hW.alike hKc, hDc.weaken (fun _ _ _ _ => trivial)⟩⟩ rfl rfl hl.1 rfl (lv_room (Nat.le_of_ble_eq_true rfl)) dX7_feed_38 ⟨Nat.le_of_ble_eq_true rfl, Nat.le_of_ble_eq_true rfl⟩) hS (fun q _ h => hFc q h) hFc (fun u t H1 locs ht hvm hw_9 hB hz1 hk1 hS => ?_)
  obtain ⟨f2_10, rfl⟩ : ∃ z, z = u := ⟨_, rfl⟩
  obtain ⟨hP1, hK1, hD1⟩ := hB
  have hP1 : va_P (dC, dI) vwCl [(h0, .inr (7, [.int 0, .ref m_width, .ref m_many, .ref m_cells, .ref m_moved, .ref m_tape, .int 16, .int 0, .int 0, .int 0, .int 0, .long 0, .int 0, .int 0, .int 0, .int (-1), .ref m_lines, .ref m_has, .ref m_state, .ref m_gate, .ref m_guest, .ref m_gone, .int 0, .ref m_isKept, .ref m_first, .ref m_second, .int 0, .ref m_far, .ref m_wished, .ref m_wasState, .ref m_isHere, .ref m_round, .ref m_bestRound, .int 0, .int 0, .long 0, .long 0, .ref m_taken, .int 0])), (m_tape, .inl (k_tape, 1600, .inl f2_10))] t.heap := hP1
  rw [ht] at hP1
  try dsimp only at hw_9
  obtain ⟨hP, hD⟩ := va_join (wr := []) (w1 := [(h0, .inr (7, [.int 0, .ref m_width, .ref m_many, .ref m_cells, .ref m_moved, .ref m_tape, .int 16, .int 0, .int 0, .int 0, .int 0, .long 0, .int 0, .int 0, .int 0, .int (-1), .ref m_lines, .ref m_has, .ref m_state, .ref m_gate, .ref m_guest, .ref m_gone, .int 0, .ref m_isKept, .ref m_first, .ref m_second, .int 0, .ref m_far, .ref m_wished, .ref m_wasState, .ref m_isHere, .ref m_round, .ref m_bestRound, .int 0, .int 0, .long 0, .long 0, .ref m_taken, .int 0])), (m_tape, .inl (k_tape, 1600, .inl f2_10))]) hP hD [0, 1] [] rfl rfl (by decide) (by decide) hk1 hFc hP1 hD1
  generalize H1 = H at hP hS ⊢
  have hP : va_P (dC, dI) vwCl [(h0, .inr (7, [.int 0, .ref m_width, .ref m_many, .ref m_cells, .ref m_moved, .ref m_tape, .int 16, .int 0, .int 0, .int 0, .int 0, .long 0, .int 0, .int 0, .int 0, .int (-1), .ref m_lines, .ref m_has, .ref m_state, .ref m_gate, .ref m_guest, .ref m_gone, .int 0, .ref m_isKept, .ref m_first, .ref m_second, .int 0, .ref m_far, .ref m_wished, .ref m_wasState, .ref m_isHere, .ref m_round, .ref m_bestRound, .int 0, .int 0, .long 0, .long 0, .ref m_taken, .int 0])), (m_tape, .inl (k_tape, 1600, .inl f2_10))] H := hP
  have hD : va_D A [(h0, .inr (7, [.int 0, .ref m_width, .ref m_many, .ref m_cells, .ref m_moved, .ref m_tape, .int 16, .int 0, .int 0, .int 0, .int 0, .long 0, .int 0, .int 0, .int 0, .int (-1), .ref m_lines, .ref m_has, .ref m_state, .ref m_gate, .ref m_guest, .ref m_gone, .int 0, .ref m_isKept, .ref m_first, .ref m_second, .int 0, .ref m_far, .ref m_wished, .ref m_wasState, .ref m_isHere, .ref m_round, .ref m_bestRound, .int 0, .int 0, .long 0, .long 0, .ref m_taken, .int 0])), (m_tape, .inl (k_tape, 1600, .inl f2_10))] := hD
  refine lv_aload_n hx hb dX7_feed_41 rfl (lv_at hl 0 rfl) ?_
  refine lv_iload hx hb dX7_feed_42 (lv_at hl 5 rfl) ?_
  have hPc := hP.sub (ws' := [(h0, .inr (7, [.int 0, .ref m_width, .ref m_many, .ref m_cells, .ref m_moved, .ref m_tape, .int 16, .int 0, .int 0, .int 0, .int 0, .long 0, .int 0, .int 0, .int 0, .int (-1), .ref m_lines, .ref m_has, .ref m_state, .ref m_gate, .ref m_guest, .ref m_gone, .int 0, .ref m_isKept, .ref m_first, .ref m_second, .int 0, .ref m_far, .ref m_wished, .ref m_wasState, .ref m_isHere, .ref m_round, .ref m_bestRound, .int 0, .int 0, .long 0, .long 0, .ref m_taken, .int 0])), (m_tape, .inl (k_tape, 1600, .inl f2_10))]) [0, 1] rfl
  have hDc := hD.sub (ws' := [(h0, .inr (7, [.int 0, .ref m_width, .ref m_many, .ref m_cells, .ref m_moved, .ref m_tape, .int 16, .int 0, .int 0, .int 0, .int 0, .long 0, .int 0, .int 0, .int 0, .int (-1), .ref m_lines, .ref m_has, .ref m_state, .ref m_gate, .ref m_guest, .ref m_gone, .int 0, .ref m_isKept, .ref m_first, .ref m_second, .int 0, .ref m_far, .ref m_wished, .ref m_wasState, .ref m_isHere, .ref m_round, .ref m_bestRound, .int 0, .int 0, .long 0, .long 0, .ref m_taken, .int 0])), (m_tape, .inl (k_tape, 1600, .inl f2_10))]) [0, 1] (by decide) rfl
  have hKc := hK.sub (tys' := [(k_tape, .byte)]) [0] rfl
  have hFc := va_free (wc := [(h0, .inr (7, [.int 0, .ref m_width, .ref m_many, .ref m_cells, .ref m_moved, .ref m_tape, .int 16, .int 0, .int 0, .int 0, .int 0, .long 0, .int 0, .int 0, .int 0, .int (-1), .ref m_lines, .ref m_has, .ref m_state, .ref m_gate, .ref m_guest, .ref m_gone, .int 0, .ref m_isKept, .ref m_first, .ref m_second, .int 0, .ref m_far, .ref m_wished, .ref m_wasState, .ref m_isHere, .ref m_round, .ref m_bestRound, .int 0, .int 0, .long 0, .long 0, .ref m_taken, .int 0])), (m_tape, .inl (k_tape, 1600, .inl f2_10))]) hD hS hA [0, 1] rfl
  refine va_callv (va_runV (As := [.int p4]) (rest := []) ⟨hx, hb, hml, hown, hts⟩ (c_X7_four_16 l dC dI H.size h0 m_width m_many m_cells m_moved m_tape m_lines m_has m_state m_gate m_guest m_gone m_isKept m_first m_second m_far m_wished m_wasState m_isHere m_round m_bestRound m_taken k_tape f2_10 p4 ) (cwV 1 hts g_X7_feed_X7_four_16 rfl rfl rfl (by decide +kernel) ⟨Nat.le_of_ble_eq_true rfl, Nat.le_of_ble_eq_true rfl⟩) ⟨fun a U g mk q => by obtain ⟨q0, q1, qP, qK, qD⟩ := q; exact ⟨q0, q1, qP, va_K.moved (u := U) (U := U.calling g mk a) (Vm.Alike.refl U.vm) qK, qD⟩, va_recv hKc hPc (ci := 7) (q0 := 0) rfl rfl, fun U hU hW => ⟨rfl, by rw [hU], by rw [hU]; exact hPc, va_K.moved hW.alike hKc, hDc.weaken (fun _ _ _ _ => trivial)⟩⟩ rfl rfl hl.1 rfl (lv_room (Nat.le_of_ble_eq_true rfl)) dX7_feed_44 ⟨Nat.le_of_ble_eq_true rfl, Nat.le_of_ble_eq_true rfl⟩) hS (fun q _ h => hFc q h) hFc (fun u t H1 locs ht hvm hw_11 hB hz1 hk1 hS => ?_)
  obtain ⟨f2_12, rfl⟩ : ∃ z, z = u := ⟨_, rfl⟩
  obtain ⟨hP1, hK1, hD1⟩ := hB
  have hP1 : va_P (dC, dI) vwCl [(h0, .inr (7, [.int 0, .ref m_width, .ref m_many, .ref m_cells, .ref m_moved, .ref m_tape, .int 20, .int 0, .int 0, .int 0, .int 0, .long 0, .int 0, .int 0, .int 0, .int (-1), .ref m_lines, .ref m_has, .ref m_state, .ref m_gate, .ref m_guest, .ref m_gone, .int 0, .ref m_isKept, .ref m_first, .ref m_second, .int 0, .ref m_far, .ref m_wished, .ref m_wasState, .ref m_isHere, .ref m_round, .ref m_bestRound, .int 0, .int 0, .long 0, .long 0, .ref m_taken, .int 0])), (m_tape, .inl (k_tape, 1600, .inl f2_12))] t.heap := hP1
  rw [ht] at hP1
  try dsimp only at hw_11
  obtain ⟨hP, hD⟩ := va_join (wr := []) (w1 := [(h0, .inr (7, [.int 0, .ref m_width, .ref m_many, .ref m_cells, .ref m_moved, .ref m_tape, .int 20, .int 0, .int 0, .int 0, .int 0, .long 0, .int 0, .int 0, .int 0, .int (-1), .ref m_lines, .ref m_has, .ref m_state, .ref m_gate, .ref m_guest, .ref m_gone, .int 0, .ref m_isKept, .ref m_first, .ref m_second, .int 0, .ref m_far, .ref m_wished, .ref m_wasState, .ref m_isHere, .ref m_round, .ref m_bestRound, .int 0, .int 0, .long 0, .long 0, .ref m_taken, .int 0])), (m_tape, .inl (k_tape, 1600, .inl f2_12))]) hP hD [0, 1] [] rfl rfl (by decide) (by decide) hk1 hFc hP1 hD1
  generalize H1 = H at hP hS ⊢
  have hP : va_P (dC, dI) vwCl [(h0, .inr (7, [.int 0, .ref m_width, .ref m_many, .ref m_cells, .ref m_moved, .ref m_tape, .int 20, .int 0, .int 0, .int 0, .int 0, .long 0, .int 0, .int 0, .int 0, .int (-1), .ref m_lines, .ref m_has, .ref m_state, .ref m_gate, .ref m_guest, .ref m_gone, .int 0, .ref m_isKept, .ref m_first, .ref m_second, .int 0, .ref m_far, .ref m_wished, .ref m_wasState, .ref m_isHere, .ref m_round, .ref m_bestRound, .int 0, .int 0, .long 0, .long 0, .ref m_taken, .int 0])), (m_tape, .inl (k_tape, 1600, .inl f2_12))] H := hP
  have hD : va_D A [(h0, .inr (7, [.int 0, .ref m_width, .ref m_many, .ref m_cells, .ref m_moved, .ref m_tape, .int 20, .int 0, .int 0, .int 0, .int 0, .long 0, .int 0, .int 0, .int 0, .int (-1), .ref m_lines, .ref m_has, .ref m_state, .ref m_gate, .ref m_guest, .ref m_gone, .int 0, .ref m_isKept, .ref m_first, .ref m_second, .int 0, .ref m_far, .ref m_wished, .ref m_wasState, .ref m_isHere, .ref m_round, .ref m_bestRound, .int 0, .int 0, .long 0, .long 0, .ref m_taken, .int 0])), (m_tape, .inl (k_tape, 1600, .inl f2_12))] := hD
  refine lv_aload_n hx hb dX7_feed_47 rfl (lv_at hl 0 rfl) ?_
  refine va_get (D := (dC, dI)) (ci := 7) (v := .int 20) (C := RX7) (T := TX7) (N := 39) hx hb hts in_X7_feed_X7 hown hK hP 0 rfl rfl 6 (by decide) (hts _ wd_X7_feed_1) (fun _ h9 => h9) rfl dX7_feed_48 ?_
  refine W.widen (k := 0) (n := 0) (by omega) (by omega) ?_
  exact W.iret (v := 20) hx hb hr (fun t ht hW => ⟨⟨20, (), rfl, (by first | rfl | ((repeat' split) <;> (first | rfl | (exfalso; omega)))), trivial⟩, hS.F ht⟩) hS.2.2 dX7_feed_51

theorem dX7_count_0 : decode cX7_count 0 = .ok (.aload_n 0, 1) := by decide +kernel
theorem dX7_count_1 : decode cX7_count 1 = .ok (.iconst 0, 1) := by decide +kernel
theorem dX7_count_2 : decode cX7_count 2 = .ok (.putfield 80, 3) := by decide +kernel
theorem dX7_count_5 : decode cX7_count 5 = .ok (.iconst 0, 1) := by decide +kernel
theorem dX7_count_6 : decode cX7_count 6 = .ok (.istore_n 2, 1) := by decide +kernel
theorem dX7_count_7 : decode cX7_count 7 = .ok (.iload_n 1, 1) := by decide +kernel
theorem dX7_count_8 : decode cX7_count 8 = .ok (.tableswitch 174 0 10 #[60, 67, 74, 81, 88, 95, 102, 109, 114, 122, 141], 60) := by decide +kernel
theorem dX7_count_68 : decode cX7_count 68 = .ok (.aload_n 0, 1) := by decide +kernel
theorem dX7_count_69 : decode cX7_count 69 = .ok (.getfield 34, 3) := by decide +kernel
theorem dX7_count_72 : decode cX7_count 72 = .ok (.iconst 0, 1) := by decide +kernel
theorem dX7_count_73 : decode cX7_count 73 = .ok (.iaload, 1) := by decide +kernel
theorem dX7_count_74 : decode cX7_count 74 = .ok (.ireturn, 1) := by decide +kernel
theorem dX7_count_75 : decode cX7_count 75 = .ok (.aload_n 0, 1) := by decide +kernel
theorem dX7_count_76 : decode cX7_count 76 = .ok (.getfield 34, 3) := by decide +kernel
theorem dX7_count_79 : decode cX7_count 79 = .ok (.iconst 1, 1) := by decide +kernel
theorem dX7_count_80 : decode cX7_count 80 = .ok (.iaload, 1) := by decide +kernel
theorem dX7_count_81 : decode cX7_count 81 = .ok (.ireturn, 1) := by decide +kernel
theorem dX7_count_82 : decode cX7_count 82 = .ok (.aload_n 0, 1) := by decide +kernel
theorem dX7_count_83 : decode cX7_count 83 = .ok (.getfield 34, 3) := by decide +kernel
theorem dX7_count_86 : decode cX7_count 86 = .ok (.iconst 2, 1) := by decide +kernel
theorem dX7_count_87 : decode cX7_count 87 = .ok (.iaload, 1) := by decide +kernel
theorem dX7_count_88 : decode cX7_count 88 = .ok (.ireturn, 1) := by decide +kernel
theorem dX7_count_89 : decode cX7_count 89 = .ok (.aload_n 0, 1) := by decide +kernel
theorem dX7_count_90 : decode cX7_count 90 = .ok (.getfield 34, 3) := by decide +kernel
theorem dX7_count_93 : decode cX7_count 93 = .ok (.iconst 3, 1) := by decide +kernel
theorem dX7_count_94 : decode cX7_count 94 = .ok (.iaload, 1) := by decide +kernel
theorem dX7_count_95 : decode cX7_count 95 = .ok (.ireturn, 1) := by decide +kernel
theorem dX7_count_96 : decode cX7_count 96 = .ok (.aload_n 0, 1) := by decide +kernel
theorem dX7_count_97 : decode cX7_count 97 = .ok (.getfield 34, 3) := by decide +kernel
theorem dX7_count_100 : decode cX7_count 100 = .ok (.iconst 4, 1) := by decide +kernel
theorem dX7_count_101 : decode cX7_count 101 = .ok (.iaload, 1) := by decide +kernel
theorem dX7_count_102 : decode cX7_count 102 = .ok (.ireturn, 1) := by decide +kernel
theorem dX7_count_103 : decode cX7_count 103 = .ok (.aload_n 0, 1) := by decide +kernel
theorem dX7_count_104 : decode cX7_count 104 = .ok (.getfield 34, 3) := by decide +kernel
theorem dX7_count_107 : decode cX7_count 107 = .ok (.iconst 5, 1) := by decide +kernel
theorem dX7_count_108 : decode cX7_count 108 = .ok (.iaload, 1) := by decide +kernel
theorem dX7_count_109 : decode cX7_count 109 = .ok (.ireturn, 1) := by decide +kernel
theorem dX7_count_110 : decode cX7_count 110 = .ok (.aload_n 0, 1) := by decide +kernel
theorem dX7_count_111 : decode cX7_count 111 = .ok (.getfield 31, 3) := by decide +kernel
theorem dX7_count_114 : decode cX7_count 114 = .ok (.iconst 0, 1) := by decide +kernel
theorem dX7_count_115 : decode cX7_count 115 = .ok (.iaload, 1) := by decide +kernel
theorem dX7_count_116 : decode cX7_count 116 = .ok (.ireturn, 1) := by decide +kernel
theorem dX7_count_117 : decode cX7_count 117 = .ok (.aload_n 0, 1) := by decide +kernel
theorem dX7_count_118 : decode cX7_count 118 = .ok (.getfield 97, 3) := by decide +kernel
theorem dX7_count_121 : decode cX7_count 121 = .ok (.ireturn, 1) := by decide +kernel
theorem dX7_count_122 : decode cX7_count 122 = .ok (.aload_n 0, 1) := by decide +kernel
theorem dX7_count_123 : decode cX7_count 123 = .ok (.getfield 34, 3) := by decide +kernel
theorem dX7_count_126 : decode cX7_count 126 = .ok (.bipush 6, 2) := by decide +kernel
theorem dX7_count_128 : decode cX7_count 128 = .ok (.iaload, 1) := by decide +kernel
theorem dX7_count_129 : decode cX7_count 129 = .ok (.ireturn, 1) := by decide +kernel
theorem dX7_count_130 : decode cX7_count 130 = .ok (.aload_n 0, 1) := by decide +kernel
theorem dX7_count_131 : decode cX7_count 131 = .ok (.invokevirtual 263, 3) := by decide +kernel
theorem dX7_count_134 : decode cX7_count 134 = .ok (.ifCond .eq 13, 3) := by decide +kernel
theorem dX7_count_147 : decode cX7_count 147 = .ok (.iconst (-1), 1) := by decide +kernel
theorem dX7_count_148 : decode cX7_count 148 = .ok (.ireturn, 1) := by decide +kernel
theorem dX7_count_149 : decode cX7_count 149 = .ok (.iconst 0, 1) := by decide +kernel
theorem dX7_count_150 : decode cX7_count 150 = .ok (.istore_n 3, 1) := by decide +kernel
theorem dX7_count_151 : decode cX7_count 151 = .ok (.iload_n 3, 1) := by decide +kernel
theorem dX7_count_152 : decode cX7_count 152 = .ok (.iconst 4, 1) := by decide +kernel
theorem dX7_count_153 : decode cX7_count 153 = .ok (.if_icmp .ge 27, 3) := by decide +kernel
theorem dX7_count_156 : decode cX7_count 156 = .ok (.iload_n 2, 1) := by decide +kernel
theorem dX7_count_157 : decode cX7_count 157 = .ok (.aload_n 0, 1) := by decide +kernel
theorem dX7_count_158 : decode cX7_count 158 = .ok (.getfield 7, 3) := by decide +kernel
theorem dX7_count_161 : decode cX7_count 161 = .ok (.iload_n 3, 1) := by decide +kernel
theorem dX7_count_162 : decode cX7_count 162 = .ok (.iaload, 1) := by decide +kernel
theorem dX7_count_163 : decode cX7_count 163 = .ok (.iconst (-1), 1) := by decide +kernel
theorem dX7_count_164 : decode cX7_count 164 = .ok (.if_icmp .ne 7, 3) := by decide +kernel
theorem dX7_count_167 : decode cX7_count 167 = .ok (.iconst 0, 1) := by decide +kernel
theorem dX7_count_168 : decode cX7_count 168 = .ok (.goto 4, 3) := by decide +kernel
theorem dX7_count_172 : decode cX7_count 172 = .ok (.iadd, 1) := by decide +kernel
theorem dX7_count_173 : decode cX7_count 173 = .ok (.istore_n 2, 1) := by decide +kernel
theorem dX7_count_174 : decode cX7_count 174 = .ok (.iinc 3 1, 3) := by decide +kernel
theorem dX7_count_177 : decode cX7_count 177 = .ok (.goto (-26), 3) := by decide +kernel
theorem dX7_count_180 : decode cX7_count 180 = .ok (.iload_n 2, 1) := by decide +kernel
theorem dX7_count_181 : decode cX7_count 181 = .ok (.ireturn, 1) := by decide +kernel
theorem dX7_count_182 : decode cX7_count 182 = .ok (.iconst (-1), 1) := by decide +kernel
theorem dX7_count_183 : decode cX7_count 183 = .ok (.ireturn, 1) := by decide +kernel
def wz_X7_count : List Cond := .code yX7_count cX7_count 4 (some .int) :: ([Cond.fieldLink RX7 80 "HedgeMazeModel" "thrown" "I", Cond.fieldLink RX7 34 "HedgeMazeModel" "has" "[I", Cond.fieldLink RX7 31 "HedgeMazeModel" "lines" "[I", Cond.fieldLink RX7 97 "HedgeMazeModel" "taped" "I", Cond.fieldLink RX7 7 "HedgeMazeModel" "width" "[I", Cond.methodLink RX7 263 yX7_isMaze, Cond.instanceMethod yX7_isMaze, Cond.selects RX7 yX7_isMaze yX7_isMaze, Cond.initialized RX7, Cond.code yX7_isMaze cX7_isMaze 1 (some .boolean)] ++ wsX70)
theorem wd_X7_count_0 : Cond.fieldLink RX7 80 "HedgeMazeModel" "thrown" "I" ∈ wz_X7_count := List.mem_of_getElem? (i := 1) rfl
theorem wd_X7_count_1 : Cond.fieldLink RX7 34 "HedgeMazeModel" "has" "[I" ∈ wz_X7_count := List.mem_of_getElem? (i := 2) rfl
theorem wd_X7_count_2 : Cond.fieldLink RX7 31 "HedgeMazeModel" "lines" "[I" ∈ wz_X7_count := List.mem_of_getElem? (i := 3) rfl
theorem wd_X7_count_3 : Cond.fieldLink RX7 97 "HedgeMazeModel" "taped" "I" ∈ wz_X7_count := List.mem_of_getElem? (i := 4) rfl
theorem wd_X7_count_4 : Cond.fieldLink RX7 7 "HedgeMazeModel" "width" "[I" ∈ wz_X7_count := List.mem_of_getElem? (i := 5) rfl
theorem in_X7_count_X7 : ∀ w ∈ wsX70, w ∈ wz_X7_count := fun _ h => List.mem_cons_of_mem _ (List.mem_append_right _ h)
set_option maxRecDepth 20000 in
theorem g_X7_count_X7_isMaze : GoodIn wz_X7_count (wsV RX7 263 RX7 yX7_isMaze wz_X7_isMaze) := goodIn_r _ [6, 7, 8, 9, 10, 3, 11, 12, 13, 14, 15, 16, 17, 18, 19, 20, 21, 22, 23, 24, 25, 26, 27, 28, 29, 30, 31, 32, 33, 34, 35, 36, 37, 38, 39, 40, 41, 42, 43, 44, 45, 46, 47, 48, 49] rfl (by decide +kernel)
set_option maxHeartbeats 4000000 in
set_option maxRecDepth 100000 in
theorem c_X7_count (l : Launch) (dC : Nat → ClassId) (dI : Nat → Nat → Nat) (sz : Nat) (h0 : Nat) (m_width : Nat) (m_many : Nat) (m_cells : Nat) (m_moved : Nat) (m_tape : Nat) (m_lines : Nat) (m_has : Nat) (m_state : Nat) (m_gate : Nat) (m_guest : Nat) (m_gone : Nat) (m_isKept : Nat) (m_first : Nat) (m_second : Nat) (m_far : Nat) (m_wished : Nat) (m_wasState : Nat) (m_isHere : Nat) (m_round : Nat) (m_bestRound : Nat) (m_taken : Nat) (k_has : ClassId) (k_lines : ClassId) (k_width : ClassId) (fw : Nat → Int32) (p0 : Int32) (hf0 : fw 0 = -1) (hf1 : fw 1 = -1) (hf2 : fw 2 = -1) (hf3 : fw 3 = -1) : Met l yX7_count wz_X7_count ({ frames := 1, cells := 0, slots := 0, locals := 20 }) (va_Pc [.ref h0, .int p0] (fun U => U.heap.size = sz ∧ va_P (dC, dI) vwCl [(h0, .inr (7, [.int 0, .ref m_width, .ref m_many, .ref m_cells, .ref m_moved, .ref m_tape, .int 0, .int 0, .int 0, .int 0, .int 0, .long 0, .int 0, .int 0, .int 0, .int (-1), .ref m_lines, .ref m_has, .ref m_state, .ref m_gate, .ref m_guest, .ref m_gone, .int 0, .ref m_isKept, .ref m_first, .ref m_second, .int 0, .ref m_far, .ref m_wished, .ref m_wasState, .ref m_isHere, .ref m_round, .ref m_bestRound, .int 0, .int 0, .long 0, .long 0, .ref m_taken, .int 0])), (m_has, .inl (k_has, 45, .inl (fun _ => 0))), (m_lines, .inl (k_lines, 5, .inl (fun _ => 0))), (m_width, .inl (k_width, 4, .inl fw))] U.heap ∧ va_K (dC, dI) vwCl [(k_has, .int), (k_lines, .int), (k_width, .int)] U ∧ va_D (fun _ => True) [(h0, .inr (7, [.int 0, .ref m_width, .ref m_many, .ref m_cells, .ref m_moved, .ref m_tape, .int 0, .int 0, .int 0, .int 0, .int 0, .long 0, .int 0, .int 0, .int 0, .int (-1), .ref m_lines, .ref m_has, .ref m_state, .ref m_gate, .ref m_guest, .ref m_gone, .int 0, .ref m_isKept, .ref m_first, .ref m_second, .int 0, .ref m_far, .ref m_wished, .ref m_wasState, .ref m_isHere, .ref m_round, .ref m_bestRound, .int 0, .int 0, .long 0, .long 0, .ref m_taken, .int 0])), (m_has, .inl (k_has, 45, .inl (fun _ => 0))), (m_lines, .inl (k_lines, 5, .inl (fun _ => 0))), (m_width, .inl (k_width, 4, .inl fw))])) (va_Qi (fun (r : Int32) (u : Unit) => r = if (0 ≤ p0.toInt ∧ p0.toInt ≤ 8) ∨ p0.toInt = 10 then 0 else -1) (fun (_ : Unit) (_ : State) => True) (va_A [(h0, .inr (7, [.int 0, .ref m_width, .ref m_many, .ref m_cells, .ref m_moved, .ref m_tape, .int 0, .int 0, .int 0, .int 0, .int 0, .long 0, .int 0, .int 0, .int 0, .int (-1), .ref m_lines, .ref m_has, .ref m_state, .ref m_gate, .ref m_guest, .ref m_gone, .int 0, .ref m_isKept, .ref m_first, .ref m_second, .int 0, .ref m_far, .ref m_wished, .ref m_wasState, .ref m_isHere, .ref m_round, .ref m_bestRound, .int 0, .int 0, .long 0, .long 0, .ref m_taken, .int 0])), (m_has, .inl (k_has, 45, .inl (fun _ => 0))), (m_lines, .inl (k_lines, 5, .inl (fun _ => 0))), (m_width, .inl (k_width, 4, .inl fw))] sz)) 0 0 (va_A [(h0, .inr (7, [.int 0, .ref m_width, .ref m_many, .ref m_cells, .ref m_moved, .ref m_tape, .int 0, .int 0, .int 0, .int 0, .int 0, .long 0, .int 0, .int 0, .int 0, .int (-1), .ref m_lines, .ref m_has, .ref m_state, .ref m_gate, .ref m_guest, .ref m_gone, .int 0, .ref m_isKept, .ref m_first, .ref m_second, .int 0, .ref m_far, .ref m_wished, .ref m_wasState, .ref m_isHere, .ref m_round, .ref m_bestRound, .int 0, .int 0, .long 0, .long 0, .ref m_taken, .int 0])), (m_has, .inl (k_has, 45, .inl (fun _ => 0))), (m_lines, .inl (k_lines, 5, .inl (fun _ => 0))), (m_width, .inl (k_width, 4, .inl fw))] sz) := by
  refine Met.ofW (cc := cX7_count) (maxL := 4) (ret := (some .int)) (by decide) rfl ?_
  intro p e s m args below meth c s₁ B hml hv
  obtain ⟨rfl, hsz, hP, hK, hD0⟩ := hv
  have hx := B.exec
  have hb := B.bytes
  have hr := B.returns
  have hts := atoms_spec (ws := wz_X7_count) B.pre
  have hown : s.vm.findClass RX7 = some m.cls := findClass_of_methodNamed B.named
  have hlocks := B.notSynchronized
  subst hsz
  have hD := hD0.self (sz := s.heap.size)
  generalize hAe : va_A [(h0, .inr (7, [.int 0, .ref m_width, .ref m_many, .ref m_cells, .ref m_moved, .ref m_tape, .int 0, .int 0, .int 0, .int 0, .int 0, .long 0, .int 0, .int 0, .int 0, .int (-1), .ref m_lines, .ref m_has, .ref m_state, .ref m_gate, .ref m_guest, .ref m_gone, .int 0, .ref m_isKept, .ref m_first, .ref m_second, .int 0, .ref m_far, .ref m_wished, .ref m_wasState, .ref m_isHere, .ref m_round, .ref m_bestRound, .int 0, .int 0, .long 0, .long 0, .ref m_taken, .int 0])), (m_has, .inl (k_has, 45, .inl (fun _ => 0))), (m_lines, .inl (k_lines, 5, .inl (fun _ => 0))), (m_width, .inl (k_width, 4, .inl fw))] s.heap.size = A at hD ⊢
  have hA : ∀ q : Nat, s.heap.size ≤ q → A q := fun q h => by rw [← hAe]; exact Or.inr h
  have hS : va_S A s.heap s.heap [] := va_S.rf
  have hP : va_P (dC, dI) vwCl [(h0, .inr (7, [.int 0, .ref m_width, .ref m_many, .ref m_cells, .ref m_moved, .ref m_tape, .int 0, .int 0, .int 0, .int 0, .int 0, .long 0, .int 0, .int 0, .int 0, .int (-1), .ref m_lines, .ref m_has, .ref m_state, .ref m_gate, .ref m_guest, .ref m_gone, .int 0, .ref m_isKept, .ref m_first, .ref m_second, .int 0, .ref m_far, .ref m_wished, .ref m_wasState, .ref m_isHere, .ref m_round, .ref m_bestRound, .int 0, .int 0, .long 0, .long 0, .ref m_taken, .int 0])), (m_has, .inl (k_has, 45, .inl (fun _ => 0))), (m_lines, .inl (k_lines, 5, .inl (fun _ => 0))), (m_width, .inl (k_width, 4, .inl fw))] s.heap := hP
  have hl := lv_entry ([.ref h0, .int p0]) (n := 4) (Nat.le_of_ble_eq_true rfl)
  rw [lg_entry_eq]
  generalize (lg_sl ([.ref h0, .int p0]) ++ List.replicate (4 - (lg_sl ([.ref h0, .int p0])).length) Slot.unset).toArray = ls at hl ⊢
  have hl : lv_has ls 4 [(0, .ref h0), (1, .int p0)] := hl
  refine lv_aload_n hx hb dX7_count_0 rfl (lv_at hl 0 rfl) ?_
  refine lv_iconst (v := 0) hx hb dX7_count_1 (by decide) ?_
  refine va_put (D := (dC, dI)) (ci := 7) (v := .int 0) (ty := .int) (C := RX7) (T := TX7) (N := 39) hx hb hts in_X7_count_X7 tyX7 tyX7_ok nmX7 hown hK hP hD hS 0 rfl rfl 0 (by decide) (hts _ wd_X7_count_0) (fun _ h9 => h9) rfl (by decide +kernel) rfl rfl (Nat.le_of_ble_eq_true rfl) dX7_count_2 (fun H locs hP hD hS => ?_)
  have hP : va_P (dC, dI) vwCl [(h0, .inr (7, [.int 0, .ref m_width, .ref m_many, .ref m_cells, .ref m_moved, .ref m_tape, .int 0, .int 0, .int 0, .int 0, .int 0, .long 0, .int 0, .int 0, .int 0, .int (-1), .ref m_lines, .ref m_has, .ref m_state, .ref m_gate, .ref m_guest, .ref m_gone, .int 0, .ref m_isKept, .ref m_first, .ref m_second, .int 0, .ref m_far, .ref m_wished, .ref m_wasState, .ref m_isHere, .ref m_round, .ref m_bestRound, .int 0, .int 0, .long 0, .long 0, .ref m_taken, .int 0])), (m_has, .inl (k_has, 45, .inl (fun _ => 0))), (m_lines, .inl (k_lines, 5, .inl (fun _ => 0))), (m_width, .inl (k_width, 4, .inl fw))] H := hP
  have hD : va_D A [(h0, .inr (7, [.int 0, .ref m_width, .ref m_many, .ref m_cells, .ref m_moved, .ref m_tape, .int 0, .int 0, .int 0, .int 0, .int 0, .long 0, .int 0, .int 0, .int 0, .int (-1), .ref m_lines, .ref m_has, .ref m_state, .ref m_gate, .ref m_guest, .ref m_gone, .int 0, .ref m_isKept, .ref m_first, .ref m_second, .int 0, .ref m_far, .ref m_wished, .ref m_wasState, .ref m_isHere, .ref m_round, .ref m_bestRound, .int 0, .int 0, .long 0, .long 0, .ref m_taken, .int 0])), (m_has, .inl (k_has, 45, .inl (fun _ => 0))), (m_lines, .inl (k_lines, 5, .inl (fun _ => 0))), (m_width, .inl (k_width, 4, .inl fw))] := hD
  refine lv_iconst (v := 0) hx hb dX7_count_5 (by decide) ?_
  refine lv_istore_n (lv' := [(2, .int 0), (0, .ref h0), (1, .int p0)]) hx hb dX7_count_6 rfl hl (by decide) rfl (fun ls hl => ?_)
  refine lv_iload_n hx hb dX7_count_7 rfl (lv_at hl 2 rfl) ?_
  rcases i_sw (a := p0) rfl (lo := 0) (hi := 10) with hsw | hsw | hsw
  · refine lv_tableOut (tgt := 182) hx hb dX7_count_8 (Or.inl (i_clo rfl hsw)) (by decide) ?_
    refine lv_iconst (v := -1) hx hb dX7_count_182 (by decide) ?_
    refine W.widen (k := 0) (n := 0) (by omega) (by omega) ?_
    exact W.iret (v := -1) hx hb hr (fun t ht hW => ⟨⟨(-1), (), rfl, (by first | rfl | ((repeat' split) <;> (first | rfl | (exfalso; omega)))), trivial⟩, hS.F ht⟩) hS.2.2 dX7_count_183
  · refine lv_tableOut (tgt := 182) hx hb dX7_count_8 (Or.inr (i_chi rfl hsw)) (by decide) ?_
    refine lv_iconst (v := -1) hx hb dX7_count_182 (by decide) ?_
    refine W.widen (k := 0) (n := 0) (by omega) (by omega) ?_
    exact W.iret (v := -1) hx hb hr (fun t ht hW => ⟨⟨(-1), (), rfl, (by first | rfl | ((repeat' split) <;> (first | rfl | (exfalso; omega)))), trivial⟩, hS.F ht⟩) hS.2.2 dX7_count_183
  · have hsw2 : p0.toInt = 0 ∨ p0.toInt = 1 ∨ p0.toInt = 2 ∨ p0.toInt = 3 ∨ p0.toInt = 4 ∨ p0.toInt = 5 ∨ p0.toInt = 6 ∨ p0.toInt = 7 ∨ p0.toInt = 8 ∨ p0.toInt = 9 ∨ p0.toInt = 10 := by omega
    rcases hsw2 with hsw2 | hsw2 | hsw2 | hsw2 | hsw2 | hsw2 | hsw2 | hsw2 | hsw2 | hsw2 | hsw2
    · have hxz : p0.toInt = 0 := (rfl : p0.toInt = p0.toInt).trans hsw2
      refine lv_tableIn (off := 60) (tgt := 68) hx hb dX7_count_8 (by rw [hxz]; decide) (by rw [hxz]; decide) (by rw [hxz]; rfl) (by decide) ?_
      refine lv_aload_n hx hb dX7_count_68 rfl (lv_at hl 1 rfl) ?_
      refine va_get (D := (dC, dI)) (ci := 7) (v := .ref m_has) (C := RX7) (T := TX7) (N := 39) hx hb hts in_X7_count_X7 hown hK hP 0 rfl rfl 17 (by decide) (hts _ wd_X7_count_1) (fun _ h9 => h9) rfl dX7_count_69 ?_
      refine lv_iconst (v := 0) hx hb dX7_count_72 (by decide) ?_
      refine va_iald hx hb hK hP 1 0 rfl rfl (vp_in_iff.mpr ⟨by decide, by decide⟩) dX7_count_73 ?_
      refine lv_topi (fun z_1 ez_1 => ?_)
      obtain rfl : z_1 = 0 := ez_1
      refine W.widen (k := 0) (n := 0) (by omega) (by omega) ?_
      exact W.iret (v := 0) hx hb hr (fun t ht hW => ⟨⟨0, (), rfl, (by first | rfl | ((repeat' split) <;> (first | rfl | (exfalso; omega)))), trivial⟩, hS.F ht⟩) hS.2.2 dX7_count_74
    · have hxz : p0.toInt = 1 := (rfl : p0.toInt = p0.toInt).trans hsw2
      refine lv_tableIn (off := 67) (tgt := 75) hx hb dX7_count_8 (by rw [hxz]; decide) (by rw [hxz]; decide) (by rw [hxz]; rfl) (by decide) ?_
      refine lv_aload_n hx hb dX7_count_75 rfl (lv_at hl 1 rfl) ?_
      refine va_get (D := (dC, dI)) (ci := 7) (v := .ref m_has) (C := RX7) (T := TX7) (N := 39) hx hb hts in_X7_count_X7 hown hK hP 0 rfl rfl 17 (by decide) (hts _ wd_X7_count_1) (fun _ h9 => h9) rfl dX7_count_76 ?_
      refine lv_iconst (v := 1) hx hb dX7_count_79 (by decide) ?_
      refine va_iald hx hb hK hP 1 0 rfl rfl (vp_in_iff.mpr ⟨by decide, by decide⟩) dX7_count_80 ?_
      refine lv_topi (fun z_2 ez_2 => ?_)
      obtain rfl : z_2 = 0 := ez_2
      refine W.widen (k := 0) (n := 0) (by omega) (by omega) ?_
      exact W.iret (v := 0) hx hb hr (fun t ht hW => ⟨⟨0, (), rfl, (by first | rfl | ((repeat' split) <;> (first | rfl | (exfalso; omega)))), trivial⟩, hS.F ht⟩) hS.2.2 dX7_count_81
    · have hxz : p0.toInt = 2 := (rfl : p0.toInt = p0.toInt).trans hsw2
      refine lv_tableIn (off := 74) (tgt := 82) hx hb dX7_count_8 (by rw [hxz]; decide) (by rw [hxz]; decide) (by rw [hxz]; rfl) (by decide) ?_
      refine lv_aload_n hx hb dX7_count_82 rfl (lv_at hl 1 rfl) ?_
      refine va_get (D := (dC, dI)) (ci := 7) (v := .ref m_has) (C := RX7) (T := TX7) (N := 39) hx hb hts in_X7_count_X7 hown hK hP 0 rfl rfl 17 (by decide) (hts _ wd_X7_count_1) (fun _ h9 => h9) rfl dX7_count_83 ?_
      refine lv_iconst (v := 2) hx hb dX7_count_86 (by decide) ?_
      refine va_iald hx hb hK hP 1 0 rfl rfl (vp_in_iff.mpr ⟨by decide, by decide⟩) dX7_count_87 ?_
      refine lv_topi (fun z_3 ez_3 => ?_)
      obtain rfl : z_3 = 0 := ez_3
      refine W.widen (k := 0) (n := 0) (by omega) (by omega) ?_
      exact W.iret (v := 0) hx hb hr (fun t ht hW => ⟨⟨0, (), rfl, (by first | rfl | ((repeat' split) <;> (first | rfl | (exfalso; omega)))), trivial⟩, hS.F ht⟩) hS.2.2 dX7_count_88
    · have hxz : p0.toInt = 3 := (rfl : p0.toInt = p0.toInt).trans hsw2
      refine lv_tableIn (off := 81) (tgt := 89) hx hb dX7_count_8 (by rw [hxz]; decide) (by rw [hxz]; decide) (by rw [hxz]; rfl) (by decide) ?_
      refine lv_aload_n hx hb dX7_count_89 rfl (lv_at hl 1 rfl) ?_
      refine va_get (D := (dC, dI)) (ci := 7) (v := .ref m_has) (C := RX7) (T := TX7) (N := 39) hx hb hts in_X7_count_X7 hown hK hP 0 rfl rfl 17 (by decide) (hts _ wd_X7_count_1) (fun _ h9 => h9) rfl dX7_count_90 ?_
      refine lv_iconst (v := 3) hx hb dX7_count_93 (by decide) ?_
      refine va_iald hx hb hK hP 1 0 rfl rfl (vp_in_iff.mpr ⟨by decide, by decide⟩) dX7_count_94 ?_
      refine lv_topi (fun z_4 ez_4 => ?_)
      obtain rfl : z_4 = 0 := ez_4
      refine W.widen (k := 0) (n := 0) (by omega) (by omega) ?_
      exact W.iret (v := 0) hx hb hr (fun t ht hW => ⟨⟨0, (), rfl, (by first | rfl | ((repeat' split) <;> (first | rfl | (exfalso; omega)))), trivial⟩, hS.F ht⟩) hS.2.2 dX7_count_95
    · have hxz : p0.toInt = 4 := (rfl : p0.toInt = p0.toInt).trans hsw2
      refine lv_tableIn (off := 88) (tgt := 96) hx hb dX7_count_8 (by rw [hxz]; decide) (by rw [hxz]; decide) (by rw [hxz]; rfl) (by decide) ?_
      refine lv_aload_n hx hb dX7_count_96 rfl (lv_at hl 1 rfl) ?_
      refine va_get (D := (dC, dI)) (ci := 7) (v := .ref m_has) (C := RX7) (T := TX7) (N := 39) hx hb hts in_X7_count_X7 hown hK hP 0 rfl rfl 17 (by decide) (hts _ wd_X7_count_1) (fun _ h9 => h9) rfl dX7_count_97 ?_
      refine lv_iconst (v := 4) hx hb dX7_count_100 (by decide) ?_
      refine va_iald hx hb hK hP 1 0 rfl rfl (vp_in_iff.mpr ⟨by decide, by decide⟩) dX7_count_101 ?_
      refine lv_topi (fun z_5 ez_5 => ?_)
      obtain rfl : z_5 = 0 := ez_5
      refine W.widen (k := 0) (n := 0) (by omega) (by omega) ?_
      exact W.iret (v := 0) hx hb hr (fun t ht hW => ⟨⟨0, (), rfl, (by first | rfl | ((repeat' split) <;> (first | rfl | (exfalso; omega)))), trivial⟩, hS.F ht⟩) hS.2.2 dX7_count_102
    · have hxz : p0.toInt = 5 := (rfl : p0.toInt = p0.toInt).trans hsw2
      refine lv_tableIn (off := 95) (tgt := 103) hx hb dX7_count_8 (by rw [hxz]; decide) (by rw [hxz]; decide) (by rw [hxz]; rfl) (by decide) ?_
      refine lv_aload_n hx hb dX7_count_103 rfl (lv_at hl 1 rfl) ?_
      refine va_get (D := (dC, dI)) (ci := 7) (v := .ref m_has) (C := RX7) (T := TX7) (N := 39) hx hb hts in_X7_count_X7 hown hK hP 0 rfl rfl 17 (by decide) (hts _ wd_X7_count_1) (fun _ h9 => h9) rfl dX7_count_104 ?_
      refine lv_iconst (v := 5) hx hb dX7_count_107 (by decide) ?_
      refine va_iald hx hb hK hP 1 0 rfl rfl (vp_in_iff.mpr ⟨by decide, by decide⟩) dX7_count_108 ?_
      refine lv_topi (fun z_6 ez_6 => ?_)
      obtain rfl : z_6 = 0 := ez_6
      refine W.widen (k := 0) (n := 0) (by omega) (by omega) ?_
      exact W.iret (v := 0) hx hb hr (fun t ht hW => ⟨⟨0, (), rfl, (by first | rfl | ((repeat' split) <;> (first | rfl | (exfalso; omega)))), trivial⟩, hS.F ht⟩) hS.2.2 dX7_count_109
    · have hxz : p0.toInt = 6 := (rfl : p0.toInt = p0.toInt).trans hsw2
      refine lv_tableIn (off := 102) (tgt := 110) hx hb dX7_count_8 (by rw [hxz]; decide) (by rw [hxz]; decide) (by rw [hxz]; rfl) (by decide) ?_
      refine lv_aload_n hx hb dX7_count_110 rfl (lv_at hl 1 rfl) ?_
      refine va_get (D := (dC, dI)) (ci := 7) (v := .ref m_lines) (C := RX7) (T := TX7) (N := 39) hx hb hts in_X7_count_X7 hown hK hP 0 rfl rfl 16 (by decide) (hts _ wd_X7_count_2) (fun _ h9 => h9) rfl dX7_count_111 ?_
      refine lv_iconst (v := 0) hx hb dX7_count_114 (by decide) ?_
      refine va_iald hx hb hK hP 2 1 rfl rfl (vp_in_iff.mpr ⟨by decide, by decide⟩) dX7_count_115 ?_
      refine lv_topi (fun z_7 ez_7 => ?_)
      obtain rfl : z_7 = 0 := ez_7
      refine W.widen (k := 0) (n := 0) (by omega) (by omega) ?_
      exact W.iret (v := 0) hx hb hr (fun t ht hW => ⟨⟨0, (), rfl, (by first | rfl | ((repeat' split) <;> (first | rfl | (exfalso; omega)))), trivial⟩, hS.F ht⟩) hS.2.2 dX7_count_116
    · have hxz : p0.toInt = 7 := (rfl : p0.toInt = p0.toInt).trans hsw2
      refine lv_tableIn (off := 109) (tgt := 117) hx hb dX7_count_8 (by rw [hxz]; decide) (by rw [hxz]; decide) (by rw [hxz]; rfl) (by decide) ?_
      refine lv_aload_n hx hb dX7_count_117 rfl (lv_at hl 1 rfl) ?_
      refine va_get (D := (dC, dI)) (ci := 7) (v := .int 0) (C := RX7) (T := TX7) (N := 39) hx hb hts in_X7_count_X7 hown hK hP 0 rfl rfl 6 (by decide) (hts _ wd_X7_count_3) (fun _ h9 => h9) rfl dX7_count_118 ?_
      refine W.widen (k := 0) (n := 0) (by omega) (by omega) ?_
      exact W.iret (v := 0) hx hb hr (fun t ht hW => ⟨⟨0, (), rfl, (by first | rfl | ((repeat' split) <;> (first | rfl | (exfalso; omega)))), trivial⟩, hS.F ht⟩) hS.2.2 dX7_count_121
    · have hxz : p0.toInt = 8 := (rfl : p0.toInt = p0.toInt).trans hsw2
      refine lv_tableIn (off := 114) (tgt := 122) hx hb dX7_count_8 (by rw [hxz]; decide) (by rw [hxz]; decide) (by rw [hxz]; rfl) (by decide) ?_
      refine lv_aload_n hx hb dX7_count_122 rfl (lv_at hl 1 rfl) ?_
      refine va_get (D := (dC, dI)) (ci := 7) (v := .ref m_has) (C := RX7) (T := TX7) (N := 39) hx hb hts in_X7_count_X7 hown hK hP 0 rfl rfl 17 (by decide) (hts _ wd_X7_count_1) (fun _ h9 => h9) rfl dX7_count_123 ?_
      refine lv_bipush (v := 6) hx hb dX7_count_126 (by decide) ?_
      refine va_iald hx hb hK hP 1 0 rfl rfl (vp_in_iff.mpr ⟨by decide, by decide⟩) dX7_count_128 ?_
      refine lv_topi (fun z_8 ez_8 => ?_)
      obtain rfl : z_8 = 0 := ez_8
      refine W.widen (k := 0) (n := 0) (by omega) (by omega) ?_
      exact W.iret (v := 0) hx hb hr (fun t ht hW => ⟨⟨0, (), rfl, (by first | rfl | ((repeat' split) <;> (first | rfl | (exfalso; omega)))), trivial⟩, hS.F ht⟩) hS.2.2 dX7_count_129
    · have hxz : p0.toInt = 9 := (rfl : p0.toInt = p0.toInt).trans hsw2
      refine lv_tableIn (off := 122) (tgt := 130) hx hb dX7_count_8 (by rw [hxz]; decide) (by rw [hxz]; decide) (by rw [hxz]; rfl) (by decide) ?_
      refine lv_aload_n hx hb dX7_count_130 rfl (lv_at hl 1 rfl) ?_
      have hPc := hP.sub (ws' := [(h0, .inr (7, [.int 0, .ref m_width, .ref m_many, .ref m_cells, .ref m_moved, .ref m_tape, .int 0, .int 0, .int 0, .int 0, .int 0, .long 0, .int 0, .int 0, .int 0, .int (-1), .ref m_lines, .ref m_has, .ref m_state, .ref m_gate, .ref m_guest, .ref m_gone, .int 0, .ref m_isKept, .ref m_first, .ref m_second, .int 0, .ref m_far, .ref m_wished, .ref m_wasState, .ref m_isHere, .ref m_round, .ref m_bestRound, .int 0, .int 0, .long 0, .long 0, .ref m_taken, .int 0])), (m_lines, .inl (k_lines, 5, .inl (fun _ => 0)))]) [0, 2] rfl
      have hDc := hD.sub (ws' := [(h0, .inr (7, [.int 0, .ref m_width, .ref m_many, .ref m_cells, .ref m_moved, .ref m_tape, .int 0, .int 0, .int 0, .int 0, .int 0, .long 0, .int 0, .int 0, .int 0, .int (-1), .ref m_lines, .ref m_has, .ref m_state, .ref m_gate, .ref m_guest, .ref m_gone, .int 0, .ref m_isKept, .ref m_first, .ref m_second, .int 0, .ref m_far, .ref m_wished, .ref m_wasState, .ref m_isHere, .ref m_round, .ref m_bestRound, .int 0, .int 0, .long 0, .long 0, .ref m_taken, .int 0])), (m_lines, .inl (k_lines, 5, .inl (fun _ => 0)))]) [0, 2] (by decide) rfl
      have hKc := hK.sub (tys' := [(k_lines, .int)]) [1] rfl
      have hFc := va_free (wc := [(h0, .inr (7, [.int 0, .ref m_width, .ref m_many, .ref m_cells, .ref m_moved, .ref m_tape, .int 0, .int 0, .int 0, .int 0, .int 0, .long 0, .int 0, .int 0, .int 0, .int (-1), .ref m_lines, .ref m_has, .ref m_state, .ref m_gate, .ref m_guest, .ref m_gone, .int 0, .ref m_isKept, .ref m_first, .ref m_second, .int 0, .ref m_far, .ref m_wished, .ref m_wasState, .ref m_isHere, .ref m_round, .ref m_bestRound, .int 0, .int 0, .long 0, .long 0, .ref m_taken, .int 0])), (m_lines, .inl (k_lines, 5, .inl (fun _ => 0)))]) hD hS hA [0, 2] rfl
      refine va_calli (va_runV (As := []) (rest := []) ⟨hx, hb, hml, hown, hts⟩ (c_X7_isMaze l dC dI H.size h0 m_width m_many m_cells m_moved m_tape m_lines m_has m_state m_gate m_guest m_gone m_isKept m_first m_second m_far m_wished m_wasState m_isHere m_round m_bestRound m_taken k_lines ) (cwV 0 hts g_X7_count_X7_isMaze rfl rfl rfl (by decide +kernel) ⟨Nat.le_of_ble_eq_true rfl, Nat.le_of_ble_eq_true rfl⟩) ⟨fun a U g mk q => by obtain ⟨q0, q1, qP, qK, qD⟩ := q; exact ⟨q0, q1, qP, va_K.moved (u := U) (U := U.calling g mk a) (Vm.Alike.refl U.vm) qK, qD⟩, va_recv hKc hPc (ci := 7) (q0 := 0) rfl rfl, fun U hU hW => ⟨rfl, by rw [hU], by rw [hU]; exact hPc, va_K.moved hW.alike hKc, hDc.weaken (fun _ _ _ _ => trivial)⟩⟩ rfl rfl hl.1 rfl (lv_room (Nat.le_of_ble_eq_true rfl)) dX7_count_131 ⟨Nat.le_of_ble_eq_true rfl, Nat.le_of_ble_eq_true rfl⟩) hS (fun q _ h => hFc q h) hFc (fun r_9 u t H1 locs ht hvm hw_10 hB hz1 hk1 hS => ?_)
      obtain ⟨hP1, hK1, hD1⟩ := hB
      have hP1 : va_P (dC, dI) vwCl [(h0, .inr (7, [.int 0, .ref m_width, .ref m_many, .ref m_cells, .ref m_moved, .ref m_tape, .int 0, .int 0, .int 0, .int 0, .int 0, .long 0, .int 0, .int 0, .int 0, .int (-1), .ref m_lines, .ref m_has, .ref m_state, .ref m_gate, .ref m_guest, .ref m_gone, .int 0, .ref m_isKept, .ref m_first, .ref m_second, .int 0, .ref m_far, .ref m_wished, .ref m_wasState, .ref m_isHere, .ref m_round, .ref m_bestRound, .int 0, .int 0, .long 0, .long 0, .ref m_taken, .int 0])), (m_lines, .inl (k_lines, 5, .inl (fun _ => 0)))] t.heap := hP1
      rw [ht] at hP1
      try dsimp only at hw_10
      obtain ⟨hP, hD⟩ := va_join (wr := [(m_has, .inl (k_has, 45, .inl (fun _ => 0))), (m_width, .inl (k_width, 4, .inl fw))]) (w1 := [(h0, .inr (7, [.int 0, .ref m_width, .ref m_many, .ref m_cells, .ref m_moved, .ref m_tape, .int 0, .int 0, .int 0, .int 0, .int 0, .long 0, .int 0, .int 0, .int 0, .int (-1), .ref m_lines, .ref m_has, .ref m_state, .ref m_gate, .ref m_guest, .ref m_gone, .int 0, .ref m_isKept, .ref m_first, .ref m_second, .int 0, .ref m_far, .ref m_wished, .ref m_wasState, .ref m_isHere, .ref m_round, .ref m_bestRound, .int 0, .int 0, .long 0, .long 0, .ref m_taken, .int 0])), (m_lines, .inl (k_lines, 5, .inl (fun _ => 0)))]) hP hD [0, 2] [1, 3] rfl rfl (by decide) (by decide) hk1 hFc hP1 hD1
      generalize H1 = H at hP hS ⊢
      have hP : va_P (dC, dI) vwCl [(m_has, .inl (k_has, 45, .inl (fun _ => 0))), (m_width, .inl (k_width, 4, .inl fw)), (h0, .inr (7, [.int 0, .ref m_width, .ref m_many, .ref m_cells, .ref m_moved, .ref m_tape, .int 0, .int 0, .int 0, .int 0, .int 0, .long 0, .int 0, .int 0, .int 0, .int (-1), .ref m_lines, .ref m_has, .ref m_state, .ref m_gate, .ref m_guest, .ref m_gone, .int 0, .ref m_isKept, .ref m_first, .ref m_second, .int 0, .ref m_far, .ref m_wished, .ref m_wasState, .ref m_isHere, .ref m_round, .ref m_bestRound, .int 0, .int 0, .long 0, .long 0, .ref m_taken, .int 0])), (m_lines, .inl (k_lines, 5, .inl (fun _ => 0)))] H := hP
      have hD : va_D A [(m_has, .inl (k_has, 45, .inl (fun _ => 0))), (m_width, .inl (k_width, 4, .inl fw)), (h0, .inr (7, [.int 0, .ref m_width, .ref m_many, .ref m_cells, .ref m_moved, .ref m_tape, .int 0, .int 0, .int 0, .int 0, .int 0, .long 0, .int 0, .int 0, .int 0, .int (-1), .ref m_lines, .ref m_has, .ref m_state, .ref m_gate, .ref m_guest, .ref m_gone, .int 0, .ref m_isKept, .ref m_first, .ref m_second, .int 0, .ref m_far, .ref m_wished, .ref m_wasState, .ref m_isHere, .ref m_round, .ref m_bestRound, .int 0, .int 0, .long 0, .long 0, .ref m_taken, .int 0])), (m_lines, .inl (k_lines, 5, .inl (fun _ => 0)))] := hD
      obtain rfl : r_9 = 0 := hw_10
      refine lv_if_eq (tgt := 147) hx hb dX7_count_134 (by decide) (fun _ => ?_) (fun h => absurd (by decide) h)
      refine lv_iconst (v := -1) hx hb dX7_count_147 (by decide) ?_
      refine W.widen (k := 0) (n := 0) (by omega) (by omega) ?_
      exact W.iret (v := -1) hx hb hr (fun t ht hW => ⟨⟨(-1), (), rfl, (by first | rfl | ((repeat' split) <;> (first | rfl | (exfalso; omega)))), trivial⟩, hS.F ht⟩) hS.2.2 dX7_count_148
    · have hxz : p0.toInt = 10 := (rfl : p0.toInt = p0.toInt).trans hsw2
      refine lv_tableIn (off := 141) (tgt := 149) hx hb dX7_count_8 (by rw [hxz]; decide) (by rw [hxz]; decide) (by rw [hxz]; rfl) (by decide) ?_
      refine lv_iconst (v := 0) hx hb dX7_count_149 (by decide) ?_
      refine lv_istore_n (lv' := [(3, .int 0), (2, .int 0), (0, .ref h0), (1, .int p0)]) hx hb dX7_count_150 rfl hl (by decide) rfl (fun ls hl => ?_)
      refine lv_iload_n hx hb dX7_count_151 rfl (lv_at hl 0 rfl) ?_
      refine lv_iconst (v := 4) hx hb dX7_count_152 (by decide) ?_
      refine lv_icmp_ge (tgt := 180) hx hb dX7_count_153 (by decide) (fun h => absurd h (by decide)) (fun _ => ?_)
      refine lv_iload_n hx hb dX7_count_156 rfl (lv_at hl 1 rfl) ?_
      refine lv_aload_n hx hb dX7_count_157 rfl (lv_at hl 2 rfl) ?_
      refine va_get (D := (dC, dI)) (ci := 7) (v := .ref m_width) (C := RX7) (T := TX7) (N := 39) hx hb hts in_X7_count_X7 hown hK hP 0 rfl rfl 1 (by decide) (hts _ wd_X7_count_4) (fun _ h9 => h9) rfl dX7_count_158 ?_
      refine lv_iload_n hx hb dX7_count_161 rfl (lv_at hl 0 rfl) ?_
      refine va_iald hx hb hK hP 3 2 rfl rfl (vp_in_iff.mpr ⟨by decide, by decide⟩) dX7_count_162 ?_
      refine lv_topi (fun z_13 ez_13 => ?_)
      obtain rfl : z_13 = -1 := ez_13.trans (show fw (0 : Int32).toNatClampNeg = -1 from hf0)
      refine lv_iconst (v := -1) hx hb dX7_count_163 (by decide) ?_
      refine lv_icmp_ne (tgt := 171) hx hb dX7_count_164 (by decide) (fun h => absurd (by decide) h) (fun _ => ?_)
      refine lv_iconst (v := 0) hx hb dX7_count_167 (by decide) ?_
      refine lv_goto (tgt := 172) hx hb dX7_count_168 (by decide) ?_
      refine lv_iadd hx hb dX7_count_172 ?_
      refine lv_topi (fun z_15 ez_15 => ?_)
      obtain rfl : z_15 = 0 := ez_15.trans (by decide)
      refine lv_istore_n (lv' := [(2, .int 0), (3, .int 0), (0, .ref h0), (1, .int p0)]) hx hb dX7_count_173 rfl hl (by decide) rfl (fun ls hl => ?_)
      refine lv_iinc (v := 1) (lv' := [(3, .int 1), (2, .int 0), (0, .ref h0), (1, .int p0)]) hx hb dX7_count_174 hl (k := 1) rfl (by decide) (by decide) rfl (fun ls hl => ?_)
      refine lv_goto (tgt := 151) hx hb dX7_count_177 (by decide) ?_
      refine lv_iload_n hx hb dX7_count_151 rfl (lv_at hl 0 rfl) ?_
      refine lv_iconst (v := 4) hx hb dX7_count_152 (by decide) ?_
      refine lv_icmp_ge (tgt := 180) hx hb dX7_count_153 (by decide) (fun h => absurd h (by decide)) (fun _ => ?_)
      refine lv_iload_n hx hb dX7_count_156 rfl (lv_at hl 1 rfl) ?_
      refine lv_aload_n hx hb dX7_count_157 rfl (lv_at hl 2 rfl) ?_
      refine va_get (D := (dC, dI)) (ci := 7) (v := .ref m_width) (C := RX7) (T := TX7) (N := 39) hx hb hts in_X7_count_X7 hown hK hP 0 rfl rfl 1 (by decide) (hts _ wd_X7_count_4) (fun _ h9 => h9) rfl dX7_count_158 ?_
      refine lv_iload_n hx hb dX7_count_161 rfl (lv_at hl 0 rfl) ?_
      refine va_iald hx hb hK hP 3 2 rfl rfl (vp_in_iff.mpr ⟨by decide, by decide⟩) dX7_count_162 ?_
      refine lv_topi (fun z_17 ez_17 => ?_)
      obtain rfl : z_17 = -1 := ez_17.trans (show fw (1 : Int32).toNatClampNeg = -1 from hf1)
      refine lv_iconst (v := -1) hx hb dX7_count_163 (by decide) ?_
      refine lv_icmp_ne (tgt := 171) hx hb dX7_count_164 (by decide) (fun h => absurd (by decide) h) (fun _ => ?_)
      refine lv_iconst (v := 0) hx hb dX7_count_167 (by decide) ?_
      refine lv_goto (tgt := 172) hx hb dX7_count_168 (by decide) ?_
      refine lv_iadd hx hb dX7_count_172 ?_
      refine lv_topi (fun z_19 ez_19 => ?_)
      obtain rfl : z_19 = 0 := ez_19.trans (by decide)
      refine lv_istore_n (lv' := [(2, .int 0), (3, .int 1), (0, .ref h0), (1, .int p0)]) hx hb dX7_count_173 rfl hl (by decide) rfl (fun ls hl => ?_)
      refine lv_iinc (v := 2) (lv' := [(3, .int 2), (2, .int 0), (0, .ref h0), (1, .int p0)]) hx hb dX7_count_174 hl (k := 1) rfl (by decide) (by decide) rfl (fun ls hl => ?_)
      refine lv_goto (tgt := 151) hx hb dX7_count_177 (by decide) ?_
      refine lv_iload_n hx hb dX7_count_151 rfl (lv_at hl 0 rfl) ?_
      refine lv_iconst (v := 4) hx hb dX7_count_152 (by decide) ?_
      refine lv_icmp_ge (tgt := 180) hx hb dX7_count_153 (by decide) (fun h => absurd h (by decide)) (fun _ => ?_)
      refine lv_iload_n hx hb dX7_count_156 rfl (lv_at hl 1 rfl) ?_
      refine lv_aload_n hx hb dX7_count_157 rfl (lv_at hl 2 rfl) ?_
      refine va_get (D := (dC, dI)) (ci := 7) (v := .ref m_width) (C := RX7) (T := TX7) (N := 39) hx hb hts in_X7_count_X7 hown hK hP 0 rfl rfl 1 (by decide) (hts _ wd_X7_count_4) (fun _ h9 => h9) rfl dX7_count_158 ?_
      refine lv_iload_n hx hb dX7_count_161 rfl (lv_at hl 0 rfl) ?_
      refine va_iald hx hb hK hP 3 2 rfl rfl (vp_in_iff.mpr ⟨by decide, by decide⟩) dX7_count_162 ?_
      refine lv_topi (fun z_21 ez_21 => ?_)
      obtain rfl : z_21 = -1 := ez_21.trans (show fw (2 : Int32).toNatClampNeg = -1 from hf2)
      refine lv_iconst (v := -1) hx hb dX7_count_163 (by decide) ?_
      refine lv_icmp_ne (tgt := 171) hx hb dX7_count_164 (by decide) (fun h => absurd (by decide) h) (fun _ => ?_)
      refine lv_iconst (v := 0) hx hb dX7_count_167 (by decide) ?_
      refine lv_goto (tgt := 172) hx hb dX7_count_168 (by decide) ?_
      refine lv_iadd hx hb dX7_count_172 ?_
      refine lv_topi (fun z_23 ez_23 => ?_)
      obtain rfl : z_23 = 0 := ez_23.trans (by decide)
      refine lv_istore_n (lv' := [(2, .int 0), (3, .int 2), (0, .ref h0), (1, .int p0)]) hx hb dX7_count_173 rfl hl (by decide) rfl (fun ls hl => ?_)
      refine lv_iinc (v := 3) (lv' := [(3, .int 3), (2, .int 0), (0, .ref h0), (1, .int p0)]) hx hb dX7_count_174 hl (k := 1) rfl (by decide) (by decide) rfl (fun ls hl => ?_)
      refine lv_goto (tgt := 151) hx hb dX7_count_177 (by decide) ?_
      refine lv_iload_n hx hb dX7_count_151 rfl (lv_at hl 0 rfl) ?_
      refine lv_iconst (v := 4) hx hb dX7_count_152 (by decide) ?_
      refine lv_icmp_ge (tgt := 180) hx hb dX7_count_153 (by decide) (fun h => absurd h (by decide)) (fun _ => ?_)
      refine lv_iload_n hx hb dX7_count_156 rfl (lv_at hl 1 rfl) ?_
      refine lv_aload_n hx hb dX7_count_157 rfl (lv_at hl 2 rfl) ?_
      refine va_get (D := (dC, dI)) (ci := 7) (v := .ref m_width) (C := RX7) (T := TX7) (N := 39) hx hb hts in_X7_count_X7 hown hK hP 0 rfl rfl 1 (by decide) (hts _ wd_X7_count_4) (fun _ h9 => h9) rfl dX7_count_158 ?_
      refine lv_iload_n hx hb dX7_count_161 rfl (lv_at hl 0 rfl) ?_
      refine va_iald hx hb hK hP 3 2 rfl rfl (vp_in_iff.mpr ⟨by decide, by decide⟩) dX7_count_162 ?_
      refine lv_topi (fun z_25 ez_25 => ?_)
      obtain rfl : z_25 = -1 := ez_25.trans (show fw (3 : Int32).toNatClampNeg = -1 from hf3)
      refine lv_iconst (v := -1) hx hb dX7_count_163 (by decide) ?_
      refine lv_icmp_ne (tgt := 171) hx hb dX7_count_164 (by decide) (fun h => absurd (by decide) h) (fun _ => ?_)
      refine lv_iconst (v := 0) hx hb dX7_count_167 (by decide) ?_
      refine lv_goto (tgt := 172) hx hb dX7_count_168 (by decide) ?_
      refine lv_iadd hx hb dX7_count_172 ?_
      refine lv_topi (fun z_27 ez_27 => ?_)
      obtain rfl : z_27 = 0 := ez_27.trans (by decide)
      refine lv_istore_n (lv' := [(2, .int 0), (3, .int 3), (0, .ref h0), (1, .int p0)]) hx hb dX7_count_173 rfl hl (by decide) rfl (fun ls hl => ?_)
      refine lv_iinc (v := 4) (lv' := [(3, .int 4), (2, .int 0), (0, .ref h0), (1, .int p0)]) hx hb dX7_count_174 hl (k := 1) rfl (by decide) (by decide) rfl (fun ls hl => ?_)
      refine lv_goto (tgt := 151) hx hb dX7_count_177 (by decide) ?_
      refine lv_iload_n hx hb dX7_count_151 rfl (lv_at hl 0 rfl) ?_
      refine lv_iconst (v := 4) hx hb dX7_count_152 (by decide) ?_
      refine lv_icmp_ge (tgt := 180) hx hb dX7_count_153 (by decide) (fun _ => ?_) (fun h => absurd (by decide) h)
      refine lv_iload_n hx hb dX7_count_180 rfl (lv_at hl 1 rfl) ?_
      refine W.widen (k := 0) (n := 0) (by omega) (by omega) ?_
      exact W.iret (v := 0) hx hb hr (fun t ht hW => ⟨⟨0, (), rfl, (by first | rfl | ((repeat' split) <;> (first | rfl | (exfalso; omega)))), trivial⟩, hS.F ht⟩) hS.2.2 dX7_count_181

theorem dX7_row_0 : decode cX7_row 0 = .ok (.aload_n 0, 1) := by decide +kernel
theorem dX7_row_1 : decode cX7_row 1 = .ok (.iconst 0, 1) := by decide +kernel
theorem dX7_row_2 : decode cX7_row 2 = .ok (.putfield 80, 3) := by decide +kernel
theorem dX7_row_5 : decode cX7_row 5 = .ok (.iload_n 1, 1) := by decide +kernel
theorem dX7_row_6 : decode cX7_row 6 = .ok (.invokestatic 89, 3) := by decide +kernel
theorem dX7_row_9 : decode cX7_row 9 = .ok (.ifCond .eq 21, 3) := by decide +kernel
theorem dX7_row_12 : decode cX7_row 12 = .ok (.iload_n 2, 1) := by decide +kernel
theorem dX7_row_13 : decode cX7_row 13 = .ok (.i2l, 1) := by decide +kernel
theorem dX7_row_14 : decode cX7_row 14 = .ok (.lconst 0, 1) := by decide +kernel
theorem dX7_row_15 : decode cX7_row 15 = .ok (.ldc2_w 83, 3) := by decide +kernel
theorem dX7_row_18 : decode cX7_row 18 = .ok (.invokestatic 85, 3) := by decide +kernel
theorem dX7_row_21 : decode cX7_row 21 = .ok (.ifCond .eq 9, 3) := by decide +kernel
theorem dX7_row_24 : decode cX7_row 24 = .ok (.iload_n 3, 1) := by decide +kernel
theorem dX7_row_25 : decode cX7_row 25 = .ok (.bipush 60, 2) := by decide +kernel
theorem dX7_row_27 : decode cX7_row 27 = .ok (.if_icmp .le 6, 3) := by decide +kernel
theorem dX7_row_30 : decode cX7_row 30 = .ok (.bipush (-2), 2) := by decide +kernel
theorem dX7_row_32 : decode cX7_row 32 = .ok (.ireturn, 1) := by decide +kernel
theorem dX7_row_33 : decode cX7_row 33 = .ok (.iload_n 3, 1) := by decide +kernel
theorem dX7_row_34 : decode cX7_row 34 = .ok (.ifCond .ge 6, 3) := by decide +kernel
theorem dX7_row_37 : decode cX7_row 37 = .ok (.bipush (-3), 2) := by decide +kernel
theorem dX7_row_39 : decode cX7_row 39 = .ok (.ireturn, 1) := by decide +kernel
theorem dX7_row_40 : decode cX7_row 40 = .ok (.aload_n 0, 1) := by decide +kernel
theorem dX7_row_41 : decode cX7_row 41 = .ok (.getfield 7, 3) := by decide +kernel
theorem dX7_row_44 : decode cX7_row 44 = .ok (.iload_n 1, 1) := by decide +kernel
theorem dX7_row_45 : decode cX7_row 45 = .ok (.iload_n 2, 1) := by decide +kernel
theorem dX7_row_46 : decode cX7_row 46 = .ok (.iastore, 1) := by decide +kernel
theorem dX7_row_47 : decode cX7_row 47 = .ok (.aload_n 0, 1) := by decide +kernel
theorem dX7_row_48 : decode cX7_row 48 = .ok (.getfield 13, 3) := by decide +kernel
theorem dX7_row_51 : decode cX7_row 51 = .ok (.iload_n 1, 1) := by decide +kernel
theorem dX7_row_52 : decode cX7_row 52 = .ok (.iload_n 3, 1) := by decide +kernel
theorem dX7_row_53 : decode cX7_row 53 = .ok (.iastore, 1) := by decide +kernel
theorem dX7_row_54 : decode cX7_row 54 = .ok (.iconst 0, 1) := by decide +kernel
theorem dX7_row_55 : decode cX7_row 55 = .ok (.istore 4, 2) := by decide +kernel
theorem dX7_row_57 : decode cX7_row 57 = .ok (.iload 4, 2) := by decide +kernel
theorem dX7_row_59 : decode cX7_row 59 = .ok (.iload_n 3, 1) := by decide +kernel
theorem dX7_row_60 : decode cX7_row 60 = .ok (.if_icmp .ge 22, 3) := by decide +kernel
theorem dX7_row_63 : decode cX7_row 63 = .ok (.aload_n 0, 1) := by decide +kernel
theorem dX7_row_64 : decode cX7_row 64 = .ok (.getfield 16, 3) := by decide +kernel
theorem dX7_row_67 : decode cX7_row 67 = .ok (.bipush 60, 2) := by decide +kernel
theorem dX7_row_69 : decode cX7_row 69 = .ok (.iload_n 1, 1) := by decide +kernel
theorem dX7_row_70 : decode cX7_row 70 = .ok (.imul, 1) := by decide +kernel
theorem dX7_row_71 : decode cX7_row 71 = .ok (.iload 4, 2) := by decide +kernel
theorem dX7_row_73 : decode cX7_row 73 = .ok (.iadd, 1) := by decide +kernel
theorem dX7_row_74 : decode cX7_row 74 = .ok (.lconst 0, 1) := by decide +kernel
theorem dX7_row_75 : decode cX7_row 75 = .ok (.lastore, 1) := by decide +kernel
theorem dX7_row_76 : decode cX7_row 76 = .ok (.iinc 4 1, 3) := by decide +kernel
theorem dX7_row_79 : decode cX7_row 79 = .ok (.goto (-22), 3) := by decide +kernel
theorem dX7_row_82 : decode cX7_row 82 = .ok (.iconst 0, 1) := by decide +kernel
theorem dX7_row_83 : decode cX7_row 83 = .ok (.ireturn, 1) := by decide +kernel
def wz_X7_row : List Cond := .code yX7_row cX7_row 5 (some .int) :: ([Cond.fieldLink RX7 80 "HedgeMazeModel" "thrown" "I", Cond.constantLong RX7 83 (3), Cond.fieldLink RX7 7 "HedgeMazeModel" "width" "[I", Cond.fieldLink RX7 13 "HedgeMazeModel" "many" "[I", Cond.fieldLink RX7 16 "HedgeMazeModel" "cells" "[J", Cond.methodLink RX7 89 yX7_isSlot, Cond.static yX7_isSlot, Cond.initialized RX7, Cond.code yX7_isSlot cX7_isSlot 1 (some .boolean), Cond.methodLink RX7 85 yX7_in, Cond.static yX7_in, Cond.code yX7_in cX7_in 6 (some .boolean)] ++ wsX70)
theorem wd_X7_row_0 : Cond.fieldLink RX7 80 "HedgeMazeModel" "thrown" "I" ∈ wz_X7_row := List.mem_of_getElem? (i := 1) rfl
theorem wd_X7_row_1 : Cond.constantLong RX7 83 (3) ∈ wz_X7_row := List.mem_of_getElem? (i := 2) rfl
theorem wd_X7_row_2 : Cond.fieldLink RX7 7 "HedgeMazeModel" "width" "[I" ∈ wz_X7_row := List.mem_of_getElem? (i := 3) rfl
theorem wd_X7_row_3 : Cond.fieldLink RX7 13 "HedgeMazeModel" "many" "[I" ∈ wz_X7_row := List.mem_of_getElem? (i := 4) rfl
theorem wd_X7_row_4 : Cond.fieldLink RX7 16 "HedgeMazeModel" "cells" "[J" ∈ wz_X7_row := List.mem_of_getElem? (i := 5) rfl
theorem in_X7_row_X7 : ∀ w ∈ wsX70, w ∈ wz_X7_row := fun _ h => List.mem_cons_of_mem _ (List.mem_append_right _ h)
set_option maxRecDepth 20000 in
theorem g_X7_row_X7_isSlot : GoodIn wz_X7_row (va_wsS RX7 89 yX7_isSlot wz_X7_isSlot) := goodIn_r _ [6, 7, 8, 9, 2, 10, 11, 8, 12] rfl (by decide +kernel)
set_option maxRecDepth 20000 in
theorem g_X7_row_X7_in : GoodIn wz_X7_row (va_wsS RX7 85 yX7_in wz_X7_in) := goodIn_r _ [10, 11, 8, 12] rfl (by decide +kernel)
set_option maxHeartbeats 4000000 in
set_option maxRecDepth 100000 in
theorem c_X7_row (l : Launch) (dC : Nat → ClassId) (dI : Nat → Nat → Nat) (sz : Nat) (h0 : Nat) (m_width : Nat) (m_many : Nat) (m_cells : Nat) (m_moved : Nat) (m_tape : Nat) (m_lines : Nat) (m_has : Nat) (m_state : Nat) (m_gate : Nat) (m_guest : Nat) (m_gone : Nat) (m_isKept : Nat) (m_first : Nat) (m_second : Nat) (m_far : Nat) (m_wished : Nat) (m_wasState : Nat) (m_isHere : Nat) (m_round : Nat) (m_bestRound : Nat) (m_taken : Nat) (k_width : ClassId) (k_many : ClassId) (k_cells : ClassId) (fw : Nat → Int32) (fc : Nat → Int64) (p0 : Int32) (p1 : Int32) (p2 : Int32)  : Met l yX7_row wz_X7_row ({ frames := 2, cells := 0, slots := 0, locals := 45 }) (va_Pc [.ref h0, .int p0, .int p1, .int p2] (fun U => U.heap.size = sz ∧ va_P (dC, dI) vwCl [(h0, .inr (7, [.int 0, .ref m_width, .ref m_many, .ref m_cells, .ref m_moved, .ref m_tape, .int 0, .int 0, .int 0, .int 0, .int 0, .long 0, .int 0, .int 0, .int 0, .int (-1), .ref m_lines, .ref m_has, .ref m_state, .ref m_gate, .ref m_guest, .ref m_gone, .int 0, .ref m_isKept, .ref m_first, .ref m_second, .int 0, .ref m_far, .ref m_wished, .ref m_wasState, .ref m_isHere, .ref m_round, .ref m_bestRound, .int 0, .int 0, .long 0, .long 0, .ref m_taken, .int 0])), (m_width, .inl (k_width, 4, .inl fw)), (m_many, .inl (k_many, 4, .inl (fun _ => 0))), (m_cells, .inl (k_cells, 240, .inr (.inl fc)))] U.heap ∧ va_K (dC, dI) vwCl [(k_width, .int), (k_many, .int), (k_cells, .long)] U ∧ va_D (fun _ => True) [(h0, .inr (7, [.int 0, .ref m_width, .ref m_many, .ref m_cells, .ref m_moved, .ref m_tape, .int 0, .int 0, .int 0, .int 0, .int 0, .long 0, .int 0, .int 0, .int 0, .int (-1), .ref m_lines, .ref m_has, .ref m_state, .ref m_gate, .ref m_guest, .ref m_gone, .int 0, .ref m_isKept, .ref m_first, .ref m_second, .int 0, .ref m_far, .ref m_wished, .ref m_wasState, .ref m_isHere, .ref m_round, .ref m_bestRound, .int 0, .int 0, .long 0, .long 0, .ref m_taken, .int 0])), (m_width, .inl (k_width, 4, .inl fw)), (m_many, .inl (k_many, 4, .inl (fun _ => 0))), (m_cells, .inl (k_cells, 240, .inr (.inl fc)))])) (va_Qi (fun (r : Int32) (u : Unit) => r = if (0 ≤ p0.toInt ∧ p0.toInt ≤ 3) ∧ (0 ≤ p1.toInt ∧ p1.toInt ≤ 3) ∧ p2.toInt ≤ 60 then (if p2.toInt < 0 then -3 else 0) else -2) (fun (_ : Unit) (_ : State) => True) (va_A [(h0, .inr (7, [.int 0, .ref m_width, .ref m_many, .ref m_cells, .ref m_moved, .ref m_tape, .int 0, .int 0, .int 0, .int 0, .int 0, .long 0, .int 0, .int 0, .int 0, .int (-1), .ref m_lines, .ref m_has, .ref m_state, .ref m_gate, .ref m_guest, .ref m_gone, .int 0, .ref m_isKept, .ref m_first, .ref m_second, .int 0, .ref m_far, .ref m_wished, .ref m_wasState, .ref m_isHere, .ref m_round, .ref m_bestRound, .int 0, .int 0, .long 0, .long 0, .ref m_taken, .int 0])), (m_width, .inl (k_width, 4, .inl fw)), (m_many, .inl (k_many, 4, .inl (fun _ => 0))), (m_cells, .inl (k_cells, 240, .inr (.inl fc)))] sz)) 0 0 (va_A [(h0, .inr (7, [.int 0, .ref m_width, .ref m_many, .ref m_cells, .ref m_moved, .ref m_tape, .int 0, .int 0, .int 0, .int 0, .int 0, .long 0, .int 0, .int 0, .int 0, .int (-1), .ref m_lines, .ref m_has, .ref m_state, .ref m_gate, .ref m_guest, .ref m_gone, .int 0, .ref m_isKept, .ref m_first, .ref m_second, .int 0, .ref m_far, .ref m_wished, .ref m_wasState, .ref m_isHere, .ref m_round, .ref m_bestRound, .int 0, .int 0, .long 0, .long 0, .ref m_taken, .int 0])), (m_width, .inl (k_width, 4, .inl fw)), (m_many, .inl (k_many, 4, .inl (fun _ => 0))), (m_cells, .inl (k_cells, 240, .inr (.inl fc)))] sz) := by
  refine Met.ofW (cc := cX7_row) (maxL := 5) (ret := (some .int)) (by decide) rfl ?_
  intro p e s m args below meth c s₁ B hml hv
  obtain ⟨rfl, hsz, hP, hK, hD0⟩ := hv
  have hx := B.exec
  have hb := B.bytes
  have hr := B.returns
  have hts := atoms_spec (ws := wz_X7_row) B.pre
  have hown : s.vm.findClass RX7 = some m.cls := findClass_of_methodNamed B.named
  have hlocks := B.notSynchronized
  subst hsz
  have hD := hD0.self (sz := s.heap.size)
  generalize hAe : va_A [(h0, .inr (7, [.int 0, .ref m_width, .ref m_many, .ref m_cells, .ref m_moved, .ref m_tape, .int 0, .int 0, .int 0, .int 0, .int 0, .long 0, .int 0, .int 0, .int 0, .int (-1), .ref m_lines, .ref m_has, .ref m_state, .ref m_gate, .ref m_guest, .ref m_gone, .int 0, .ref m_isKept, .ref m_first, .ref m_second, .int 0, .ref m_far, .ref m_wished, .ref m_wasState, .ref m_isHere, .ref m_round, .ref m_bestRound, .int 0, .int 0, .long 0, .long 0, .ref m_taken, .int 0])), (m_width, .inl (k_width, 4, .inl fw)), (m_many, .inl (k_many, 4, .inl (fun _ => 0))), (m_cells, .inl (k_cells, 240, .inr (.inl fc)))] s.heap.size = A at hD ⊢
  have hA : ∀ q : Nat, s.heap.size ≤ q → A q := fun q h => by rw [← hAe]; exact Or.inr h
  have hS : va_S A s.heap s.heap [] := va_S.rf
  have hP : va_P (dC, dI) vwCl [(h0, .inr (7, [.int 0, .ref m_width, .ref m_many, .ref m_cells, .ref m_moved, .ref m_tape, .int 0, .int 0, .int 0, .int 0, .int 0, .long 0, .int 0, .int 0, .int 0, .int (-1), .ref m_lines, .ref m_has, .ref m_state, .ref m_gate, .ref m_guest, .ref m_gone, .int 0, .ref m_isKept, .ref m_first, .ref m_second, .int 0, .ref m_far, .ref m_wished, .ref m_wasState, .ref m_isHere, .ref m_round, .ref m_bestRound, .int 0, .int 0, .long 0, .long 0, .ref m_taken, .int 0])), (m_width, .inl (k_width, 4, .inl fw)), (m_many, .inl (k_many, 4, .inl (fun _ => 0))), (m_cells, .inl (k_cells, 240, .inr (.inl fc)))] s.heap := hP
  have hl := lv_entry ([.ref h0, .int p0, .int p1, .int p2]) (n := 5) (Nat.le_of_ble_eq_true rfl)
  rw [lg_entry_eq]
  generalize (lg_sl ([.ref h0, .int p0, .int p1, .int p2]) ++ List.replicate (5 - (lg_sl ([.ref h0, .int p0, .int p1, .int p2])).length) Slot.unset).toArray = ls at hl ⊢
  have hl : lv_has ls 5 [(0, .ref h0), (1, .int p0), (2, .int p1), (3, .int p2)] := hl
  refine lv_aload_n hx hb dX7_row_0 rfl (lv_at hl 0 rfl) ?_
  refine lv_iconst (v := 0) hx hb dX7_row_1 (by decide) ?_
  refine va_put (D := (dC, dI)) (ci := 7) (v := .int 0) (ty := .int) (C := RX7) (T := TX7) (N := 39) hx hb hts in_X7_row_X7 tyX7 tyX7_ok nmX7 hown hK hP hD hS 0 rfl rfl 0 (by decide) (hts _ wd_X7_row_0) (fun _ h9 => h9) rfl (by decide +kernel) rfl rfl (Nat.le_of_ble_eq_true rfl) dX7_row_2 (fun H locs hP hD hS => ?_)
  have hP : va_P (dC, dI) vwCl [(h0, .inr (7, [.int 0, .ref m_width, .ref m_many, .ref m_cells, .ref m_moved, .ref m_tape, .int 0, .int 0, .int 0, .int 0, .int 0, .long 0, .int 0, .int 0, .int 0, .int (-1), .ref m_lines, .ref m_has, .ref m_state, .ref m_gate, .ref m_guest, .ref m_gone, .int 0, .ref m_isKept, .ref m_first, .ref m_second, .int 0, .ref m_far, .ref m_wished, .ref m_wasState, .ref m_isHere, .ref m_round, .ref m_bestRound, .int 0, .int 0, .long 0, .long 0, .ref m_taken, .int 0])), (m_width, .inl (k_width, 4, .inl fw)), (m_many, .inl (k_many, 4, .inl (fun _ => 0))), (m_cells, .inl (k_cells, 240, .inr (.inl fc)))] H := hP
  have hD : va_D A [(h0, .inr (7, [.int 0, .ref m_width, .ref m_many, .ref m_cells, .ref m_moved, .ref m_tape, .int 0, .int 0, .int 0, .int 0, .int 0, .long 0, .int 0, .int 0, .int 0, .int (-1), .ref m_lines, .ref m_has, .ref m_state, .ref m_gate, .ref m_guest, .ref m_gone, .int 0, .ref m_isKept, .ref m_first, .ref m_second, .int 0, .ref m_far, .ref m_wished, .ref m_wasState, .ref m_isHere, .ref m_round, .ref m_bestRound, .int 0, .int 0, .long 0, .long 0, .ref m_taken, .int 0])), (m_width, .inl (k_width, 4, .inl fw)), (m_many, .inl (k_many, 4, .inl (fun _ => 0))), (m_cells, .inl (k_cells, 240, .inr (.inl fc)))] := hD
  refine lv_iload_n hx hb dX7_row_5 rfl (lv_at hl 1 rfl) ?_
  have hPc := hP.sub (ws' := []) [] rfl
  have hDc := hD.sub (ws' := []) [] (by decide) rfl
  have hKc := hK.sub (tys' := []) [] rfl
  have hFc := va_free (wc := []) hD hS hA [] rfl
  refine va_calli (va_runS (As := [.int p0]) (rest := []) ⟨hx, hb, hml, hown, hts⟩ (c_X7_isSlot l dC dI H.size p0 ) (va_cwS 1 hts g_X7_row_X7_isSlot rfl rfl rfl (by decide +kernel) ⟨Nat.le_of_ble_eq_true rfl, Nat.le_of_ble_eq_true rfl⟩) ⟨fun a U g mk q => by obtain ⟨q0, q1, qP, qK, qD⟩ := q; exact ⟨q0, q1, qP, va_K.moved (u := U) (U := U.calling g mk a) (Vm.Alike.refl U.vm) qK, qD⟩, fun U hU hW => ⟨rfl, by rw [hU], by rw [hU]; exact hPc, va_K.moved hW.alike hKc, hDc.weaken (fun _ _ _ _ => trivial)⟩⟩ rfl rfl hl.1 rfl (lv_room (Nat.le_of_ble_eq_true rfl)) dX7_row_6 ⟨Nat.le_of_ble_eq_true rfl, Nat.le_of_ble_eq_true rfl⟩) hS (fun q _ h => hFc q h) hFc (fun r_1 u t H1 locs ht hvm hw_2 hB hz1 hk1 hS => ?_)
  have hP1 : va_P (dC, dI) vwCl [] H1 := i_nilP
  have hD1 : va_D (va_A [] H.size) [] := i_nilD
  try dsimp only at hw_2
  obtain ⟨hP, hD⟩ := va_join (wr := [(h0, .inr (7, [.int 0, .ref m_width, .ref m_many, .ref m_cells, .ref m_moved, .ref m_tape, .int 0, .int 0, .int 0, .int 0, .int 0, .long 0, .int 0, .int 0, .int 0, .int (-1), .ref m_lines, .ref m_has, .ref m_state, .ref m_gate, .ref m_guest, .ref m_gone, .int 0, .ref m_isKept, .ref m_first, .ref m_second, .int 0, .ref m_far, .ref m_wished, .ref m_wasState, .ref m_isHere, .ref m_round, .ref m_bestRound, .int 0, .int 0, .long 0, .long 0, .ref m_taken, .int 0])), (m_width, .inl (k_width, 4, .inl fw)), (m_many, .inl (k_many, 4, .inl (fun _ => 0))), (m_cells, .inl (k_cells, 240, .inr (.inl fc)))]) (w1 := []) hP hD [] [0, 1, 2, 3] rfl rfl (by decide) (by decide) hk1 hFc hP1 hD1
  generalize H1 = H at hP hS ⊢
  have hP : va_P (dC, dI) vwCl [(h0, .inr (7, [.int 0, .ref m_width, .ref m_many, .ref m_cells, .ref m_moved, .ref m_tape, .int 0, .int 0, .int 0, .int 0, .int 0, .long 0, .int 0, .int 0, .int 0, .int (-1), .ref m_lines, .ref m_has, .ref m_state, .ref m_gate, .ref m_guest, .ref m_gone, .int 0, .ref m_isKept, .ref m_first, .ref m_second, .int 0, .ref m_far, .ref m_wished, .ref m_wasState, .ref m_isHere, .ref m_round, .ref m_bestRound, .int 0, .int 0, .long 0, .long 0, .ref m_taken, .int 0])), (m_width, .inl (k_width, 4, .inl fw)), (m_many, .inl (k_many, 4, .inl (fun _ => 0))), (m_cells, .inl (k_cells, 240, .inr (.inl fc)))] H := hP
  have hD : va_D A [(h0, .inr (7, [.int 0, .ref m_width, .ref m_many, .ref m_cells, .ref m_moved, .ref m_tape, .int 0, .int 0, .int 0, .int 0, .int 0, .long 0, .int 0, .int 0, .int 0, .int (-1), .ref m_lines, .ref m_has, .ref m_state, .ref m_gate, .ref m_guest, .ref m_gone, .int 0, .ref m_isKept, .ref m_first, .ref m_second, .int 0, .ref m_far, .ref m_wished, .ref m_wasState, .ref m_isHere, .ref m_round, .ref m_bestRound, .int 0, .int 0, .long 0, .long 0, .ref m_taken, .int 0])), (m_width, .inl (k_width, 4, .inl fw)), (m_many, .inl (k_many, 4, .inl (fun _ => 0))), (m_cells, .inl (k_cells, 240, .inr (.inl fc)))] := hD
  rcases i_bool hw_2 with ⟨r_19, hC⟩ | ⟨r_19, hC⟩
  · obtain rfl : r_1 = 1 := r_19
    have hC_3 := hC
    refine lv_if_eq (tgt := 30) hx hb dX7_row_9 (by decide) (fun h => absurd h (by decide)) (fun _ => ?_)
    refine lv_iload_n hx hb dX7_row_12 rfl (lv_at hl 2 rfl) ?_
    refine lv_i2l (v := p1.toInt64) hx hb dX7_row_13 rfl ?_
    refine lv_lconst (v := 0) hx hb dX7_row_14 (by decide) ?_
    refine lv_ldc2 hx hb hown (hts _ wd_X7_row_1) dX7_row_15 ?_
    have hPc := hP.sub (ws' := []) [] rfl
    have hDc := hD.sub (ws' := []) [] (by decide) rfl
    have hKc := hK.sub (tys' := []) [] rfl
    have hFc := va_free (wc := []) hD hS hA [] rfl
    refine va_calli (va_runS (As := [.long p1.toInt64, .long 0, .long 3]) (rest := []) ⟨hx, hb, hml, hown, hts⟩ (c_X7_in l dC dI H.size p1.toInt64 ((0 : Int64)) ((3 : Int64)) p1.toInt ((0 : Int)) ((3 : Int)) ((i_wide rfl)) ((by decide)) ((by decide))) (va_cwS 3 hts g_X7_row_X7_in rfl rfl rfl (by decide +kernel) ⟨Nat.le_of_ble_eq_true rfl, Nat.le_of_ble_eq_true rfl⟩) ⟨fun a U g mk q => by obtain ⟨q0, q1, qP, qK, qD⟩ := q; exact ⟨q0, q1, qP, va_K.moved (u := U) (U := U.calling g mk a) (Vm.Alike.refl U.vm) qK, qD⟩, fun U hU hW => ⟨rfl, by rw [hU], by rw [hU]; exact hPc, va_K.moved hW.alike hKc, hDc.weaken (fun _ _ _ _ => trivial)⟩⟩ rfl rfl hl.1 rfl (lv_room (Nat.le_of_ble_eq_true rfl)) dX7_row_18 ⟨Nat.le_of_ble_eq_true rfl, Nat.le_of_ble_eq_true rfl⟩) hS (fun q _ h => hFc q h) hFc (fun r_5 u t H1 locs ht hvm hw_6 hB hz1 hk1 hS => ?_)
    have hP1 : va_P (dC, dI) vwCl [] H1 := i_nilP
    have hD1 : va_D (va_A [] H.size) [] := i_nilD
    try dsimp only at hw_6
    obtain ⟨hP, hD⟩ := va_join (wr := [(h0, .inr (7, [.int 0, .ref m_width, .ref m_many, .ref m_cells, .ref m_moved, .ref m_tape, .int 0, .int 0, .int 0, .int 0, .int 0, .long 0, .int 0, .int 0, .int 0, .int (-1), .ref m_lines, .ref m_has, .ref m_state, .ref m_gate, .ref m_guest, .ref m_gone, .int 0, .ref m_isKept, .ref m_first, .ref m_second, .int 0, .ref m_far, .ref m_wished, .ref m_wasState, .ref m_isHere, .ref m_round, .ref m_bestRound, .int 0, .int 0, .long 0, .long 0, .ref m_taken, .int 0])), (m_width, .inl (k_width, 4, .inl fw)), (m_many, .inl (k_many, 4, .inl (fun _ => 0))), (m_cells, .inl (k_cells, 240, .inr (.inl fc)))]) (w1 := []) hP hD [] [0, 1, 2, 3] rfl rfl (by decide) (by decide) hk1 hFc hP1 hD1
    generalize H1 = H at hP hS ⊢
    have hP : va_P (dC, dI) vwCl [(h0, .inr (7, [.int 0, .ref m_width, .ref m_many, .ref m_cells, .ref m_moved, .ref m_tape, .int 0, .int 0, .int 0, .int 0, .int 0, .long 0, .int 0, .int 0, .int 0, .int (-1), .ref m_lines, .ref m_has, .ref m_state, .ref m_gate, .ref m_guest, .ref m_gone, .int 0, .ref m_isKept, .ref m_first, .ref m_second, .int 0, .ref m_far, .ref m_wished, .ref m_wasState, .ref m_isHere, .ref m_round, .ref m_bestRound, .int 0, .int 0, .long 0, .long 0, .ref m_taken, .int 0])), (m_width, .inl (k_width, 4, .inl fw)), (m_many, .inl (k_many, 4, .inl (fun _ => 0))), (m_cells, .inl (k_cells, 240, .inr (.inl fc)))] H := hP
    have hD : va_D A [(h0, .inr (7, [.int 0, .ref m_width, .ref m_many, .ref m_cells, .ref m_moved, .ref m_tape, .int 0, .int 0, .int 0, .int 0, .int 0, .long 0, .int 0, .int 0, .int 0, .int (-1), .ref m_lines, .ref m_has, .ref m_state, .ref m_gate, .ref m_guest, .ref m_gone, .int 0, .ref m_isKept, .ref m_first, .ref m_second, .int 0, .ref m_far, .ref m_wished, .ref m_wasState, .ref m_isHere, .ref m_round, .ref m_bestRound, .int 0, .int 0, .long 0, .long 0, .ref m_taken, .int 0])), (m_width, .inl (k_width, 4, .inl fw)), (m_many, .inl (k_many, 4, .inl (fun _ => 0))), (m_cells, .inl (k_cells, 240, .inr (.inl fc)))] := hD
    rcases i_bool hw_6 with ⟨r_59, hC⟩ | ⟨r_59, hC⟩
    · obtain rfl : r_5 = 1 := r_59
      have hC_7 := hC
      refine lv_if_eq (tgt := 30) hx hb dX7_row_21 (by decide) (fun h => absurd h (by decide)) (fun _ => ?_)
      refine lv_iload_n hx hb dX7_row_24 rfl (lv_at hl 3 rfl) ?_
      refine lv_bipush (v := 60) hx hb dX7_row_25 (by decide) ?_
      refine lv_icmp_le (tgt := 33) hx hb dX7_row_27 (by decide) (fun c_9 => ?_) (fun c_9 => ?_)
      · have c_9 : p2.toInt ≤ 60 := i_le (a := p2) (b := 60) rfl (by decide) c_9
        refine lv_iload_n hx hb dX7_row_33 rfl (lv_at hl 3 rfl) ?_
        refine lv_if_ge (tgt := 40) hx hb dX7_row_34 (by decide) (fun c_10 => ?_) (fun c_10 => ?_)
        · have c_10 : 0 ≤ p2.toInt := i_le (a := 0) (b := p2) (by decide) rfl c_10
          rcases (i_four (a := p0) (by omega) (by omega) : p0 = 0 ∨ p0 = 1 ∨ p0 = 2 ∨ p0 = 3) with rfl | rfl | rfl | rfl
          · refine lv_aload_n hx hb dX7_row_40 rfl (lv_at hl 0 rfl) ?_
            refine va_get (D := (dC, dI)) (ci := 7) (v := .ref m_width) (C := RX7) (T := TX7) (N := 39) hx hb hts in_X7_row_X7 hown hK hP 0 rfl rfl 1 (by decide) (hts _ wd_X7_row_2) (fun _ h9 => h9) rfl dX7_row_41 ?_
            refine lv_iload_n hx hb dX7_row_44 rfl (lv_at hl 1 rfl) ?_
            refine lv_iload_n hx hb dX7_row_45 rfl (lv_at hl 2 rfl) ?_
            refine va_iast hx hb hK hP hD hS 1 0 rfl rfl (vp_in_iff.mpr ⟨by decide, by decide⟩) dX7_row_46 (fun H locs hP hD hS => ?_)
            have hP : va_P (dC, dI) vwCl [(h0, .inr (7, [.int 0, .ref m_width, .ref m_many, .ref m_cells, .ref m_moved, .ref m_tape, .int 0, .int 0, .int 0, .int 0, .int 0, .long 0, .int 0, .int 0, .int 0, .int (-1), .ref m_lines, .ref m_has, .ref m_state, .ref m_gate, .ref m_guest, .ref m_gone, .int 0, .ref m_isKept, .ref m_first, .ref m_second, .int 0, .ref m_far, .ref m_wished, .ref m_wasState, .ref m_isHere, .ref m_round, .ref m_bestRound, .int 0, .int 0, .long 0, .long 0, .ref m_taken, .int 0])), (m_width, .inl (k_width, 4, .inl (upd fw ((0 : Int32)).toNatClampNeg p1))), (m_many, .inl (k_many, 4, .inl (fun _ => 0))), (m_cells, .inl (k_cells, 240, .inr (.inl fc)))] H := hP
            have hD : va_D A [(h0, .inr (7, [.int 0, .ref m_width, .ref m_many, .ref m_cells, .ref m_moved, .ref m_tape, .int 0, .int 0, .int 0, .int 0, .int 0, .long 0, .int 0, .int 0, .int 0, .int (-1), .ref m_lines, .ref m_has, .ref m_state, .ref m_gate, .ref m_guest, .ref m_gone, .int 0, .ref m_isKept, .ref m_first, .ref m_second, .int 0, .ref m_far, .ref m_wished, .ref m_wasState, .ref m_isHere, .ref m_round, .ref m_bestRound, .int 0, .int 0, .long 0, .long 0, .ref m_taken, .int 0])), (m_width, .inl (k_width, 4, .inl (upd fw ((0 : Int32)).toNatClampNeg p1))), (m_many, .inl (k_many, 4, .inl (fun _ => 0))), (m_cells, .inl (k_cells, 240, .inr (.inl fc)))] := hD
            obtain ⟨f_11, ef_11⟩ : ∃ g, g = upd fw ((0 : Int32)).toNatClampNeg p1 := ⟨_, rfl⟩
            rw [← ef_11] at hP hD
            refine lv_aload_n hx hb dX7_row_47 rfl (lv_at hl 0 rfl) ?_
            refine va_get (D := (dC, dI)) (ci := 7) (v := .ref m_many) (C := RX7) (T := TX7) (N := 39) hx hb hts in_X7_row_X7 hown hK hP 0 rfl rfl 2 (by decide) (hts _ wd_X7_row_3) (fun _ h9 => h9) rfl dX7_row_48 ?_
            refine lv_iload_n hx hb dX7_row_51 rfl (lv_at hl 1 rfl) ?_
            refine lv_iload_n hx hb dX7_row_52 rfl (lv_at hl 3 rfl) ?_
            refine va_iast hx hb hK hP hD hS 2 1 rfl rfl (vp_in_iff.mpr ⟨by decide, by decide⟩) dX7_row_53 (fun H locs hP hD hS => ?_)
            have hP : va_P (dC, dI) vwCl [(h0, .inr (7, [.int 0, .ref m_width, .ref m_many, .ref m_cells, .ref m_moved, .ref m_tape, .int 0, .int 0, .int 0, .int 0, .int 0, .long 0, .int 0, .int 0, .int 0, .int (-1), .ref m_lines, .ref m_has, .ref m_state, .ref m_gate, .ref m_guest, .ref m_gone, .int 0, .ref m_isKept, .ref m_first, .ref m_second, .int 0, .ref m_far, .ref m_wished, .ref m_wasState, .ref m_isHere, .ref m_round, .ref m_bestRound, .int 0, .int 0, .long 0, .long 0, .ref m_taken, .int 0])), (m_width, .inl (k_width, 4, .inl f_11)), (m_many, .inl (k_many, 4, .inl (upd (fun _ => 0) ((0 : Int32)).toNatClampNeg p2))), (m_cells, .inl (k_cells, 240, .inr (.inl fc)))] H := hP
            have hD : va_D A [(h0, .inr (7, [.int 0, .ref m_width, .ref m_many, .ref m_cells, .ref m_moved, .ref m_tape, .int 0, .int 0, .int 0, .int 0, .int 0, .long 0, .int 0, .int 0, .int 0, .int (-1), .ref m_lines, .ref m_has, .ref m_state, .ref m_gate, .ref m_guest, .ref m_gone, .int 0, .ref m_isKept, .ref m_first, .ref m_second, .int 0, .ref m_far, .ref m_wished, .ref m_wasState, .ref m_isHere, .ref m_round, .ref m_bestRound, .int 0, .int 0, .long 0, .long 0, .ref m_taken, .int 0])), (m_width, .inl (k_width, 4, .inl f_11)), (m_many, .inl (k_many, 4, .inl (upd (fun _ => 0) ((0 : Int32)).toNatClampNeg p2))), (m_cells, .inl (k_cells, 240, .inr (.inl fc)))] := hD
            obtain ⟨f_12, ef_12⟩ : ∃ g, g = upd (fun _ => 0) ((0 : Int32)).toNatClampNeg p2 := ⟨_, rfl⟩
            rw [← ef_12] at hP hD
            refine lv_iconst (v := 0) hx hb dX7_row_54 (by decide) ?_
            refine lv_istore (lv' := [(4, .int 0), (0, .ref h0), (1, .int 0), (2, .int p1), (3, .int p2)]) hx hb dX7_row_55 hl (by decide) rfl (fun ls hl => ?_)
            refine lp_W (I := fun (a : Nat × (Nat → Int64)) H locs ls => ((a.1 : Int) ≤ p2.toInt) ∧ va_P (dC, dI) vwCl [(h0, .inr (7, [.int 0, .ref m_width, .ref m_many, .ref m_cells, .ref m_moved, .ref m_tape, .int 0, .int 0, .int 0, .int 0, .int 0, .long 0, .int 0, .int 0, .int 0, .int (-1), .ref m_lines, .ref m_has, .ref m_state, .ref m_gate, .ref m_guest, .ref m_gone, .int 0, .ref m_isKept, .ref m_first, .ref m_second, .int 0, .ref m_far, .ref m_wished, .ref m_wasState, .ref m_isHere, .ref m_round, .ref m_bestRound, .int 0, .int 0, .long 0, .long 0, .ref m_taken, .int 0])), (m_width, .inl (k_width, 4, .inl f_11)), (m_many, .inl (k_many, 4, .inl f_12)), (m_cells, .inl (k_cells, 240, .inr (.inl a.2)))] H ∧ va_D A [(h0, .inr (7, [.int 0, .ref m_width, .ref m_many, .ref m_cells, .ref m_moved, .ref m_tape, .int 0, .int 0, .int 0, .int 0, .int 0, .long 0, .int 0, .int 0, .int 0, .int (-1), .ref m_lines, .ref m_has, .ref m_state, .ref m_gate, .ref m_guest, .ref m_gone, .int 0, .ref m_isKept, .ref m_first, .ref m_second, .int 0, .ref m_far, .ref m_wished, .ref m_wasState, .ref m_isHere, .ref m_round, .ref m_bestRound, .int 0, .int 0, .long 0, .long 0, .ref m_taken, .int 0])), (m_width, .inl (k_width, 4, .inl f_11)), (m_many, .inl (k_many, 4, .inl f_12)), (m_cells, .inl (k_cells, 240, .inr (.inl a.2)))] ∧ va_S A s.heap H locs ∧ lv_has ls 5 [(4, .int (nI a.1)), (0, .ref h0), (1, .int 0), (2, .int p1), (3, .int p2)]) (μ := fun a => (p2.toInt - (a.1 : Int)).toNat) ?_ (0, fc) ⟨by omega, hP.sub [0, 1, 2, 3] rfl, hD.sub [0, 1, 2, 3] (by decide) rfl, hS, lv_sub hl [0, 1, 2, 3, 4] rfl⟩
            intro a H locs ls hI ih
            obtain ⟨i, f3⟩ := a
            obtain ⟨hi, hP, hD, hS, hl⟩ := hI
            have hi : (i : Int) ≤ p2.toInt := hi
            have hP : va_P (dC, dI) vwCl [(h0, .inr (7, [.int 0, .ref m_width, .ref m_many, .ref m_cells, .ref m_moved, .ref m_tape, .int 0, .int 0, .int 0, .int 0, .int 0, .long 0, .int 0, .int 0, .int 0, .int (-1), .ref m_lines, .ref m_has, .ref m_state, .ref m_gate, .ref m_guest, .ref m_gone, .int 0, .ref m_isKept, .ref m_first, .ref m_second, .int 0, .ref m_far, .ref m_wished, .ref m_wasState, .ref m_isHere, .ref m_round, .ref m_bestRound, .int 0, .int 0, .long 0, .long 0, .ref m_taken, .int 0])), (m_width, .inl (k_width, 4, .inl f_11)), (m_many, .inl (k_many, 4, .inl f_12)), (m_cells, .inl (k_cells, 240, .inr (.inl f3)))] H := hP
            have hD : va_D A [(h0, .inr (7, [.int 0, .ref m_width, .ref m_many, .ref m_cells, .ref m_moved, .ref m_tape, .int 0, .int 0, .int 0, .int 0, .int 0, .long 0, .int 0, .int 0, .int 0, .int (-1), .ref m_lines, .ref m_has, .ref m_state, .ref m_gate, .ref m_guest, .ref m_gone, .int 0, .ref m_isKept, .ref m_first, .ref m_second, .int 0, .ref m_far, .ref m_wished, .ref m_wasState, .ref m_isHere, .ref m_round, .ref m_bestRound, .int 0, .int 0, .long 0, .long 0, .ref m_taken, .int 0])), (m_width, .inl (k_width, 4, .inl f_11)), (m_many, .inl (k_many, 4, .inl f_12)), (m_cells, .inl (k_cells, 240, .inr (.inl f3)))] := hD
            have hl : lv_has ls 5 [(4, .int (nI i)), (0, .ref h0), (1, .int 0), (2, .int p1), (3, .int p2)] := hl
            refine lv_iload hx hb dX7_row_57 (lv_at hl 0 rfl) ?_
            refine lv_iload_n hx hb dX7_row_59 rfl (lv_at hl 4 rfl) ?_
            refine lv_icmp_ge (tgt := 82) hx hb dX7_row_60 (by decide) (fun c_13 => ?_) (fun c_13 => ?_)
            · have c_13 : p2.toInt ≤ (i : Int) := i_le (a := p2) (b := nI i) rfl (nI_toInt (by omega)) c_13
              refine lv_iconst (v := 0) hx hb dX7_row_82 (by decide) ?_
              refine W.widen (k := 0) (n := 0) (by omega) (by omega) ?_
              exact W.iret (v := 0) hx hb hr (fun t ht hW => ⟨⟨0, (), rfl, (by first | rfl | ((repeat' split) <;> (first | rfl | (exfalso; omega)))), trivial⟩, hS.F ht⟩) hS.2.2 dX7_row_83
            · have c_13 : (i : Int) < p2.toInt := i_nle (a := p2) (b := nI i) rfl (nI_toInt (by omega)) c_13
              refine lv_aload_n hx hb dX7_row_63 rfl (lv_at hl 1 rfl) ?_
              refine va_get (D := (dC, dI)) (ci := 7) (v := .ref m_cells) (C := RX7) (T := TX7) (N := 39) hx hb hts in_X7_row_X7 hown hK hP 0 rfl rfl 3 (by decide) (hts _ wd_X7_row_4) (fun _ h9 => h9) rfl dX7_row_64 ?_
              refine lv_bipush (v := 60) hx hb dX7_row_67 (by decide) ?_
              refine lv_iload_n hx hb dX7_row_69 rfl (lv_at hl 2 rfl) ?_
              refine lv_imul hx hb dX7_row_70 ?_
              refine lv_topi (fun z_14 ez_14 => ?_)
              obtain rfl : z_14 = 0 := ez_14.trans (by decide)
              refine lv_iload hx hb dX7_row_71 (lv_at hl 0 rfl) ?_
              refine lv_iadd hx hb dX7_row_73 ?_
              refine lv_topi (fun z_15 ez_15 => ?_)
              obtain rfl : z_15 = nI (0 + i) := ez_15.trans (nI_add 0 i)
              refine lv_lconst (v := 0) hx hb dX7_row_74 (by decide) ?_
              refine va_last hx hb hK hP hD hS 3 2 rfl rfl (vp_in_nI (by omega) (by omega)) dX7_row_75 (fun H locs hP hD hS => ?_)
              have hP : va_P (dC, dI) vwCl [(h0, .inr (7, [.int 0, .ref m_width, .ref m_many, .ref m_cells, .ref m_moved, .ref m_tape, .int 0, .int 0, .int 0, .int 0, .int 0, .long 0, .int 0, .int 0, .int 0, .int (-1), .ref m_lines, .ref m_has, .ref m_state, .ref m_gate, .ref m_guest, .ref m_gone, .int 0, .ref m_isKept, .ref m_first, .ref m_second, .int 0, .ref m_far, .ref m_wished, .ref m_wasState, .ref m_isHere, .ref m_round, .ref m_bestRound, .int 0, .int 0, .long 0, .long 0, .ref m_taken, .int 0])), (m_width, .inl (k_width, 4, .inl f_11)), (m_many, .inl (k_many, 4, .inl f_12)), (m_cells, .inl (k_cells, 240, .inr (.inl (vp_updL f3 (nI (0 + i)).toNatClampNeg 0))))] H := hP
              have hD : va_D A [(h0, .inr (7, [.int 0, .ref m_width, .ref m_many, .ref m_cells, .ref m_moved, .ref m_tape, .int 0, .int 0, .int 0, .int 0, .int 0, .long 0, .int 0, .int 0, .int 0, .int (-1), .ref m_lines, .ref m_has, .ref m_state, .ref m_gate, .ref m_guest, .ref m_gone, .int 0, .ref m_isKept, .ref m_first, .ref m_second, .int 0, .ref m_far, .ref m_wished, .ref m_wasState, .ref m_isHere, .ref m_round, .ref m_bestRound, .int 0, .int 0, .long 0, .long 0, .ref m_taken, .int 0])), (m_width, .inl (k_width, 4, .inl f_11)), (m_many, .inl (k_many, 4, .inl f_12)), (m_cells, .inl (k_cells, 240, .inr (.inl (vp_updL f3 (nI (0 + i)).toNatClampNeg 0))))] := hD
              refine lv_iinc (v := nI (i + 1)) (lv' := [(4, .int (nI (i + 1))), (0, .ref h0), (1, .int 0), (2, .int p1), (3, .int p2)]) hx hb dX7_row_76 hl (k := 0) rfl (nI_1 i) (by decide) rfl (fun ls hl => ?_)
              refine lv_goto (tgt := 57) hx hb dX7_row_79 (by decide) ?_
              exact ih (i + 1, vp_updL f3 (nI (0 + i)).toNatClampNeg 0) _ _ _ ⟨by omega, hP.sub [0, 1, 2, 3] rfl, hD.sub [0, 1, 2, 3] (by decide) rfl, hS, lv_sub hl [0, 1, 2, 3, 4] rfl⟩ (by omega)
          · refine lv_aload_n hx hb dX7_row_40 rfl (lv_at hl 0 rfl) ?_
            refine va_get (D := (dC, dI)) (ci := 7) (v := .ref m_width) (C := RX7) (T := TX7) (N := 39) hx hb hts in_X7_row_X7 hown hK hP 0 rfl rfl 1 (by decide) (hts _ wd_X7_row_2) (fun _ h9 => h9) rfl dX7_row_41 ?_
            refine lv_iload_n hx hb dX7_row_44 rfl (lv_at hl 1 rfl) ?_
            refine lv_iload_n hx hb dX7_row_45 rfl (lv_at hl 2 rfl) ?_
            refine va_iast hx hb hK hP hD hS 1 0 rfl rfl (vp_in_iff.mpr ⟨by decide, by decide⟩) dX7_row_46 (fun H locs hP hD hS => ?_)
            have hP : va_P (dC, dI) vwCl [(h0, .inr (7, [.int 0, .ref m_width, .ref m_many, .ref m_cells, .ref m_moved, .ref m_tape, .int 0, .int 0, .int 0, .int 0, .int 0, .long 0, .int 0, .int 0, .int 0, .int (-1), .ref m_lines, .ref m_has, .ref m_state, .ref m_gate, .ref m_guest, .ref m_gone, .int 0, .ref m_isKept, .ref m_first, .ref m_second, .int 0, .ref m_far, .ref m_wished, .ref m_wasState, .ref m_isHere, .ref m_round, .ref m_bestRound, .int 0, .int 0, .long 0, .long 0, .ref m_taken, .int 0])), (m_width, .inl (k_width, 4, .inl (upd fw ((1 : Int32)).toNatClampNeg p1))), (m_many, .inl (k_many, 4, .inl (fun _ => 0))), (m_cells, .inl (k_cells, 240, .inr (.inl fc)))] H := hP
            have hD : va_D A [(h0, .inr (7, [.int 0, .ref m_width, .ref m_many, .ref m_cells, .ref m_moved, .ref m_tape, .int 0, .int 0, .int 0, .int 0, .int 0, .long 0, .int 0, .int 0, .int 0, .int (-1), .ref m_lines, .ref m_has, .ref m_state, .ref m_gate, .ref m_guest, .ref m_gone, .int 0, .ref m_isKept, .ref m_first, .ref m_second, .int 0, .ref m_far, .ref m_wished, .ref m_wasState, .ref m_isHere, .ref m_round, .ref m_bestRound, .int 0, .int 0, .long 0, .long 0, .ref m_taken, .int 0])), (m_width, .inl (k_width, 4, .inl (upd fw ((1 : Int32)).toNatClampNeg p1))), (m_many, .inl (k_many, 4, .inl (fun _ => 0))), (m_cells, .inl (k_cells, 240, .inr (.inl fc)))] := hD
            obtain ⟨f_16, ef_16⟩ : ∃ g, g = upd fw ((1 : Int32)).toNatClampNeg p1 := ⟨_, rfl⟩
            rw [← ef_16] at hP hD
            refine lv_aload_n hx hb dX7_row_47 rfl (lv_at hl 0 rfl) ?_
            refine va_get (D := (dC, dI)) (ci := 7) (v := .ref m_many) (C := RX7) (T := TX7) (N := 39) hx hb hts in_X7_row_X7 hown hK hP 0 rfl rfl 2 (by decide) (hts _ wd_X7_row_3) (fun _ h9 => h9) rfl dX7_row_48 ?_
            refine lv_iload_n hx hb dX7_row_51 rfl (lv_at hl 1 rfl) ?_
            refine lv_iload_n hx hb dX7_row_52 rfl (lv_at hl 3 rfl) ?_
            refine va_iast hx hb hK hP hD hS 2 1 rfl rfl (vp_in_iff.mpr ⟨by decide, by decide⟩) dX7_row_53 (fun H locs hP hD hS => ?_)
            have hP : va_P (dC, dI) vwCl [(h0, .inr (7, [.int 0, .ref m_width, .ref m_many, .ref m_cells, .ref m_moved, .ref m_tape, .int 0, .int 0, .int 0, .int 0, .int 0, .long 0, .int 0, .int 0, .int 0, .int (-1), .ref m_lines, .ref m_has, .ref m_state, .ref m_gate, .ref m_guest, .ref m_gone, .int 0, .ref m_isKept, .ref m_first, .ref m_second, .int 0, .ref m_far, .ref m_wished, .ref m_wasState, .ref m_isHere, .ref m_round, .ref m_bestRound, .int 0, .int 0, .long 0, .long 0, .ref m_taken, .int 0])), (m_width, .inl (k_width, 4, .inl f_16)), (m_many, .inl (k_many, 4, .inl (upd (fun _ => 0) ((1 : Int32)).toNatClampNeg p2))), (m_cells, .inl (k_cells, 240, .inr (.inl fc)))] H := hP
            have hD : va_D A [(h0, .inr (7, [.int 0, .ref m_width, .ref m_many, .ref m_cells, .ref m_moved, .ref m_tape, .int 0, .int 0, .int 0, .int 0, .int 0, .long 0, .int 0, .int 0, .int 0, .int (-1), .ref m_lines, .ref m_has, .ref m_state, .ref m_gate, .ref m_guest, .ref m_gone, .int 0, .ref m_isKept, .ref m_first, .ref m_second, .int 0, .ref m_far, .ref m_wished, .ref m_wasState, .ref m_isHere, .ref m_round, .ref m_bestRound, .int 0, .int 0, .long 0, .long 0, .ref m_taken, .int 0])), (m_width, .inl (k_width, 4, .inl f_16)), (m_many, .inl (k_many, 4, .inl (upd (fun _ => 0) ((1 : Int32)).toNatClampNeg p2))), (m_cells, .inl (k_cells, 240, .inr (.inl fc)))] := hD
            obtain ⟨f_17, ef_17⟩ : ∃ g, g = upd (fun _ => 0) ((1 : Int32)).toNatClampNeg p2 := ⟨_, rfl⟩
            rw [← ef_17] at hP hD
            refine lv_iconst (v := 0) hx hb dX7_row_54 (by decide) ?_
            refine lv_istore (lv' := [(4, .int 0), (0, .ref h0), (1, .int 1), (2, .int p1), (3, .int p2)]) hx hb dX7_row_55 hl (by decide) rfl (fun ls hl => ?_)
            refine lp_W (I := fun (a : Nat × (Nat → Int64)) H locs ls => ((a.1 : Int) ≤ p2.toInt) ∧ va_P (dC, dI) vwCl [(h0, .inr (7, [.int 0, .ref m_width, .ref m_many, .ref m_cells, .ref m_moved, .ref m_tape, .int 0, .int 0, .int 0, .int 0, .int 0, .long 0, .int 0, .int 0, .int 0, .int (-1), .ref m_lines, .ref m_has, .ref m_state, .ref m_gate, .ref m_guest, .ref m_gone, .int 0, .ref m_isKept, .ref m_first, .ref m_second, .int 0, .ref m_far, .ref m_wished, .ref m_wasState, .ref m_isHere, .ref m_round, .ref m_bestRound, .int 0, .int 0, .long 0, .long 0, .ref m_taken, .int 0])), (m_width, .inl (k_width, 4, .inl f_16)), (m_many, .inl (k_many, 4, .inl f_17)), (m_cells, .inl (k_cells, 240, .inr (.inl a.2)))] H ∧ va_D A [(h0, .inr (7, [.int 0, .ref m_width, .ref m_many, .ref m_cells, .ref m_moved, .ref m_tape, .int 0, .int 0, .int 0, .int 0, .int 0, .long 0, .int 0, .int 0, .int 0, .int (-1), .ref m_lines, .ref m_has, .ref m_state, .ref m_gate, .ref m_guest, .ref m_gone, .int 0, .ref m_isKept, .ref m_first, .ref m_second, .int 0, .ref m_far, .ref m_wished, .ref m_wasState, .ref m_isHere, .ref m_round, .ref m_bestRound, .int 0, .int 0, .long 0, .long 0, .ref m_taken, .int 0])), (m_width, .inl (k_width, 4, .inl f_16)), (m_many, .inl (k_many, 4, .inl f_17)), (m_cells, .inl (k_cells, 240, .inr (.inl a.2)))] ∧ va_S A s.heap H locs ∧ lv_has ls 5 [(4, .int (nI a.1)), (0, .ref h0), (1, .int 1), (2, .int p1), (3, .int p2)]) (μ := fun a => (p2.toInt - (a.1 : Int)).toNat) ?_ (0, fc) ⟨by omega, hP.sub [0, 1, 2, 3] rfl, hD.sub [0, 1, 2, 3] (by decide) rfl, hS, lv_sub hl [0, 1, 2, 3, 4] rfl⟩
            intro a H locs ls hI ih
            obtain ⟨i, f3⟩ := a
            obtain ⟨hi, hP, hD, hS, hl⟩ := hI
            have hi : (i : Int) ≤ p2.toInt := hi
            have hP : va_P (dC, dI) vwCl [(h0, .inr (7, [.int 0, .ref m_width, .ref m_many, .ref m_cells, .ref m_moved, .ref m_tape, .int 0, .int 0, .int 0, .int 0, .int 0, .long 0, .int 0, .int 0, .int 0, .int (-1), .ref m_lines, .ref m_has, .ref m_state, .ref m_gate, .ref m_guest, .ref m_gone, .int 0, .ref m_isKept, .ref m_first, .ref m_second, .int 0, .ref m_far, .ref m_wished, .ref m_wasState, .ref m_isHere, .ref m_round, .ref m_bestRound, .int 0, .int 0, .long 0, .long 0, .ref m_taken, .int 0])), (m_width, .inl (k_width, 4, .inl f_16)), (m_many, .inl (k_many, 4, .inl f_17)), (m_cells, .inl (k_cells, 240, .inr (.inl f3)))] H := hP
            have hD : va_D A [(h0, .inr (7, [.int 0, .ref m_width, .ref m_many, .ref m_cells, .ref m_moved, .ref m_tape, .int 0, .int 0, .int 0, .int 0, .int 0, .long 0, .int 0, .int 0, .int 0, .int (-1), .ref m_lines, .ref m_has, .ref m_state, .ref m_gate, .ref m_guest, .ref m_gone, .int 0, .ref m_isKept, .ref m_first, .ref m_second, .int 0, .ref m_far, .ref m_wished, .ref m_wasState, .ref m_isHere, .ref m_round, .ref m_bestRound, .int 0, .int 0, .long 0, .long 0, .ref m_taken, .int 0])), (m_width, .inl (k_width, 4, .inl f_16)), (m_many, .inl (k_many, 4, .inl f_17)), (m_cells, .inl (k_cells, 240, .inr (.inl f3)))] := hD
            have hl : lv_has ls 5 [(4, .int (nI i)), (0, .ref h0), (1, .int 1), (2, .int p1), (3, .int p2)] := hl
            refine lv_iload hx hb dX7_row_57 (lv_at hl 0 rfl) ?_
            refine lv_iload_n hx hb dX7_row_59 rfl (lv_at hl 4 rfl) ?_
            refine lv_icmp_ge (tgt := 82) hx hb dX7_row_60 (by decide) (fun c_18 => ?_) (fun c_18 => ?_)
            · have c_18 : p2.toInt ≤ (i : Int) := i_le (a := p2) (b := nI i) rfl (nI_toInt (by omega)) c_18
              refine lv_iconst (v := 0) hx hb dX7_row_82 (by decide) ?_
              refine W.widen (k := 0) (n := 0) (by omega) (by omega) ?_
              exact W.iret (v := 0) hx hb hr (fun t ht hW => ⟨⟨0, (), rfl, (by first | rfl | ((repeat' split) <;> (first | rfl | (exfalso; omega)))), trivial⟩, hS.F ht⟩) hS.2.2 dX7_row_83
            · have c_18 : (i : Int) < p2.toInt := i_nle (a := p2) (b := nI i) rfl (nI_toInt (by omega)) c_18
              refine lv_aload_n hx hb dX7_row_63 rfl (lv_at hl 1 rfl) ?_
              refine va_get (D := (dC, dI)) (ci := 7) (v := .ref m_cells) (C := RX7) (T := TX7) (N := 39) hx hb hts in_X7_row_X7 hown hK hP 0 rfl rfl 3 (by decide) (hts _ wd_X7_row_4) (fun _ h9 => h9) rfl dX7_row_64 ?_
              refine lv_bipush (v := 60) hx hb dX7_row_67 (by decide) ?_
              refine lv_iload_n hx hb dX7_row_69 rfl (lv_at hl 2 rfl) ?_
              refine lv_imul hx hb dX7_row_70 ?_
              refine lv_topi (fun z_19 ez_19 => ?_)
              obtain rfl : z_19 = 60 := ez_19.trans (by decide)
              refine lv_iload hx hb dX7_row_71 (lv_at hl 0 rfl) ?_
              refine lv_iadd hx hb dX7_row_73 ?_
              refine lv_topi (fun z_20 ez_20 => ?_)
              obtain rfl : z_20 = nI (60 + i) := ez_20.trans (nI_add 60 i)
              refine lv_lconst (v := 0) hx hb dX7_row_74 (by decide) ?_
              refine va_last hx hb hK hP hD hS 3 2 rfl rfl (vp_in_nI (by omega) (by omega)) dX7_row_75 (fun H locs hP hD hS => ?_)
              have hP : va_P (dC, dI) vwCl [(h0, .inr (7, [.int 0, .ref m_width, .ref m_many, .ref m_cells, .ref m_moved, .ref m_tape, .int 0, .int 0, .int 0, .int 0, .int 0, .long 0, .int 0, .int 0, .int 0, .int (-1), .ref m_lines, .ref m_has, .ref m_state, .ref m_gate, .ref m_guest, .ref m_gone, .int 0, .ref m_isKept, .ref m_first, .ref m_second, .int 0, .ref m_far, .ref m_wished, .ref m_wasState, .ref m_isHere, .ref m_round, .ref m_bestRound, .int 0, .int 0, .long 0, .long 0, .ref m_taken, .int 0])), (m_width, .inl (k_width, 4, .inl f_16)), (m_many, .inl (k_many, 4, .inl f_17)), (m_cells, .inl (k_cells, 240, .inr (.inl (vp_updL f3 (nI (60 + i)).toNatClampNeg 0))))] H := hP
              have hD : va_D A [(h0, .inr (7, [.int 0, .ref m_width, .ref m_many, .ref m_cells, .ref m_moved, .ref m_tape, .int 0, .int 0, .int 0, .int 0, .int 0, .long 0, .int 0, .int 0, .int 0, .int (-1), .ref m_lines, .ref m_has, .ref m_state, .ref m_gate, .ref m_guest, .ref m_gone, .int 0, .ref m_isKept, .ref m_first, .ref m_second, .int 0, .ref m_far, .ref m_wished, .ref m_wasState, .ref m_isHere, .ref m_round, .ref m_bestRound, .int 0, .int 0, .long 0, .long 0, .ref m_taken, .int 0])), (m_width, .inl (k_width, 4, .inl f_16)), (m_many, .inl (k_many, 4, .inl f_17)), (m_cells, .inl (k_cells, 240, .inr (.inl (vp_updL f3 (nI (60 + i)).toNatClampNeg 0))))] := hD
              refine lv_iinc (v := nI (i + 1)) (lv' := [(4, .int (nI (i + 1))), (0, .ref h0), (1, .int 1), (2, .int p1), (3, .int p2)]) hx hb dX7_row_76 hl (k := 0) rfl (nI_1 i) (by decide) rfl (fun ls hl => ?_)
              refine lv_goto (tgt := 57) hx hb dX7_row_79 (by decide) ?_
              exact ih (i + 1, vp_updL f3 (nI (60 + i)).toNatClampNeg 0) _ _ _ ⟨by omega, hP.sub [0, 1, 2, 3] rfl, hD.sub [0, 1, 2, 3] (by decide) rfl, hS, lv_sub hl [0, 1, 2, 3, 4] rfl⟩ (by omega)
          · refine lv_aload_n hx hb dX7_row_40 rfl (lv_at hl 0 rfl) ?_
            refine va_get (D := (dC, dI)) (ci := 7) (v := .ref m_width) (C := RX7) (T := TX7) (N := 39) hx hb hts in_X7_row_X7 hown hK hP 0 rfl rfl 1 (by decide) (hts _ wd_X7_row_2) (fun _ h9 => h9) rfl dX7_row_41 ?_
            refine lv_iload_n hx hb dX7_row_44 rfl (lv_at hl 1 rfl) ?_
            refine lv_iload_n hx hb dX7_row_45 rfl (lv_at hl 2 rfl) ?_
            refine va_iast hx hb hK hP hD hS 1 0 rfl rfl (vp_in_iff.mpr ⟨by decide, by decide⟩) dX7_row_46 (fun H locs hP hD hS => ?_)
            have hP : va_P (dC, dI) vwCl [(h0, .inr (7, [.int 0, .ref m_width, .ref m_many, .ref m_cells, .ref m_moved, .ref m_tape, .int 0, .int 0, .int 0, .int 0, .int 0, .long 0, .int 0, .int 0, .int 0, .int (-1), .ref m_lines, .ref m_has, .ref m_state, .ref m_gate, .ref m_guest, .ref m_gone, .int 0, .ref m_isKept, .ref m_first, .ref m_second, .int 0, .ref m_far, .ref m_wished, .ref m_wasState, .ref m_isHere, .ref m_round, .ref m_bestRound, .int 0, .int 0, .long 0, .long 0, .ref m_taken, .int 0])), (m_width, .inl (k_width, 4, .inl (upd fw ((2 : Int32)).toNatClampNeg p1))), (m_many, .inl (k_many, 4, .inl (fun _ => 0))), (m_cells, .inl (k_cells, 240, .inr (.inl fc)))] H := hP
            have hD : va_D A [(h0, .inr (7, [.int 0, .ref m_width, .ref m_many, .ref m_cells, .ref m_moved, .ref m_tape, .int 0, .int 0, .int 0, .int 0, .int 0, .long 0, .int 0, .int 0, .int 0, .int (-1), .ref m_lines, .ref m_has, .ref m_state, .ref m_gate, .ref m_guest, .ref m_gone, .int 0, .ref m_isKept, .ref m_first, .ref m_second, .int 0, .ref m_far, .ref m_wished, .ref m_wasState, .ref m_isHere, .ref m_round, .ref m_bestRound, .int 0, .int 0, .long 0, .long 0, .ref m_taken, .int 0])), (m_width, .inl (k_width, 4, .inl (upd fw ((2 : Int32)).toNatClampNeg p1))), (m_many, .inl (k_many, 4, .inl (fun _ => 0))), (m_cells, .inl (k_cells, 240, .inr (.inl fc)))] := hD
            obtain ⟨f_21, ef_21⟩ : ∃ g, g = upd fw ((2 : Int32)).toNatClampNeg p1 := ⟨_, rfl⟩
            rw [← ef_21] at hP hD
            refine lv_aload_n hx hb dX7_row_47 rfl (lv_at hl 0 rfl) ?_
            refine va_get (D := (dC, dI)) (ci := 7) (v := .ref m_many) (C := RX7) (T := TX7) (N := 39) hx hb hts in_X7_row_X7 hown hK hP 0 rfl rfl 2 (by decide) (hts _ wd_X7_row_3) (fun _ h9 => h9) rfl dX7_row_48 ?_
            refine lv_iload_n hx hb dX7_row_51 rfl (lv_at hl 1 rfl) ?_
            refine lv_iload_n hx hb dX7_row_52 rfl (lv_at hl 3 rfl) ?_
            refine va_iast hx hb hK hP hD hS 2 1 rfl rfl (vp_in_iff.mpr ⟨by decide, by decide⟩) dX7_row_53 (fun H locs hP hD hS => ?_)
            have hP : va_P (dC, dI) vwCl [(h0, .inr (7, [.int 0, .ref m_width, .ref m_many, .ref m_cells, .ref m_moved, .ref m_tape, .int 0, .int 0, .int 0, .int 0, .int 0, .long 0, .int 0, .int 0, .int 0, .int (-1), .ref m_lines, .ref m_has, .ref m_state, .ref m_gate, .ref m_guest, .ref m_gone, .int 0, .ref m_isKept, .ref m_first, .ref m_second, .int 0, .ref m_far, .ref m_wished, .ref m_wasState, .ref m_isHere, .ref m_round, .ref m_bestRound, .int 0, .int 0, .long 0, .long 0, .ref m_taken, .int 0])), (m_width, .inl (k_width, 4, .inl f_21)), (m_many, .inl (k_many, 4, .inl (upd (fun _ => 0) ((2 : Int32)).toNatClampNeg p2))), (m_cells, .inl (k_cells, 240, .inr (.inl fc)))] H := hP
            have hD : va_D A [(h0, .inr (7, [.int 0, .ref m_width, .ref m_many, .ref m_cells, .ref m_moved, .ref m_tape, .int 0, .int 0, .int 0, .int 0, .int 0, .long 0, .int 0, .int 0, .int 0, .int (-1), .ref m_lines, .ref m_has, .ref m_state, .ref m_gate, .ref m_guest, .ref m_gone, .int 0, .ref m_isKept, .ref m_first, .ref m_second, .int 0, .ref m_far, .ref m_wished, .ref m_wasState, .ref m_isHere, .ref m_round, .ref m_bestRound, .int 0, .int 0, .long 0, .long 0, .ref m_taken, .int 0])), (m_width, .inl (k_width, 4, .inl f_21)), (m_many, .inl (k_many, 4, .inl (upd (fun _ => 0) ((2 : Int32)).toNatClampNeg p2))), (m_cells, .inl (k_cells, 240, .inr (.inl fc)))] := hD
            obtain ⟨f_22, ef_22⟩ : ∃ g, g = upd (fun _ => 0) ((2 : Int32)).toNatClampNeg p2 := ⟨_, rfl⟩
            rw [← ef_22] at hP hD
            refine lv_iconst (v := 0) hx hb dX7_row_54 (by decide) ?_
            refine lv_istore (lv' := [(4, .int 0), (0, .ref h0), (1, .int 2), (2, .int p1), (3, .int p2)]) hx hb dX7_row_55 hl (by decide) rfl (fun ls hl => ?_)
            refine lp_W (I := fun (a : Nat × (Nat → Int64)) H locs ls => ((a.1 : Int) ≤ p2.toInt) ∧ va_P (dC, dI) vwCl [(h0, .inr (7, [.int 0, .ref m_width, .ref m_many, .ref m_cells, .ref m_moved, .ref m_tape, .int 0, .int 0, .int 0, .int 0, .int 0, .long 0, .int 0, .int 0, .int 0, .int (-1), .ref m_lines, .ref m_has, .ref m_state, .ref m_gate, .ref m_guest, .ref m_gone, .int 0, .ref m_isKept, .ref m_first, .ref m_second, .int 0, .ref m_far, .ref m_wished, .ref m_wasState, .ref m_isHere, .ref m_round, .ref m_bestRound, .int 0, .int 0, .long 0, .long 0, .ref m_taken, .int 0])), (m_width, .inl (k_width, 4, .inl f_21)), (m_many, .inl (k_many, 4, .inl f_22)), (m_cells, .inl (k_cells, 240, .inr (.inl a.2)))] H ∧ va_D A [(h0, .inr (7, [.int 0, .ref m_width, .ref m_many, .ref m_cells, .ref m_moved, .ref m_tape, .int 0, .int 0, .int 0, .int 0, .int 0, .long 0, .int 0, .int 0, .int 0, .int (-1), .ref m_lines, .ref m_has, .ref m_state, .ref m_gate, .ref m_guest, .ref m_gone, .int 0, .ref m_isKept, .ref m_first, .ref m_second, .int 0, .ref m_far, .ref m_wished, .ref m_wasState, .ref m_isHere, .ref m_round, .ref m_bestRound, .int 0, .int 0, .long 0, .long 0, .ref m_taken, .int 0])), (m_width, .inl (k_width, 4, .inl f_21)), (m_many, .inl (k_many, 4, .inl f_22)), (m_cells, .inl (k_cells, 240, .inr (.inl a.2)))] ∧ va_S A s.heap H locs ∧ lv_has ls 5 [(4, .int (nI a.1)), (0, .ref h0), (1, .int 2), (2, .int p1), (3, .int p2)]) (μ := fun a => (p2.toInt - (a.1 : Int)).toNat) ?_ (0, fc) ⟨by omega, hP.sub [0, 1, 2, 3] rfl, hD.sub [0, 1, 2, 3] (by decide) rfl, hS, lv_sub hl [0, 1, 2, 3, 4] rfl⟩
            intro a H locs ls hI ih
            obtain ⟨i, f3⟩ := a
            obtain ⟨hi, hP, hD, hS, hl⟩ := hI
            have hi : (i : Int) ≤ p2.toInt := hi
            have hP : va_P (dC, dI) vwCl [(h0, .inr (7, [.int 0, .ref m_width, .ref m_many, .ref m_cells, .ref m_moved, .ref m_tape, .int 0, .int 0, .int 0, .int 0, .int 0, .long 0, .int 0, .int 0, .int 0, .int (-1), .ref m_lines, .ref m_has, .ref m_state, .ref m_gate, .ref m_guest, .ref m_gone, .int 0, .ref m_isKept, .ref m_first, .ref m_second, .int 0, .ref m_far, .ref m_wished, .ref m_wasState, .ref m_isHere, .ref m_round, .ref m_bestRound, .int 0, .int 0, .long 0, .long 0, .ref m_taken, .int 0])), (m_width, .inl (k_width, 4, .inl f_21)), (m_many, .inl (k_many, 4, .inl f_22)), (m_cells, .inl (k_cells, 240, .inr (.inl f3)))] H := hP
            have hD : va_D A [(h0, .inr (7, [.int 0, .ref m_width, .ref m_many, .ref m_cells, .ref m_moved, .ref m_tape, .int 0, .int 0, .int 0, .int 0, .int 0, .long 0, .int 0, .int 0, .int 0, .int (-1), .ref m_lines, .ref m_has, .ref m_state, .ref m_gate, .ref m_guest, .ref m_gone, .int 0, .ref m_isKept, .ref m_first, .ref m_second, .int 0, .ref m_far, .ref m_wished, .ref m_wasState, .ref m_isHere, .ref m_round, .ref m_bestRound, .int 0, .int 0, .long 0, .long 0, .ref m_taken, .int 0])), (m_width, .inl (k_width, 4, .inl f_21)), (m_many, .inl (k_many, 4, .inl f_22)), (m_cells, .inl (k_cells, 240, .inr (.inl f3)))] := hD
            have hl : lv_has ls 5 [(4, .int (nI i)), (0, .ref h0), (1, .int 2), (2, .int p1), (3, .int p2)] := hl
            refine lv_iload hx hb dX7_row_57 (lv_at hl 0 rfl) ?_
            refine lv_iload_n hx hb dX7_row_59 rfl (lv_at hl 4 rfl) ?_
            refine lv_icmp_ge (tgt := 82) hx hb dX7_row_60 (by decide) (fun c_23 => ?_) (fun c_23 => ?_)
            · have c_23 : p2.toInt ≤ (i : Int) := i_le (a := p2) (b := nI i) rfl (nI_toInt (by omega)) c_23
              refine lv_iconst (v := 0) hx hb dX7_row_82 (by decide) ?_
              refine W.widen (k := 0) (n := 0) (by omega) (by omega) ?_
              exact W.iret (v := 0) hx hb hr (fun t ht hW => ⟨⟨0, (), rfl, (by first | rfl | ((repeat' split) <;> (first | rfl | (exfalso; omega)))), trivial⟩, hS.F ht⟩) hS.2.2 dX7_row_83
            · have c_23 : (i : Int) < p2.toInt := i_nle (a := p2) (b := nI i) rfl (nI_toInt (by omega)) c_23
              refine lv_aload_n hx hb dX7_row_63 rfl (lv_at hl 1 rfl) ?_
              refine va_get (D := (dC, dI)) (ci := 7) (v := .ref m_cells) (C := RX7) (T := TX7) (N := 39) hx hb hts in_X7_row_X7 hown hK hP 0 rfl rfl 3 (by decide) (hts _ wd_X7_row_4) (fun _ h9 => h9) rfl dX7_row_64 ?_
              refine lv_bipush (v := 60) hx hb dX7_row_67 (by decide) ?_
              refine lv_iload_n hx hb dX7_row_69 rfl (lv_at hl 2 rfl) ?_
              refine lv_imul hx hb dX7_row_70 ?_
              refine lv_topi (fun z_24 ez_24 => ?_)
              obtain rfl : z_24 = 120 := ez_24.trans (by decide)
              refine lv_iload hx hb dX7_row_71 (lv_at hl 0 rfl) ?_
              refine lv_iadd hx hb dX7_row_73 ?_
              refine lv_topi (fun z_25 ez_25 => ?_)
              obtain rfl : z_25 = nI (120 + i) := ez_25.trans (nI_add 120 i)
              refine lv_lconst (v := 0) hx hb dX7_row_74 (by decide) ?_
              refine va_last hx hb hK hP hD hS 3 2 rfl rfl (vp_in_nI (by omega) (by omega)) dX7_row_75 (fun H locs hP hD hS => ?_)
              have hP : va_P (dC, dI) vwCl [(h0, .inr (7, [.int 0, .ref m_width, .ref m_many, .ref m_cells, .ref m_moved, .ref m_tape, .int 0, .int 0, .int 0, .int 0, .int 0, .long 0, .int 0, .int 0, .int 0, .int (-1), .ref m_lines, .ref m_has, .ref m_state, .ref m_gate, .ref m_guest, .ref m_gone, .int 0, .ref m_isKept, .ref m_first, .ref m_second, .int 0, .ref m_far, .ref m_wished, .ref m_wasState, .ref m_isHere, .ref m_round, .ref m_bestRound, .int 0, .int 0, .long 0, .long 0, .ref m_taken, .int 0])), (m_width, .inl (k_width, 4, .inl f_21)), (m_many, .inl (k_many, 4, .inl f_22)), (m_cells, .inl (k_cells, 240, .inr (.inl (vp_updL f3 (nI (120 + i)).toNatClampNeg 0))))] H := hP
              have hD : va_D A [(h0, .inr (7, [.int 0, .ref m_width, .ref m_many, .ref m_cells, .ref m_moved, .ref m_tape, .int 0, .int 0, .int 0, .int 0, .int 0, .long 0, .int 0, .int 0, .int 0, .int (-1), .ref m_lines, .ref m_has, .ref m_state, .ref m_gate, .ref m_guest, .ref m_gone, .int 0, .ref m_isKept, .ref m_first, .ref m_second, .int 0, .ref m_far, .ref m_wished, .ref m_wasState, .ref m_isHere, .ref m_round, .ref m_bestRound, .int 0, .int 0, .long 0, .long 0, .ref m_taken, .int 0])), (m_width, .inl (k_width, 4, .inl f_21)), (m_many, .inl (k_many, 4, .inl f_22)), (m_cells, .inl (k_cells, 240, .inr (.inl (vp_updL f3 (nI (120 + i)).toNatClampNeg 0))))] := hD
              refine lv_iinc (v := nI (i + 1)) (lv' := [(4, .int (nI (i + 1))), (0, .ref h0), (1, .int 2), (2, .int p1), (3, .int p2)]) hx hb dX7_row_76 hl (k := 0) rfl (nI_1 i) (by decide) rfl (fun ls hl => ?_)
              refine lv_goto (tgt := 57) hx hb dX7_row_79 (by decide) ?_
              exact ih (i + 1, vp_updL f3 (nI (120 + i)).toNatClampNeg 0) _ _ _ ⟨by omega, hP.sub [0, 1, 2, 3] rfl, hD.sub [0, 1, 2, 3] (by decide) rfl, hS, lv_sub hl [0, 1, 2, 3, 4] rfl⟩ (by omega)
          · refine lv_aload_n hx hb dX7_row_40 rfl (lv_at hl 0 rfl) ?_
            refine va_get (D := (dC, dI)) (ci := 7) (v := .ref m_width) (C := RX7) (T := TX7) (N := 39) hx hb hts in_X7_row_X7 hown hK hP 0 rfl rfl 1 (by decide) (hts _ wd_X7_row_2) (fun _ h9 => h9) rfl dX7_row_41 ?_
            refine lv_iload_n hx hb dX7_row_44 rfl (lv_at hl 1 rfl) ?_
            refine lv_iload_n hx hb dX7_row_45 rfl (lv_at hl 2 rfl) ?_
            refine va_iast hx hb hK hP hD hS 1 0 rfl rfl (vp_in_iff.mpr ⟨by decide, by decide⟩) dX7_row_46 (fun H locs hP hD hS => ?_)
            have hP : va_P (dC, dI) vwCl [(h0, .inr (7, [.int 0, .ref m_width, .ref m_many, .ref m_cells, .ref m_moved, .ref m_tape, .int 0, .int 0, .int 0, .int 0, .int 0, .long 0, .int 0, .int 0, .int 0, .int (-1), .ref m_lines, .ref m_has, .ref m_state, .ref m_gate, .ref m_guest, .ref m_gone, .int 0, .ref m_isKept, .ref m_first, .ref m_second, .int 0, .ref m_far, .ref m_wished, .ref m_wasState, .ref m_isHere, .ref m_round, .ref m_bestRound, .int 0, .int 0, .long 0, .long 0, .ref m_taken, .int 0])), (m_width, .inl (k_width, 4, .inl (upd fw ((3 : Int32)).toNatClampNeg p1))), (m_many, .inl (k_many, 4, .inl (fun _ => 0))), (m_cells, .inl (k_cells, 240, .inr (.inl fc)))] H := hP
            have hD : va_D A [(h0, .inr (7, [.int 0, .ref m_width, .ref m_many, .ref m_cells, .ref m_moved, .ref m_tape, .int 0, .int 0, .int 0, .int 0, .int 0, .long 0, .int 0, .int 0, .int 0, .int (-1), .ref m_lines, .ref m_has, .ref m_state, .ref m_gate, .ref m_guest, .ref m_gone, .int 0, .ref m_isKept, .ref m_first, .ref m_second, .int 0, .ref m_far, .ref m_wished, .ref m_wasState, .ref m_isHere, .ref m_round, .ref m_bestRound, .int 0, .int 0, .long 0, .long 0, .ref m_taken, .int 0])), (m_width, .inl (k_width, 4, .inl (upd fw ((3 : Int32)).toNatClampNeg p1))), (m_many, .inl (k_many, 4, .inl (fun _ => 0))), (m_cells, .inl (k_cells, 240, .inr (.inl fc)))] := hD
            obtain ⟨f_26, ef_26⟩ : ∃ g, g = upd fw ((3 : Int32)).toNatClampNeg p1 := ⟨_, rfl⟩
            rw [← ef_26] at hP hD
            refine lv_aload_n hx hb dX7_row_47 rfl (lv_at hl 0 rfl) ?_
            refine va_get (D := (dC, dI)) (ci := 7) (v := .ref m_many) (C := RX7) (T := TX7) (N := 39) hx hb hts in_X7_row_X7 hown hK hP 0 rfl rfl 2 (by decide) (hts _ wd_X7_row_3) (fun _ h9 => h9) rfl dX7_row_48 ?_
            refine lv_iload_n hx hb dX7_row_51 rfl (lv_at hl 1 rfl) ?_
            refine lv_iload_n hx hb dX7_row_52 rfl (lv_at hl 3 rfl) ?_
            refine va_iast hx hb hK hP hD hS 2 1 rfl rfl (vp_in_iff.mpr ⟨by decide, by decide⟩) dX7_row_53 (fun H locs hP hD hS => ?_)
            have hP : va_P (dC, dI) vwCl [(h0, .inr (7, [.int 0, .ref m_width, .ref m_many, .ref m_cells, .ref m_moved, .ref m_tape, .int 0, .int 0, .int 0, .int 0, .int 0, .long 0, .int 0, .int 0, .int 0, .int (-1), .ref m_lines, .ref m_has, .ref m_state, .ref m_gate, .ref m_guest, .ref m_gone, .int 0, .ref m_isKept, .ref m_first, .ref m_second, .int 0, .ref m_far, .ref m_wished, .ref m_wasState, .ref m_isHere, .ref m_round, .ref m_bestRound, .int 0, .int 0, .long 0, .long 0, .ref m_taken, .int 0])), (m_width, .inl (k_width, 4, .inl f_26)), (m_many, .inl (k_many, 4, .inl (upd (fun _ => 0) ((3 : Int32)).toNatClampNeg p2))), (m_cells, .inl (k_cells, 240, .inr (.inl fc)))] H := hP
            have hD : va_D A [(h0, .inr (7, [.int 0, .ref m_width, .ref m_many, .ref m_cells, .ref m_moved, .ref m_tape, .int 0, .int 0, .int 0, .int 0, .int 0, .long 0, .int 0, .int 0, .int 0, .int (-1), .ref m_lines, .ref m_has, .ref m_state, .ref m_gate, .ref m_guest, .ref m_gone, .int 0, .ref m_isKept, .ref m_first, .ref m_second, .int 0, .ref m_far, .ref m_wished, .ref m_wasState, .ref m_isHere, .ref m_round, .ref m_bestRound, .int 0, .int 0, .long 0, .long 0, .ref m_taken, .int 0])), (m_width, .inl (k_width, 4, .inl f_26)), (m_many, .inl (k_many, 4, .inl (upd (fun _ => 0) ((3 : Int32)).toNatClampNeg p2))), (m_cells, .inl (k_cells, 240, .inr (.inl fc)))] := hD
            obtain ⟨f_27, ef_27⟩ : ∃ g, g = upd (fun _ => 0) ((3 : Int32)).toNatClampNeg p2 := ⟨_, rfl⟩
            rw [← ef_27] at hP hD
            refine lv_iconst (v := 0) hx hb dX7_row_54 (by decide) ?_
            refine lv_istore (lv' := [(4, .int 0), (0, .ref h0), (1, .int 3), (2, .int p1), (3, .int p2)]) hx hb dX7_row_55 hl (by decide) rfl (fun ls hl => ?_)
            refine lp_W (I := fun (a : Nat × (Nat → Int64)) H locs ls => ((a.1 : Int) ≤ p2.toInt) ∧ va_P (dC, dI) vwCl [(h0, .inr (7, [.int 0, .ref m_width, .ref m_many, .ref m_cells, .ref m_moved, .ref m_tape, .int 0, .int 0, .int 0, .int 0, .int 0, .long 0, .int 0, .int 0, .int 0, .int (-1), .ref m_lines, .ref m_has, .ref m_state, .ref m_gate, .ref m_guest, .ref m_gone, .int 0, .ref m_isKept, .ref m_first, .ref m_second, .int 0, .ref m_far, .ref m_wished, .ref m_wasState, .ref m_isHere, .ref m_round, .ref m_bestRound, .int 0, .int 0, .long 0, .long 0, .ref m_taken, .int 0])), (m_width, .inl (k_width, 4, .inl f_26)), (m_many, .inl (k_many, 4, .inl f_27)), (m_cells, .inl (k_cells, 240, .inr (.inl a.2)))] H ∧ va_D A [(h0, .inr (7, [.int 0, .ref m_width, .ref m_many, .ref m_cells, .ref m_moved, .ref m_tape, .int 0, .int 0, .int 0, .int 0, .int 0, .long 0, .int 0, .int 0, .int 0, .int (-1), .ref m_lines, .ref m_has, .ref m_state, .ref m_gate, .ref m_guest, .ref m_gone, .int 0, .ref m_isKept, .ref m_first, .ref m_second, .int 0, .ref m_far, .ref m_wished, .ref m_wasState, .ref m_isHere, .ref m_round, .ref m_bestRound, .int 0, .int 0, .long 0, .long 0, .ref m_taken, .int 0])), (m_width, .inl (k_width, 4, .inl f_26)), (m_many, .inl (k_many, 4, .inl f_27)), (m_cells, .inl (k_cells, 240, .inr (.inl a.2)))] ∧ va_S A s.heap H locs ∧ lv_has ls 5 [(4, .int (nI a.1)), (0, .ref h0), (1, .int 3), (2, .int p1), (3, .int p2)]) (μ := fun a => (p2.toInt - (a.1 : Int)).toNat) ?_ (0, fc) ⟨by omega, hP.sub [0, 1, 2, 3] rfl, hD.sub [0, 1, 2, 3] (by decide) rfl, hS, lv_sub hl [0, 1, 2, 3, 4] rfl⟩
            intro a H locs ls hI ih
            obtain ⟨i, f3⟩ := a
            obtain ⟨hi, hP, hD, hS, hl⟩ := hI
            have hi : (i : Int) ≤ p2.toInt := hi
            have hP : va_P (dC, dI) vwCl [(h0, .inr (7, [.int 0, .ref m_width, .ref m_many, .ref m_cells, .ref m_moved, .ref m_tape, .int 0, .int 0, .int 0, .int 0, .int 0, .long 0, .int 0, .int 0, .int 0, .int (-1), .ref m_lines, .ref m_has, .ref m_state, .ref m_gate, .ref m_guest, .ref m_gone, .int 0, .ref m_isKept, .ref m_first, .ref m_second, .int 0, .ref m_far, .ref m_wished, .ref m_wasState, .ref m_isHere, .ref m_round, .ref m_bestRound, .int 0, .int 0, .long 0, .long 0, .ref m_taken, .int 0])), (m_width, .inl (k_width, 4, .inl f_26)), (m_many, .inl (k_many, 4, .inl f_27)), (m_cells, .inl (k_cells, 240, .inr (.inl f3)))] H := hP
            have hD : va_D A [(h0, .inr (7, [.int 0, .ref m_width, .ref m_many, .ref m_cells, .ref m_moved, .ref m_tape, .int 0, .int 0, .int 0, .int 0, .int 0, .long 0, .int 0, .int 0, .int 0, .int (-1), .ref m_lines, .ref m_has, .ref m_state, .ref m_gate, .ref m_guest, .ref m_gone, .int 0, .ref m_isKept, .ref m_first, .ref m_second, .int 0, .ref m_far, .ref m_wished, .ref m_wasState, .ref m_isHere, .ref m_round, .ref m_bestRound, .int 0, .int 0, .long 0, .long 0, .ref m_taken, .int 0])), (m_width, .inl (k_width, 4, .inl f_26)), (m_many, .inl (k_many, 4, .inl f_27)), (m_cells, .inl (k_cells, 240, .inr (.inl f3)))] := hD
            have hl : lv_has ls 5 [(4, .int (nI i)), (0, .ref h0), (1, .int 3), (2, .int p1), (3, .int p2)] := hl
            refine lv_iload hx hb dX7_row_57 (lv_at hl 0 rfl) ?_
            refine lv_iload_n hx hb dX7_row_59 rfl (lv_at hl 4 rfl) ?_
            refine lv_icmp_ge (tgt := 82) hx hb dX7_row_60 (by decide) (fun c_28 => ?_) (fun c_28 => ?_)
            · have c_28 : p2.toInt ≤ (i : Int) := i_le (a := p2) (b := nI i) rfl (nI_toInt (by omega)) c_28
              refine lv_iconst (v := 0) hx hb dX7_row_82 (by decide) ?_
              refine W.widen (k := 0) (n := 0) (by omega) (by omega) ?_
              exact W.iret (v := 0) hx hb hr (fun t ht hW => ⟨⟨0, (), rfl, (by first | rfl | ((repeat' split) <;> (first | rfl | (exfalso; omega)))), trivial⟩, hS.F ht⟩) hS.2.2 dX7_row_83
            · have c_28 : (i : Int) < p2.toInt := i_nle (a := p2) (b := nI i) rfl (nI_toInt (by omega)) c_28
              refine lv_aload_n hx hb dX7_row_63 rfl (lv_at hl 1 rfl) ?_
              refine va_get (D := (dC, dI)) (ci := 7) (v := .ref m_cells) (C := RX7) (T := TX7) (N := 39) hx hb hts in_X7_row_X7 hown hK hP 0 rfl rfl 3 (by decide) (hts _ wd_X7_row_4) (fun _ h9 => h9) rfl dX7_row_64 ?_
              refine lv_bipush (v := 60) hx hb dX7_row_67 (by decide) ?_
              refine lv_iload_n hx hb dX7_row_69 rfl (lv_at hl 2 rfl) ?_
              refine lv_imul hx hb dX7_row_70 ?_
              refine lv_topi (fun z_29 ez_29 => ?_)
              obtain rfl : z_29 = 180 := ez_29.trans (by decide)
              refine lv_iload hx hb dX7_row_71 (lv_at hl 0 rfl) ?_
              refine lv_iadd hx hb dX7_row_73 ?_
              refine lv_topi (fun z_30 ez_30 => ?_)
              obtain rfl : z_30 = nI (180 + i) := ez_30.trans (nI_add 180 i)
              refine lv_lconst (v := 0) hx hb dX7_row_74 (by decide) ?_
              refine va_last hx hb hK hP hD hS 3 2 rfl rfl (vp_in_nI (by omega) (by omega)) dX7_row_75 (fun H locs hP hD hS => ?_)
              have hP : va_P (dC, dI) vwCl [(h0, .inr (7, [.int 0, .ref m_width, .ref m_many, .ref m_cells, .ref m_moved, .ref m_tape, .int 0, .int 0, .int 0, .int 0, .int 0, .long 0, .int 0, .int 0, .int 0, .int (-1), .ref m_lines, .ref m_has, .ref m_state, .ref m_gate, .ref m_guest, .ref m_gone, .int 0, .ref m_isKept, .ref m_first, .ref m_second, .int 0, .ref m_far, .ref m_wished, .ref m_wasState, .ref m_isHere, .ref m_round, .ref m_bestRound, .int 0, .int 0, .long 0, .long 0, .ref m_taken, .int 0])), (m_width, .inl (k_width, 4, .inl f_26)), (m_many, .inl (k_many, 4, .inl f_27)), (m_cells, .inl (k_cells, 240, .inr (.inl (vp_updL f3 (nI (180 + i)).toNatClampNeg 0))))] H := hP
              have hD : va_D A [(h0, .inr (7, [.int 0, .ref m_width, .ref m_many, .ref m_cells, .ref m_moved, .ref m_tape, .int 0, .int 0, .int 0, .int 0, .int 0, .long 0, .int 0, .int 0, .int 0, .int (-1), .ref m_lines, .ref m_has, .ref m_state, .ref m_gate, .ref m_guest, .ref m_gone, .int 0, .ref m_isKept, .ref m_first, .ref m_second, .int 0, .ref m_far, .ref m_wished, .ref m_wasState, .ref m_isHere, .ref m_round, .ref m_bestRound, .int 0, .int 0, .long 0, .long 0, .ref m_taken, .int 0])), (m_width, .inl (k_width, 4, .inl f_26)), (m_many, .inl (k_many, 4, .inl f_27)), (m_cells, .inl (k_cells, 240, .inr (.inl (vp_updL f3 (nI (180 + i)).toNatClampNeg 0))))] := hD
              refine lv_iinc (v := nI (i + 1)) (lv' := [(4, .int (nI (i + 1))), (0, .ref h0), (1, .int 3), (2, .int p1), (3, .int p2)]) hx hb dX7_row_76 hl (k := 0) rfl (nI_1 i) (by decide) rfl (fun ls hl => ?_)
              refine lv_goto (tgt := 57) hx hb dX7_row_79 (by decide) ?_
              exact ih (i + 1, vp_updL f3 (nI (180 + i)).toNatClampNeg 0) _ _ _ ⟨by omega, hP.sub [0, 1, 2, 3] rfl, hD.sub [0, 1, 2, 3] (by decide) rfl, hS, lv_sub hl [0, 1, 2, 3, 4] rfl⟩ (by omega)
        · have c_10 : p2.toInt < 0 := i_nle (a := 0) (b := p2) (by decide) rfl c_10
          refine lv_bipush (v := -3) hx hb dX7_row_37 (by decide) ?_
          refine W.widen (k := 0) (n := 0) (by omega) (by omega) ?_
          exact W.iret (v := -3) hx hb hr (fun t ht hW => ⟨⟨(-3), (), rfl, (by first | rfl | ((repeat' split) <;> (first | rfl | (exfalso; omega)))), trivial⟩, hS.F ht⟩) hS.2.2 dX7_row_39
      · have c_9 : 60 < p2.toInt := i_nle (a := p2) (b := 60) rfl (by decide) c_9
        refine lv_bipush (v := -2) hx hb dX7_row_30 (by decide) ?_
        refine W.widen (k := 0) (n := 0) (by omega) (by omega) ?_
        exact W.iret (v := -2) hx hb hr (fun t ht hW => ⟨⟨(-2), (), rfl, (by first | rfl | ((repeat' split) <;> (first | rfl | (exfalso; omega)))), trivial⟩, hS.F ht⟩) hS.2.2 dX7_row_32
    · obtain rfl : r_5 = 0 := r_59
      have hC_31 := hC
      refine lv_if_eq (tgt := 30) hx hb dX7_row_21 (by decide) (fun _ => ?_) (fun h => absurd (by decide) h)
      refine lv_bipush (v := -2) hx hb dX7_row_30 (by decide) ?_
      refine W.widen (k := 0) (n := 0) (by omega) (by omega) ?_
      exact W.iret (v := -2) hx hb hr (fun t ht hW => ⟨⟨(-2), (), rfl, (by first | rfl | ((repeat' split) <;> (first | rfl | (exfalso; omega)))), trivial⟩, hS.F ht⟩) hS.2.2 dX7_row_32
  · obtain rfl : r_1 = 0 := r_19
    have hC_33 := hC
    refine lv_if_eq (tgt := 30) hx hb dX7_row_9 (by decide) (fun _ => ?_) (fun h => absurd (by decide) h)
    refine lv_bipush (v := -2) hx hb dX7_row_30 (by decide) ?_
    refine W.widen (k := 0) (n := 0) (by omega) (by omega) ?_
    exact W.iret (v := -2) hx hb hr (fun t ht hW => ⟨⟨(-2), (), rfl, (by first | rfl | ((repeat' split) <;> (first | rfl | (exfalso; omega)))), trivial⟩, hS.F ht⟩) hS.2.2 dX7_row_32

theorem dX7_write_0 : decode cX7_write 0 = .ok (.aload_n 0, 1) := by decide +kernel
theorem dX7_write_1 : decode cX7_write 1 = .ok (.iconst 0, 1) := by decide +kernel
theorem dX7_write_2 : decode cX7_write 2 = .ok (.putfield 80, 3) := by decide +kernel
theorem dX7_write_5 : decode cX7_write 5 = .ok (.iload_n 1, 1) := by decide +kernel
theorem dX7_write_6 : decode cX7_write 6 = .ok (.invokestatic 89, 3) := by decide +kernel
theorem dX7_write_9 : decode cX7_write 9 = .ok (.ifCond .ne 6, 3) := by decide +kernel
theorem dX7_write_12 : decode cX7_write 12 = .ok (.bipush (-2), 2) := by decide +kernel
theorem dX7_write_14 : decode cX7_write 14 = .ok (.ireturn, 1) := by decide +kernel
theorem dX7_write_15 : decode cX7_write 15 = .ok (.aload_n 0, 1) := by decide +kernel
theorem dX7_write_16 : decode cX7_write 16 = .ok (.getfield 7, 3) := by decide +kernel
theorem dX7_write_19 : decode cX7_write 19 = .ok (.iload_n 1, 1) := by decide +kernel
theorem dX7_write_20 : decode cX7_write 20 = .ok (.iaload, 1) := by decide +kernel
theorem dX7_write_21 : decode cX7_write 21 = .ok (.iconst (-1), 1) := by decide +kernel
theorem dX7_write_22 : decode cX7_write 22 = .ok (.if_icmp .ne 6, 3) := by decide +kernel
theorem dX7_write_25 : decode cX7_write 25 = .ok (.bipush (-6), 2) := by decide +kernel
theorem dX7_write_27 : decode cX7_write 27 = .ok (.ireturn, 1) := by decide +kernel
def wz_X7_write : List Cond := .code yX7_write cX7_write 5 (some .int) :: ([Cond.fieldLink RX7 80 "HedgeMazeModel" "thrown" "I", Cond.fieldLink RX7 7 "HedgeMazeModel" "width" "[I", Cond.methodLink RX7 89 yX7_isSlot, Cond.static yX7_isSlot, Cond.initialized RX7, Cond.code yX7_isSlot cX7_isSlot 1 (some .boolean), Cond.constantLong RX7 83 (3), Cond.methodLink RX7 85 yX7_in, Cond.static yX7_in, Cond.code yX7_in cX7_in 6 (some .boolean)] ++ wsX70)
theorem wd_X7_write_0 : Cond.fieldLink RX7 80 "HedgeMazeModel" "thrown" "I" ∈ wz_X7_write := List.mem_of_getElem? (i := 1) rfl
theorem wd_X7_write_1 : Cond.fieldLink RX7 7 "HedgeMazeModel" "width" "[I" ∈ wz_X7_write := List.mem_of_getElem? (i := 2) rfl
theorem in_X7_write_X7 : ∀ w ∈ wsX70, w ∈ wz_X7_write := fun _ h => List.mem_cons_of_mem _ (List.mem_append_right _ h)
set_option maxRecDepth 20000 in
theorem g_X7_write_X7_isSlot : GoodIn wz_X7_write (va_wsS RX7 89 yX7_isSlot wz_X7_isSlot) := goodIn_r _ [3, 4, 5, 6, 7, 8, 9, 5, 10] rfl (by decide +kernel)
set_option maxHeartbeats 4000000 in
set_option maxRecDepth 100000 in
theorem c_X7_write (l : Launch) (dC : Nat → ClassId) (dI : Nat → Nat → Nat) (sz : Nat) (h0 : Nat) (m_width : Nat) (m_many : Nat) (m_cells : Nat) (m_moved : Nat) (m_tape : Nat) (m_lines : Nat) (m_has : Nat) (m_state : Nat) (m_gate : Nat) (m_guest : Nat) (m_gone : Nat) (m_isKept : Nat) (m_first : Nat) (m_second : Nat) (m_far : Nat) (m_wished : Nat) (m_wasState : Nat) (m_isHere : Nat) (m_round : Nat) (m_bestRound : Nat) (m_taken : Nat) (k_width : ClassId) (fw : Nat → Int32) (p0 : Int32) (p1 : Int32) (p2 : Int64) (hf0 : fw 0 = -1) (hf1 : fw 1 = -1) (hf2 : fw 2 = -1) (hf3 : fw 3 = -1) : Met l yX7_write wz_X7_write ({ frames := 2, cells := 0, slots := 0, locals := 45 }) (va_Pc [.ref h0, .int p0, .int p1, .long p2] (fun U => U.heap.size = sz ∧ va_P (dC, dI) vwCl [(h0, .inr (7, [.int 0, .ref m_width, .ref m_many, .ref m_cells, .ref m_moved, .ref m_tape, .int 0, .int 0, .int 0, .int 0, .int 0, .long 0, .int 0, .int 0, .int 0, .int (-1), .ref m_lines, .ref m_has, .ref m_state, .ref m_gate, .ref m_guest, .ref m_gone, .int 0, .ref m_isKept, .ref m_first, .ref m_second, .int 0, .ref m_far, .ref m_wished, .ref m_wasState, .ref m_isHere, .ref m_round, .ref m_bestRound, .int 0, .int 0, .long 0, .long 0, .ref m_taken, .int 0])), (m_width, .inl (k_width, 4, .inl fw))] U.heap ∧ va_K (dC, dI) vwCl [(k_width, .int)] U ∧ va_D (fun _ => True) [(h0, .inr (7, [.int 0, .ref m_width, .ref m_many, .ref m_cells, .ref m_moved, .ref m_tape, .int 0, .int 0, .int 0, .int 0, .int 0, .long 0, .int 0, .int 0, .int 0, .int (-1), .ref m_lines, .ref m_has, .ref m_state, .ref m_gate, .ref m_guest, .ref m_gone, .int 0, .ref m_isKept, .ref m_first, .ref m_second, .int 0, .ref m_far, .ref m_wished, .ref m_wasState, .ref m_isHere, .ref m_round, .ref m_bestRound, .int 0, .int 0, .long 0, .long 0, .ref m_taken, .int 0])), (m_width, .inl (k_width, 4, .inl fw))])) (va_Qi (fun (r : Int32) (u : Unit) => r = if 0 ≤ p0.toInt ∧ p0.toInt ≤ 3 then -6 else -2) (fun (_ : Unit) (_ : State) => True) (va_A [(h0, .inr (7, [.int 0, .ref m_width, .ref m_many, .ref m_cells, .ref m_moved, .ref m_tape, .int 0, .int 0, .int 0, .int 0, .int 0, .long 0, .int 0, .int 0, .int 0, .int (-1), .ref m_lines, .ref m_has, .ref m_state, .ref m_gate, .ref m_guest, .ref m_gone, .int 0, .ref m_isKept, .ref m_first, .ref m_second, .int 0, .ref m_far, .ref m_wished, .ref m_wasState, .ref m_isHere, .ref m_round, .ref m_bestRound, .int 0, .int 0, .long 0, .long 0, .ref m_taken, .int 0])), (m_width, .inl (k_width, 4, .inl fw))] sz)) 0 0 (va_A [(h0, .inr (7, [.int 0, .ref m_width, .ref m_many, .ref m_cells, .ref m_moved, .ref m_tape, .int 0, .int 0, .int 0, .int 0, .int 0, .long 0, .int 0, .int 0, .int 0, .int (-1), .ref m_lines, .ref m_has, .ref m_state, .ref m_gate, .ref m_guest, .ref m_gone, .int 0, .ref m_isKept, .ref m_first, .ref m_second, .int 0, .ref m_far, .ref m_wished, .ref m_wasState, .ref m_isHere, .ref m_round, .ref m_bestRound, .int 0, .int 0, .long 0, .long 0, .ref m_taken, .int 0])), (m_width, .inl (k_width, 4, .inl fw))] sz) := by
  refine Met.ofW (cc := cX7_write) (maxL := 5) (ret := (some .int)) (by decide) rfl ?_
  intro p e s m args below meth c s₁ B hml hv
  obtain ⟨rfl, hsz, hP, hK, hD0⟩ := hv
  have hx := B.exec
  have hb := B.bytes
  have hr := B.returns
  have hts := atoms_spec (ws := wz_X7_write) B.pre
  have hown : s.vm.findClass RX7 = some m.cls := findClass_of_methodNamed B.named
  have hlocks := B.notSynchronized
  subst hsz
  have hD := hD0.self (sz := s.heap.size)
  generalize hAe : va_A [(h0, .inr (7, [.int 0, .ref m_width, .ref m_many, .ref m_cells, .ref m_moved, .ref m_tape, .int 0, .int 0, .int 0, .int 0, .int 0, .long 0, .int 0, .int 0, .int 0, .int (-1), .ref m_lines, .ref m_has, .ref m_state, .ref m_gate, .ref m_guest, .ref m_gone, .int 0, .ref m_isKept, .ref m_first, .ref m_second, .int 0, .ref m_far, .ref m_wished, .ref m_wasState, .ref m_isHere, .ref m_round, .ref m_bestRound, .int 0, .int 0, .long 0, .long 0, .ref m_taken, .int 0])), (m_width, .inl (k_width, 4, .inl fw))] s.heap.size = A at hD ⊢
  have hA : ∀ q : Nat, s.heap.size ≤ q → A q := fun q h => by rw [← hAe]; exact Or.inr h
  have hS : va_S A s.heap s.heap [] := va_S.rf
  have hP : va_P (dC, dI) vwCl [(h0, .inr (7, [.int 0, .ref m_width, .ref m_many, .ref m_cells, .ref m_moved, .ref m_tape, .int 0, .int 0, .int 0, .int 0, .int 0, .long 0, .int 0, .int 0, .int 0, .int (-1), .ref m_lines, .ref m_has, .ref m_state, .ref m_gate, .ref m_guest, .ref m_gone, .int 0, .ref m_isKept, .ref m_first, .ref m_second, .int 0, .ref m_far, .ref m_wished, .ref m_wasState, .ref m_isHere, .ref m_round, .ref m_bestRound, .int 0, .int 0, .long 0, .long 0, .ref m_taken, .int 0])), (m_width, .inl (k_width, 4, .inl fw))] s.heap := hP
  have hl := lv_entry ([.ref h0, .int p0, .int p1, .long p2]) (n := 5) (Nat.le_of_ble_eq_true rfl)
  rw [lg_entry_eq]
  generalize (lg_sl ([.ref h0, .int p0, .int p1, .long p2]) ++ List.replicate (5 - (lg_sl ([.ref h0, .int p0, .int p1, .long p2])).length) Slot.unset).toArray = ls at hl ⊢
  have hl : lv_has ls 5 [(0, .ref h0), (1, .int p0), (2, .int p1), (3, .long p2)] := hl
  refine lv_aload_n hx hb dX7_write_0 rfl (lv_at hl 0 rfl) ?_
  refine lv_iconst (v := 0) hx hb dX7_write_1 (by decide) ?_
  refine va_put (D := (dC, dI)) (ci := 7) (v := .int 0) (ty := .int) (C := RX7) (T := TX7) (N := 39) hx hb hts in_X7_write_X7 tyX7 tyX7_ok nmX7 hown hK hP hD hS 0 rfl rfl 0 (by decide) (hts _ wd_X7_write_0) (fun _ h9 => h9) rfl (by decide +kernel) rfl rfl (Nat.le_of_ble_eq_true rfl) dX7_write_2 (fun H locs hP hD hS => ?_)
  have hP : va_P (dC, dI) vwCl [(h0, .inr (7, [.int 0, .ref m_width, .ref m_many, .ref m_cells, .ref m_moved, .ref m_tape, .int 0, .int 0, .int 0, .int 0, .int 0, .long 0, .int 0, .int 0, .int 0, .int (-1), .ref m_lines, .ref m_has, .ref m_state, .ref m_gate, .ref m_guest, .ref m_gone, .int 0, .ref m_isKept, .ref m_first, .ref m_second, .int 0, .ref m_far, .ref m_wished, .ref m_wasState, .ref m_isHere, .ref m_round, .ref m_bestRound, .int 0, .int 0, .long 0, .long 0, .ref m_taken, .int 0])), (m_width, .inl (k_width, 4, .inl fw))] H := hP
  have hD : va_D A [(h0, .inr (7, [.int 0, .ref m_width, .ref m_many, .ref m_cells, .ref m_moved, .ref m_tape, .int 0, .int 0, .int 0, .int 0, .int 0, .long 0, .int 0, .int 0, .int 0, .int (-1), .ref m_lines, .ref m_has, .ref m_state, .ref m_gate, .ref m_guest, .ref m_gone, .int 0, .ref m_isKept, .ref m_first, .ref m_second, .int 0, .ref m_far, .ref m_wished, .ref m_wasState, .ref m_isHere, .ref m_round, .ref m_bestRound, .int 0, .int 0, .long 0, .long 0, .ref m_taken, .int 0])), (m_width, .inl (k_width, 4, .inl fw))] := hD
  refine lv_iload_n hx hb dX7_write_5 rfl (lv_at hl 1 rfl) ?_
  have hPc := hP.sub (ws' := []) [] rfl
  have hDc := hD.sub (ws' := []) [] (by decide) rfl
  have hKc := hK.sub (tys' := []) [] rfl
  have hFc := va_free (wc := []) hD hS hA [] rfl
  refine va_calli (va_runS (As := [.int p0]) (rest := []) ⟨hx, hb, hml, hown, hts⟩ (c_X7_isSlot l dC dI H.size p0 ) (va_cwS 1 hts g_X7_write_X7_isSlot rfl rfl rfl (by decide +kernel) ⟨Nat.le_of_ble_eq_true rfl, Nat.le_of_ble_eq_true rfl⟩) ⟨fun a U g mk q => by obtain ⟨q0, q1, qP, qK, qD⟩ := q; exact ⟨q0, q1, qP, va_K.moved (u := U) (U := U.calling g mk a) (Vm.Alike.refl U.vm) qK, qD⟩, fun U hU hW => ⟨rfl, by rw [hU], by rw [hU]; exact hPc, va_K.moved hW.alike hKc, hDc.weaken (fun _ _ _ _ => trivial)⟩⟩ rfl rfl hl.1 rfl (lv_room (Nat.le_of_ble_eq_true rfl)) dX7_write_6 ⟨Nat.le_of_ble_eq_true rfl, Nat.le_of_ble_eq_true rfl⟩) hS (fun q _ h => hFc q h) hFc (fun r_1 u t H1 locs ht hvm hw_2 hB hz1 hk1 hS => ?_)
  have hP1 : va_P (dC, dI) vwCl [] H1 := i_nilP
  have hD1 : va_D (va_A [] H.size) [] := i_nilD
  try dsimp only at hw_2
  obtain ⟨hP, hD⟩ := va_join (wr := [(h0, .inr (7, [.int 0, .ref m_width, .ref m_many, .ref m_cells, .ref m_moved, .ref m_tape, .int 0, .int 0, .int 0, .int 0, .int 0, .long 0, .int 0, .int 0, .int 0, .int (-1), .ref m_lines, .ref m_has, .ref m_state, .ref m_gate, .ref m_guest, .ref m_gone, .int 0, .ref m_isKept, .ref m_first, .ref m_second, .int 0, .ref m_far, .ref m_wished, .ref m_wasState, .ref m_isHere, .ref m_round, .ref m_bestRound, .int 0, .int 0, .long 0, .long 0, .ref m_taken, .int 0])), (m_width, .inl (k_width, 4, .inl fw))]) (w1 := []) hP hD [] [0, 1] rfl rfl (by decide) (by decide) hk1 hFc hP1 hD1
  generalize H1 = H at hP hS ⊢
  have hP : va_P (dC, dI) vwCl [(h0, .inr (7, [.int 0, .ref m_width, .ref m_many, .ref m_cells, .ref m_moved, .ref m_tape, .int 0, .int 0, .int 0, .int 0, .int 0, .long 0, .int 0, .int 0, .int 0, .int (-1), .ref m_lines, .ref m_has, .ref m_state, .ref m_gate, .ref m_guest, .ref m_gone, .int 0, .ref m_isKept, .ref m_first, .ref m_second, .int 0, .ref m_far, .ref m_wished, .ref m_wasState, .ref m_isHere, .ref m_round, .ref m_bestRound, .int 0, .int 0, .long 0, .long 0, .ref m_taken, .int 0])), (m_width, .inl (k_width, 4, .inl fw))] H := hP
  have hD : va_D A [(h0, .inr (7, [.int 0, .ref m_width, .ref m_many, .ref m_cells, .ref m_moved, .ref m_tape, .int 0, .int 0, .int 0, .int 0, .int 0, .long 0, .int 0, .int 0, .int 0, .int (-1), .ref m_lines, .ref m_has, .ref m_state, .ref m_gate, .ref m_guest, .ref m_gone, .int 0, .ref m_isKept, .ref m_first, .ref m_second, .int 0, .ref m_far, .ref m_wished, .ref m_wasState, .ref m_isHere, .ref m_round, .ref m_bestRound, .int 0, .int 0, .long 0, .long 0, .ref m_taken, .int 0])), (m_width, .inl (k_width, 4, .inl fw))] := hD
  rcases i_bool hw_2 with ⟨r_19, hC⟩ | ⟨r_19, hC⟩
  · obtain rfl : r_1 = 1 := r_19
    have hC_3 := hC
    refine lv_if_ne (tgt := 15) hx hb dX7_write_9 (by decide) (fun _ => ?_) (fun h => absurd h (by decide))
    rcases (i_four (a := p0) (by omega) (by omega) : p0 = 0 ∨ p0 = 1 ∨ p0 = 2 ∨ p0 = 3) with rfl | rfl | rfl | rfl
    · refine lv_aload_n hx hb dX7_write_15 rfl (lv_at hl 0 rfl) ?_
      refine va_get (D := (dC, dI)) (ci := 7) (v := .ref m_width) (C := RX7) (T := TX7) (N := 39) hx hb hts in_X7_write_X7 hown hK hP 0 rfl rfl 1 (by decide) (hts _ wd_X7_write_1) (fun _ h9 => h9) rfl dX7_write_16 ?_
      refine lv_iload_n hx hb dX7_write_19 rfl (lv_at hl 1 rfl) ?_
      refine va_iald hx hb hK hP 1 0 rfl rfl (vp_in_iff.mpr ⟨by decide, by decide⟩) dX7_write_20 ?_
      refine lv_topi (fun z_5 ez_5 => ?_)
      obtain rfl : z_5 = -1 := ez_5.trans (show fw (0 : Int32).toNatClampNeg = -1 from hf0)
      refine lv_iconst (v := -1) hx hb dX7_write_21 (by decide) ?_
      refine lv_icmp_ne (tgt := 28) hx hb dX7_write_22 (by decide) (fun h => absurd (by decide) h) (fun _ => ?_)
      refine lv_bipush (v := -6) hx hb dX7_write_25 (by decide) ?_
      refine W.widen (k := 0) (n := 0) (by omega) (by omega) ?_
      exact W.iret (v := -6) hx hb hr (fun t ht hW => ⟨⟨(-6), (), rfl, (by first | rfl | ((repeat' split) <;> (first | rfl | (exfalso; omega)))), trivial⟩, hS.F ht⟩) hS.2.2 dX7_write_27
    · refine lv_aload_n hx hb dX7_write_15 rfl (lv_at hl 0 rfl) ?_
      refine va_get (D := (dC, dI)) (ci := 7) (v := .ref m_width) (C := RX7) (T := TX7) (N := 39) hx hb hts in_X7_write_X7 hown hK hP 0 rfl rfl 1 (by decide) (hts _ wd_X7_write_1) (fun _ h9 => h9) rfl dX7_write_16 ?_
      refine lv_iload_n hx hb dX7_write_19 rfl (lv_at hl 1 rfl) ?_
      refine va_iald hx hb hK hP 1 0 rfl rfl (vp_in_iff.mpr ⟨by decide, by decide⟩) dX7_write_20 ?_
      refine lv_topi (fun z_7 ez_7 => ?_)
      obtain rfl : z_7 = -1 := ez_7.trans (show fw (1 : Int32).toNatClampNeg = -1 from hf1)
      refine lv_iconst (v := -1) hx hb dX7_write_21 (by decide) ?_
      refine lv_icmp_ne (tgt := 28) hx hb dX7_write_22 (by decide) (fun h => absurd (by decide) h) (fun _ => ?_)
      refine lv_bipush (v := -6) hx hb dX7_write_25 (by decide) ?_
      refine W.widen (k := 0) (n := 0) (by omega) (by omega) ?_
      exact W.iret (v := -6) hx hb hr (fun t ht hW => ⟨⟨(-6), (), rfl, (by first | rfl | ((repeat' split) <;> (first | rfl | (exfalso; omega)))), trivial⟩, hS.F ht⟩) hS.2.2 dX7_write_27
    · refine lv_aload_n hx hb dX7_write_15 rfl (lv_at hl 0 rfl) ?_
      refine va_get (D := (dC, dI)) (ci := 7) (v := .ref m_width) (C := RX7) (T := TX7) (N := 39) hx hb hts in_X7_write_X7 hown hK hP 0 rfl rfl 1 (by decide) (hts _ wd_X7_write_1) (fun _ h9 => h9) rfl dX7_write_16 ?_
      refine lv_iload_n hx hb dX7_write_19 rfl (lv_at hl 1 rfl) ?_
      refine va_iald hx hb hK hP 1 0 rfl rfl (vp_in_iff.mpr ⟨by decide, by decide⟩) dX7_write_20 ?_
      refine lv_topi (fun z_9 ez_9 => ?_)
      obtain rfl : z_9 = -1 := ez_9.trans (show fw (2 : Int32).toNatClampNeg = -1 from hf2)
      refine lv_iconst (v := -1) hx hb dX7_write_21 (by decide) ?_
      refine lv_icmp_ne (tgt := 28) hx hb dX7_write_22 (by decide) (fun h => absurd (by decide) h) (fun _ => ?_)
      refine lv_bipush (v := -6) hx hb dX7_write_25 (by decide) ?_
      refine W.widen (k := 0) (n := 0) (by omega) (by omega) ?_
      exact W.iret (v := -6) hx hb hr (fun t ht hW => ⟨⟨(-6), (), rfl, (by first | rfl | ((repeat' split) <;> (first | rfl | (exfalso; omega)))), trivial⟩, hS.F ht⟩) hS.2.2 dX7_write_27
    · refine lv_aload_n hx hb dX7_write_15 rfl (lv_at hl 0 rfl) ?_
      refine va_get (D := (dC, dI)) (ci := 7) (v := .ref m_width) (C := RX7) (T := TX7) (N := 39) hx hb hts in_X7_write_X7 hown hK hP 0 rfl rfl 1 (by decide) (hts _ wd_X7_write_1) (fun _ h9 => h9) rfl dX7_write_16 ?_
      refine lv_iload_n hx hb dX7_write_19 rfl (lv_at hl 1 rfl) ?_
      refine va_iald hx hb hK hP 1 0 rfl rfl (vp_in_iff.mpr ⟨by decide, by decide⟩) dX7_write_20 ?_
      refine lv_topi (fun z_11 ez_11 => ?_)
      obtain rfl : z_11 = -1 := ez_11.trans (show fw (3 : Int32).toNatClampNeg = -1 from hf3)
      refine lv_iconst (v := -1) hx hb dX7_write_21 (by decide) ?_
      refine lv_icmp_ne (tgt := 28) hx hb dX7_write_22 (by decide) (fun h => absurd (by decide) h) (fun _ => ?_)
      refine lv_bipush (v := -6) hx hb dX7_write_25 (by decide) ?_
      refine W.widen (k := 0) (n := 0) (by omega) (by omega) ?_
      exact W.iret (v := -6) hx hb hr (fun t ht hW => ⟨⟨(-6), (), rfl, (by first | rfl | ((repeat' split) <;> (first | rfl | (exfalso; omega)))), trivial⟩, hS.F ht⟩) hS.2.2 dX7_write_27
  · obtain rfl : r_1 = 0 := r_19
    have hC_13 := hC
    refine lv_if_ne (tgt := 15) hx hb dX7_write_9 (by decide) (fun h => absurd (by decide) h) (fun _ => ?_)
    refine lv_bipush (v := -2) hx hb dX7_write_12 (by decide) ?_
    refine W.widen (k := 0) (n := 0) (by omega) (by omega) ?_
    exact W.iret (v := -2) hx hb hr (fun t ht hW => ⟨⟨(-2), (), rfl, (by first | rfl | ((repeat' split) <;> (first | rfl | (exfalso; omega)))), trivial⟩, hS.F ht⟩) hS.2.2 dX7_write_14

theorem dX7_paste_0 : decode cX7_paste 0 = .ok (.aload_n 0, 1) := by decide +kernel
theorem dX7_paste_1 : decode cX7_paste 1 = .ok (.iconst 0, 1) := by decide +kernel
theorem dX7_paste_2 : decode cX7_paste 2 = .ok (.putfield 80, 3) := by decide +kernel
theorem dX7_paste_5 : decode cX7_paste 5 = .ok (.iload_n 1, 1) := by decide +kernel
theorem dX7_paste_6 : decode cX7_paste 6 = .ok (.invokestatic 89, 3) := by decide +kernel
theorem dX7_paste_9 : decode cX7_paste 9 = .ok (.ifCond .eq 10, 3) := by decide +kernel
theorem dX7_paste_12 : decode cX7_paste 12 = .ok (.iload_n 3, 1) := by decide +kernel
theorem dX7_paste_13 : decode cX7_paste 13 = .ok (.invokestatic 89, 3) := by decide +kernel
theorem dX7_paste_16 : decode cX7_paste 16 = .ok (.ifCond .ne 6, 3) := by decide +kernel
theorem dX7_paste_19 : decode cX7_paste 19 = .ok (.bipush (-2), 2) := by decide +kernel
theorem dX7_paste_21 : decode cX7_paste 21 = .ok (.ireturn, 1) := by decide +kernel
theorem dX7_paste_22 : decode cX7_paste 22 = .ok (.aload_n 0, 1) := by decide +kernel
theorem dX7_paste_23 : decode cX7_paste 23 = .ok (.getfield 7, 3) := by decide +kernel
theorem dX7_paste_26 : decode cX7_paste 26 = .ok (.iload_n 1, 1) := by decide +kernel
theorem dX7_paste_27 : decode cX7_paste 27 = .ok (.iaload, 1) := by decide +kernel
theorem dX7_paste_28 : decode cX7_paste 28 = .ok (.iconst (-1), 1) := by decide +kernel
theorem dX7_paste_29 : decode cX7_paste 29 = .ok (.if_icmp .eq 13, 3) := by decide +kernel
theorem dX7_paste_42 : decode cX7_paste 42 = .ok (.bipush (-6), 2) := by decide +kernel
theorem dX7_paste_44 : decode cX7_paste 44 = .ok (.ireturn, 1) := by decide +kernel
def wz_X7_paste : List Cond := .code yX7_paste cX7_paste 7 (some .int) :: ([Cond.fieldLink RX7 80 "HedgeMazeModel" "thrown" "I", Cond.fieldLink RX7 7 "HedgeMazeModel" "width" "[I", Cond.methodLink RX7 89 yX7_isSlot, Cond.static yX7_isSlot, Cond.initialized RX7, Cond.code yX7_isSlot cX7_isSlot 1 (some .boolean), Cond.constantLong RX7 83 (3), Cond.methodLink RX7 85 yX7_in, Cond.static yX7_in, Cond.code yX7_in cX7_in 6 (some .boolean)] ++ wsX70)
theorem wd_X7_paste_0 : Cond.fieldLink RX7 80 "HedgeMazeModel" "thrown" "I" ∈ wz_X7_paste := List.mem_of_getElem? (i := 1) rfl
theorem wd_X7_paste_1 : Cond.fieldLink RX7 7 "HedgeMazeModel" "width" "[I" ∈ wz_X7_paste := List.mem_of_getElem? (i := 2) rfl
theorem in_X7_paste_X7 : ∀ w ∈ wsX70, w ∈ wz_X7_paste := fun _ h => List.mem_cons_of_mem _ (List.mem_append_right _ h)
set_option maxRecDepth 20000 in
theorem g_X7_paste_X7_isSlot : GoodIn wz_X7_paste (va_wsS RX7 89 yX7_isSlot wz_X7_isSlot) := goodIn_r _ [3, 4, 5, 6, 7, 8, 9, 5, 10] rfl (by decide +kernel)
set_option maxHeartbeats 4000000 in
set_option maxRecDepth 100000 in
theorem c_X7_paste (l : Launch) (dC : Nat → ClassId) (dI : Nat → Nat → Nat) (sz : Nat) (h0 : Nat) (m_width : Nat) (m_many : Nat) (m_cells : Nat) (m_moved : Nat) (m_tape : Nat) (m_lines : Nat) (m_has : Nat) (m_state : Nat) (m_gate : Nat) (m_guest : Nat) (m_gone : Nat) (m_isKept : Nat) (m_first : Nat) (m_second : Nat) (m_far : Nat) (m_wished : Nat) (m_wasState : Nat) (m_isHere : Nat) (m_round : Nat) (m_bestRound : Nat) (m_taken : Nat) (k_width : ClassId) (fw : Nat → Int32) (p0 : Int32) (p1 : Int32) (p2 : Int32) (p3 : Int32) (p4 : Int32) (hf0 : fw 0 = -1) (hf1 : fw 1 = -1) (hf2 : fw 2 = -1) (hf3 : fw 3 = -1) : Met l yX7_paste wz_X7_paste ({ frames := 2, cells := 0, slots := 0, locals := 45 }) (va_Pc [.ref h0, .int p0, .int p1, .int p2, .int p3, .int p4] (fun U => U.heap.size = sz ∧ va_P (dC, dI) vwCl [(h0, .inr (7, [.int 0, .ref m_width, .ref m_many, .ref m_cells, .ref m_moved, .ref m_tape, .int 0, .int 0, .int 0, .int 0, .int 0, .long 0, .int 0, .int 0, .int 0, .int (-1), .ref m_lines, .ref m_has, .ref m_state, .ref m_gate, .ref m_guest, .ref m_gone, .int 0, .ref m_isKept, .ref m_first, .ref m_second, .int 0, .ref m_far, .ref m_wished, .ref m_wasState, .ref m_isHere, .ref m_round, .ref m_bestRound, .int 0, .int 0, .long 0, .long 0, .ref m_taken, .int 0])), (m_width, .inl (k_width, 4, .inl fw))] U.heap ∧ va_K (dC, dI) vwCl [(k_width, .int)] U ∧ va_D (fun _ => True) [(h0, .inr (7, [.int 0, .ref m_width, .ref m_many, .ref m_cells, .ref m_moved, .ref m_tape, .int 0, .int 0, .int 0, .int 0, .int 0, .long 0, .int 0, .int 0, .int 0, .int (-1), .ref m_lines, .ref m_has, .ref m_state, .ref m_gate, .ref m_guest, .ref m_gone, .int 0, .ref m_isKept, .ref m_first, .ref m_second, .int 0, .ref m_far, .ref m_wished, .ref m_wasState, .ref m_isHere, .ref m_round, .ref m_bestRound, .int 0, .int 0, .long 0, .long 0, .ref m_taken, .int 0])), (m_width, .inl (k_width, 4, .inl fw))])) (va_Qi (fun (r : Int32) (u : Unit) => r = if (0 ≤ p0.toInt ∧ p0.toInt ≤ 3) ∧ (0 ≤ p2.toInt ∧ p2.toInt ≤ 3) then -6 else -2) (fun (_ : Unit) (_ : State) => True) (va_A [(h0, .inr (7, [.int 0, .ref m_width, .ref m_many, .ref m_cells, .ref m_moved, .ref m_tape, .int 0, .int 0, .int 0, .int 0, .int 0, .long 0, .int 0, .int 0, .int 0, .int (-1), .ref m_lines, .ref m_has, .ref m_state, .ref m_gate, .ref m_guest, .ref m_gone, .int 0, .ref m_isKept, .ref m_first, .ref m_second, .int 0, .ref m_far, .ref m_wished, .ref m_wasState, .ref m_isHere, .ref m_round, .ref m_bestRound, .int 0, .int 0, .long 0, .long 0, .ref m_taken, .int 0])), (m_width, .inl (k_width, 4, .inl fw))] sz)) 0 0 (va_A [(h0, .inr (7, [.int 0, .ref m_width, .ref m_many, .ref m_cells, .ref m_moved, .ref m_tape, .int 0, .int 0, .int 0, .int 0, .int 0, .long 0, .int 0, .int 0, .int 0, .int (-1), .ref m_lines, .ref m_has, .ref m_state, .ref m_gate, .ref m_guest, .ref m_gone, .int 0, .ref m_isKept, .ref m_first, .ref m_second, .int 0, .ref m_far, .ref m_wished, .ref m_wasState, .ref m_isHere, .ref m_round, .ref m_bestRound, .int 0, .int 0, .long 0, .long 0, .ref m_taken, .int 0])), (m_width, .inl (k_width, 4, .inl fw))] sz) := by
  refine Met.ofW (cc := cX7_paste) (maxL := 7) (ret := (some .int)) (by decide) rfl ?_
  intro p e s m args below meth c s₁ B hml hv
  obtain ⟨rfl, hsz, hP, hK, hD0⟩ := hv
  have hx := B.exec
  have hb := B.bytes
  have hr := B.returns
  have hts := atoms_spec (ws := wz_X7_paste) B.pre
  have hown : s.vm.findClass RX7 = some m.cls := findClass_of_methodNamed B.named
  have hlocks := B.notSynchronized
  subst hsz
  have hD := hD0.self (sz := s.heap.size)
  generalize hAe : va_A [(h0, .inr (7, [.int 0, .ref m_width, .ref m_many, .ref m_cells, .ref m_moved, .ref m_tape, .int 0, .int 0, .int 0, .int 0, .int 0, .long 0, .int 0, .int 0, .int 0, .int (-1), .ref m_lines, .ref m_has, .ref m_state, .ref m_gate, .ref m_guest, .ref m_gone, .int 0, .ref m_isKept, .ref m_first, .ref m_second, .int 0, .ref m_far, .ref m_wished, .ref m_wasState, .ref m_isHere, .ref m_round, .ref m_bestRound, .int 0, .int 0, .long 0, .long 0, .ref m_taken, .int 0])), (m_width, .inl (k_width, 4, .inl fw))] s.heap.size = A at hD ⊢
  have hA : ∀ q : Nat, s.heap.size ≤ q → A q := fun q h => by rw [← hAe]; exact Or.inr h
  have hS : va_S A s.heap s.heap [] := va_S.rf
  have hP : va_P (dC, dI) vwCl [(h0, .inr (7, [.int 0, .ref m_width, .ref m_many, .ref m_cells, .ref m_moved, .ref m_tape, .int 0, .int 0, .int 0, .int 0, .int 0, .long 0, .int 0, .int 0, .int 0, .int (-1), .ref m_lines, .ref m_has, .ref m_state, .ref m_gate, .ref m_guest, .ref m_gone, .int 0, .ref m_isKept, .ref m_first, .ref m_second, .int 0, .ref m_far, .ref m_wished, .ref m_wasState, .ref m_isHere, .ref m_round, .ref m_bestRound, .int 0, .int 0, .long 0, .long 0, .ref m_taken, .int 0])), (m_width, .inl (k_width, 4, .inl fw))] s.heap := hP
  have hl := lv_entry ([.ref h0, .int p0, .int p1, .int p2, .int p3, .int p4]) (n := 7) (Nat.le_of_ble_eq_true rfl)
  rw [lg_entry_eq]
  generalize (lg_sl ([.ref h0, .int p0, .int p1, .int p2, .int p3, .int p4]) ++ List.replicate (7 - (lg_sl ([.ref h0, .int p0, .int p1, .int p2, .int p3, .int p4])).length) Slot.unset).toArray = ls at hl ⊢
  have hl : lv_has ls 7 [(0, .ref h0), (1, .int p0), (2, .int p1), (3, .int p2), (4, .int p3), (5, .int p4)] := hl
  refine lv_aload_n hx hb dX7_paste_0 rfl (lv_at hl 0 rfl) ?_
  refine lv_iconst (v := 0) hx hb dX7_paste_1 (by decide) ?_
  refine va_put (D := (dC, dI)) (ci := 7) (v := .int 0) (ty := .int) (C := RX7) (T := TX7) (N := 39) hx hb hts in_X7_paste_X7 tyX7 tyX7_ok nmX7 hown hK hP hD hS 0 rfl rfl 0 (by decide) (hts _ wd_X7_paste_0) (fun _ h9 => h9) rfl (by decide +kernel) rfl rfl (Nat.le_of_ble_eq_true rfl) dX7_paste_2 (fun H locs hP hD hS => ?_)
  have hP : va_P (dC, dI) vwCl [(h0, .inr (7, [.int 0, .ref m_width, .ref m_many, .ref m_cells, .ref m_moved, .ref m_tape, .int 0, .int 0, .int 0, .int 0, .int 0, .long 0, .int 0, .int 0, .int 0, .int (-1), .ref m_lines, .ref m_has, .ref m_state, .ref m_gate, .ref m_guest, .ref m_gone, .int 0, .ref m_isKept, .ref m_first, .ref m_second, .int 0, .ref m_far, .ref m_wished, .ref m_wasState, .ref m_isHere, .ref m_round, .ref m_bestRound, .int 0, .int 0, .long 0, .long 0, .ref m_taken, .int 0])), (m_width, .inl (k_width, 4, .inl fw))] H := hP
  have hD : va_D A [(h0, .inr (7, [.int 0, .ref m_width, .ref m_many, .ref m_cells, .ref m_moved, .ref m_tape, .int 0, .int 0, .int 0, .int 0, .int 0, .long 0, .int 0, .int 0, .int 0, .int (-1), .ref m_lines, .ref m_has, .ref m_state, .ref m_gate, .ref m_guest, .ref m_gone, .int 0, .ref m_isKept, .ref m_first, .ref m_second, .int 0, .ref m_far, .ref m_wished, .ref m_wasState, .ref m_isHere, .ref m_round, .ref m_bestRound, .int 0, .int 0, .long 0, .long 0, .ref m_taken, .int 0])), (m_width, .inl (k_width, 4, .inl fw))] := hD
  refine lv_iload_n hx hb dX7_paste_5 rfl (lv_at hl 1 rfl) ?_
  have hPc := hP.sub (ws' := []) [] rfl
  have hDc := hD.sub (ws' := []) [] (by decide) rfl
  have hKc := hK.sub (tys' := []) [] rfl
  have hFc := va_free (wc := []) hD hS hA [] rfl
  refine va_calli (va_runS (As := [.int p0]) (rest := []) ⟨hx, hb, hml, hown, hts⟩ (c_X7_isSlot l dC dI H.size p0 ) (va_cwS 1 hts g_X7_paste_X7_isSlot rfl rfl rfl (by decide +kernel) ⟨Nat.le_of_ble_eq_true rfl, Nat.le_of_ble_eq_true rfl⟩) ⟨fun a U g mk q => by obtain ⟨q0, q1, qP, qK, qD⟩ := q; exact ⟨q0, q1, qP, va_K.moved (u := U) (U := U.calling g mk a) (Vm.Alike.refl U.vm) qK, qD⟩, fun U hU hW => ⟨rfl, by rw [hU], by rw [hU]; exact hPc, va_K.moved hW.alike hKc, hDc.weaken (fun _ _ _ _ => trivial)⟩⟩ rfl rfl hl.1 rfl (lv_room (Nat.le_of_ble_eq_true rfl)) dX7_paste_6 ⟨Nat.le_of_ble_eq_true rfl, Nat.le_of_ble_eq_true rfl⟩) hS (fun q _ h => hFc q h) hFc (fun r_1 u t H1 locs ht hvm hw_2 hB hz1 hk1 hS => ?_)
  have hP1 : va_P (dC, dI) vwCl [] H1 := i_nilP
  have hD1 : va_D (va_A [] H.size) [] := i_nilD
  try dsimp only at hw_2
  obtain ⟨hP, hD⟩ := va_join (wr := [(h0, .inr (7, [.int 0, .ref m_width, .ref m_many, .ref m_cells, .ref m_moved, .ref m_tape, .int 0, .int 0, .int 0, .int 0, .int 0, .long 0, .int 0, .int 0, .int 0, .int (-1), .ref m_lines, .ref m_has, .ref m_state, .ref m_gate, .ref m_guest, .ref m_gone, .int 0, .ref m_isKept, .ref m_first, .ref m_second, .int 0, .ref m_far, .ref m_wished, .ref m_wasState, .ref m_isHere, .ref m_round, .ref m_bestRound, .int 0, .int 0, .long 0, .long 0, .ref m_taken, .int 0])), (m_width, .inl (k_width, 4, .inl fw))]) (w1 := []) hP hD [] [0, 1] rfl rfl (by decide) (by decide) hk1 hFc hP1 hD1
  generalize H1 = H at hP hS ⊢
  have hP : va_P (dC, dI) vwCl [(h0, .inr (7, [.int 0, .ref m_width, .ref m_many, .ref m_cells, .ref m_moved, .ref m_tape, .int 0, .int 0, .int 0, .int 0, .int 0, .long 0, .int 0, .int 0, .int 0, .int (-1), .ref m_lines, .ref m_has, .ref m_state, .ref m_gate, .ref m_guest, .ref m_gone, .int 0, .ref m_isKept, .ref m_first, .ref m_second, .int 0, .ref m_far, .ref m_wished, .ref m_wasState, .ref m_isHere, .ref m_round, .ref m_bestRound, .int 0, .int 0, .long 0, .long 0, .ref m_taken, .int 0])), (m_width, .inl (k_width, 4, .inl fw))] H := hP
  have hD : va_D A [(h0, .inr (7, [.int 0, .ref m_width, .ref m_many, .ref m_cells, .ref m_moved, .ref m_tape, .int 0, .int 0, .int 0, .int 0, .int 0, .long 0, .int 0, .int 0, .int 0, .int (-1), .ref m_lines, .ref m_has, .ref m_state, .ref m_gate, .ref m_guest, .ref m_gone, .int 0, .ref m_isKept, .ref m_first, .ref m_second, .int 0, .ref m_far, .ref m_wished, .ref m_wasState, .ref m_isHere, .ref m_round, .ref m_bestRound, .int 0, .int 0, .long 0, .long 0, .ref m_taken, .int 0])), (m_width, .inl (k_width, 4, .inl fw))] := hD
  rcases i_bool hw_2 with ⟨r_19, hC⟩ | ⟨r_19, hC⟩
  · obtain rfl : r_1 = 1 := r_19
    have hC_3 := hC
    refine lv_if_eq (tgt := 19) hx hb dX7_paste_9 (by decide) (fun h => absurd h (by decide)) (fun _ => ?_)
    refine lv_iload_n hx hb dX7_paste_12 rfl (lv_at hl 3 rfl) ?_
    have hPc := hP.sub (ws' := []) [] rfl
    have hDc := hD.sub (ws' := []) [] (by decide) rfl
    have hKc := hK.sub (tys' := []) [] rfl
    have hFc := va_free (wc := []) hD hS hA [] rfl
    refine va_calli (va_runS (As := [.int p2]) (rest := []) ⟨hx, hb, hml, hown, hts⟩ (c_X7_isSlot l dC dI H.size p2 ) (va_cwS 1 hts g_X7_paste_X7_isSlot rfl rfl rfl (by decide +kernel) ⟨Nat.le_of_ble_eq_true rfl, Nat.le_of_ble_eq_true rfl⟩) ⟨fun a U g mk q => by obtain ⟨q0, q1, qP, qK, qD⟩ := q; exact ⟨q0, q1, qP, va_K.moved (u := U) (U := U.calling g mk a) (Vm.Alike.refl U.vm) qK, qD⟩, fun U hU hW => ⟨rfl, by rw [hU], by rw [hU]; exact hPc, va_K.moved hW.alike hKc, hDc.weaken (fun _ _ _ _ => trivial)⟩⟩ rfl rfl hl.1 rfl (lv_room (Nat.le_of_ble_eq_true rfl)) dX7_paste_13 ⟨Nat.le_of_ble_eq_true rfl, Nat.le_of_ble_eq_true rfl⟩) hS (fun q _ h => hFc q h) hFc (fun r_5 u t H1 locs ht hvm hw_6 hB hz1 hk1 hS => ?_)
    have hP1 : va_P (dC, dI) vwCl [] H1 := i_nilP
    have hD1 : va_D (va_A [] H.size) [] := i_nilD
    try dsimp only at hw_6
    obtain ⟨hP, hD⟩ := va_join (wr := [(h0, .inr (7, [.int 0, .ref m_width, .ref m_many, .ref m_cells, .ref m_moved, .ref m_tape, .int 0, .int 0, .int 0, .int 0, .int 0, .long 0, .int 0, .int 0, .int 0, .int (-1), .ref m_lines, .ref m_has, .ref m_state, .ref m_gate, .ref m_guest, .ref m_gone, .int 0, .ref m_isKept, .ref m_first, .ref m_second, .int 0, .ref m_far, .ref m_wished, .ref m_wasState, .ref m_isHere, .ref m_round, .ref m_bestRound, .int 0, .int 0, .long 0, .long 0, .ref m_taken, .int 0])), (m_width, .inl (k_width, 4, .inl fw))]) (w1 := []) hP hD [] [0, 1] rfl rfl (by decide) (by decide) hk1 hFc hP1 hD1
    generalize H1 = H at hP hS ⊢
    have hP : va_P (dC, dI) vwCl [(h0, .inr (7, [.int 0, .ref m_width, .ref m_many, .ref m_cells, .ref m_moved, .ref m_tape, .int 0, .int 0, .int 0, .int 0, .int 0, .long 0, .int 0, .int 0, .int 0, .int (-1), .ref m_lines, .ref m_has, .ref m_state, .ref m_gate, .ref m_guest, .ref m_gone, .int 0, .ref m_isKept, .ref m_first, .ref m_second, .int 0, .ref m_far, .ref m_wished, .ref m_wasState, .ref m_isHere, .ref m_round, .ref m_bestRound, .int 0, .int 0, .long 0, .long 0, .ref m_taken, .int 0])), (m_width, .inl (k_width, 4, .inl fw))] H := hP
    have hD : va_D A [(h0, .inr (7, [.int 0, .ref m_width, .ref m_many, .ref m_cells, .ref m_moved, .ref m_tape, .int 0, .int 0, .int 0, .int 0, .int 0, .long 0, .int 0, .int 0, .int 0, .int (-1), .ref m_lines, .ref m_has, .ref m_state, .ref m_gate, .ref m_guest, .ref m_gone, .int 0, .ref m_isKept, .ref m_first, .ref m_second, .int 0, .ref m_far, .ref m_wished, .ref m_wasState, .ref m_isHere, .ref m_round, .ref m_bestRound, .int 0, .int 0, .long 0, .long 0, .ref m_taken, .int 0])), (m_width, .inl (k_width, 4, .inl fw))] := hD
    rcases i_bool hw_6 with ⟨r_59, hC⟩ | ⟨r_59, hC⟩
    · obtain rfl : r_5 = 1 := r_59
      have hC_7 := hC
      refine lv_if_ne (tgt := 22) hx hb dX7_paste_16 (by decide) (fun _ => ?_) (fun h => absurd h (by decide))
      rcases (i_four (a := p0) (by omega) (by omega) : p0 = 0 ∨ p0 = 1 ∨ p0 = 2 ∨ p0 = 3) with rfl | rfl | rfl | rfl
      · refine lv_aload_n hx hb dX7_paste_22 rfl (lv_at hl 0 rfl) ?_
        refine va_get (D := (dC, dI)) (ci := 7) (v := .ref m_width) (C := RX7) (T := TX7) (N := 39) hx hb hts in_X7_paste_X7 hown hK hP 0 rfl rfl 1 (by decide) (hts _ wd_X7_paste_1) (fun _ h9 => h9) rfl dX7_paste_23 ?_
        refine lv_iload_n hx hb dX7_paste_26 rfl (lv_at hl 1 rfl) ?_
        refine va_iald hx hb hK hP 1 0 rfl rfl (vp_in_iff.mpr ⟨by decide, by decide⟩) dX7_paste_27 ?_
        refine lv_topi (fun z_9 ez_9 => ?_)
        obtain rfl : z_9 = -1 := ez_9.trans (show fw (0 : Int32).toNatClampNeg = -1 from hf0)
        refine lv_iconst (v := -1) hx hb dX7_paste_28 (by decide) ?_
        refine lv_icmp_eq (tgt := 42) hx hb dX7_paste_29 (by decide) (fun _ => ?_) (fun h => absurd (by decide) h)
        refine lv_bipush (v := -6) hx hb dX7_paste_42 (by decide) ?_
        refine W.widen (k := 0) (n := 0) (by omega) (by omega) ?_
        exact W.iret (v := -6) hx hb hr (fun t ht hW => ⟨⟨(-6), (), rfl, (by first | rfl | ((repeat' split) <;> (first | rfl | (exfalso; omega)))), trivial⟩, hS.F ht⟩) hS.2.2 dX7_paste_44
      · refine lv_aload_n hx hb dX7_paste_22 rfl (lv_at hl 0 rfl) ?_
        refine va_get (D := (dC, dI)) (ci := 7) (v := .ref m_width) (C := RX7) (T := TX7) (N := 39) hx hb hts in_X7_paste_X7 hown hK hP 0 rfl rfl 1 (by decide) (hts _ wd_X7_paste_1) (fun _ h9 => h9) rfl dX7_paste_23 ?_
        refine lv_iload_n hx hb dX7_paste_26 rfl (lv_at hl 1 rfl) ?_
        refine va_iald hx hb hK hP 1 0 rfl rfl (vp_in_iff.mpr ⟨by decide, by decide⟩) dX7_paste_27 ?_
        refine lv_topi (fun z_11 ez_11 => ?_)
        obtain rfl : z_11 = -1 := ez_11.trans (show fw (1 : Int32).toNatClampNeg = -1 from hf1)
        refine lv_iconst (v := -1) hx hb dX7_paste_28 (by decide) ?_
        refine lv_icmp_eq (tgt := 42) hx hb dX7_paste_29 (by decide) (fun _ => ?_) (fun h => absurd (by decide) h)
        refine lv_bipush (v := -6) hx hb dX7_paste_42 (by decide) ?_
        refine W.widen (k := 0) (n := 0) (by omega) (by omega) ?_
        exact W.iret (v := -6) hx hb hr (fun t ht hW => ⟨⟨(-6), (), rfl, (by first | rfl | ((repeat' split) <;> (first | rfl | (exfalso; omega)))), trivial⟩, hS.F ht⟩) hS.2.2 dX7_paste_44
      · refine lv_aload_n hx hb dX7_paste_22 rfl (lv_at hl 0 rfl) ?_
        refine va_get (D := (dC, dI)) (ci := 7) (v := .ref m_width) (C := RX7) (T := TX7) (N := 39) hx hb hts in_X7_paste_X7 hown hK hP 0 rfl rfl 1 (by decide) (hts _ wd_X7_paste_1) (fun _ h9 => h9) rfl dX7_paste_23 ?_
        refine lv_iload_n hx hb dX7_paste_26 rfl (lv_at hl 1 rfl) ?_
        refine va_iald hx hb hK hP 1 0 rfl rfl (vp_in_iff.mpr ⟨by decide, by decide⟩) dX7_paste_27 ?_
        refine lv_topi (fun z_13 ez_13 => ?_)
        obtain rfl : z_13 = -1 := ez_13.trans (show fw (2 : Int32).toNatClampNeg = -1 from hf2)
        refine lv_iconst (v := -1) hx hb dX7_paste_28 (by decide) ?_
        refine lv_icmp_eq (tgt := 42) hx hb dX7_paste_29 (by decide) (fun _ => ?_) (fun h => absurd (by decide) h)
        refine lv_bipush (v := -6) hx hb dX7_paste_42 (by decide) ?_
        refine W.widen (k := 0) (n := 0) (by omega) (by omega) ?_
        exact W.iret (v := -6) hx hb hr (fun t ht hW => ⟨⟨(-6), (), rfl, (by first | rfl | ((repeat' split) <;> (first | rfl | (exfalso; omega)))), trivial⟩, hS.F ht⟩) hS.2.2 dX7_paste_44
      · refine lv_aload_n hx hb dX7_paste_22 rfl (lv_at hl 0 rfl) ?_
        refine va_get (D := (dC, dI)) (ci := 7) (v := .ref m_width) (C := RX7) (T := TX7) (N := 39) hx hb hts in_X7_paste_X7 hown hK hP 0 rfl rfl 1 (by decide) (hts _ wd_X7_paste_1) (fun _ h9 => h9) rfl dX7_paste_23 ?_
        refine lv_iload_n hx hb dX7_paste_26 rfl (lv_at hl 1 rfl) ?_
        refine va_iald hx hb hK hP 1 0 rfl rfl (vp_in_iff.mpr ⟨by decide, by decide⟩) dX7_paste_27 ?_
        refine lv_topi (fun z_15 ez_15 => ?_)
        obtain rfl : z_15 = -1 := ez_15.trans (show fw (3 : Int32).toNatClampNeg = -1 from hf3)
        refine lv_iconst (v := -1) hx hb dX7_paste_28 (by decide) ?_
        refine lv_icmp_eq (tgt := 42) hx hb dX7_paste_29 (by decide) (fun _ => ?_) (fun h => absurd (by decide) h)
        refine lv_bipush (v := -6) hx hb dX7_paste_42 (by decide) ?_
        refine W.widen (k := 0) (n := 0) (by omega) (by omega) ?_
        exact W.iret (v := -6) hx hb hr (fun t ht hW => ⟨⟨(-6), (), rfl, (by first | rfl | ((repeat' split) <;> (first | rfl | (exfalso; omega)))), trivial⟩, hS.F ht⟩) hS.2.2 dX7_paste_44
    · obtain rfl : r_5 = 0 := r_59
      have hC_17 := hC
      refine lv_if_ne (tgt := 22) hx hb dX7_paste_16 (by decide) (fun h => absurd (by decide) h) (fun _ => ?_)
      refine lv_bipush (v := -2) hx hb dX7_paste_19 (by decide) ?_
      refine W.widen (k := 0) (n := 0) (by omega) (by omega) ?_
      exact W.iret (v := -2) hx hb hr (fun t ht hW => ⟨⟨(-2), (), rfl, (by first | rfl | ((repeat' split) <;> (first | rfl | (exfalso; omega)))), trivial⟩, hS.F ht⟩) hS.2.2 dX7_paste_21
  · obtain rfl : r_1 = 0 := r_19
    have hC_19 := hC
    refine lv_if_eq (tgt := 19) hx hb dX7_paste_9 (by decide) (fun _ => ?_) (fun h => absurd (by decide) h)
    refine lv_bipush (v := -2) hx hb dX7_paste_19 (by decide) ?_
    refine W.widen (k := 0) (n := 0) (by omega) (by omega) ?_
    exact W.iret (v := -2) hx hb hr (fun t ht hW => ⟨⟨(-2), (), rfl, (by first | rfl | ((repeat' split) <;> (first | rfl | (exfalso; omega)))), trivial⟩, hS.F ht⟩) hS.2.2 dX7_paste_21

