theorem dX7_in_0 : decode cX7_in 0 = .ok (.lload_n 0, 1) := by decide +kernel
theorem dX7_in_1 : decode cX7_in 1 = .ok (.lload_n 2, 1) := by decide +kernel
theorem dX7_in_2 : decode cX7_in 2 = .ok (.lcmp, 1) := by decide +kernel
theorem dX7_in_3 : decode cX7_in 3 = .ok (.ifCond .lt 14, 3) := by decide +kernel
theorem dX7_in_6 : decode cX7_in 6 = .ok (.lload_n 0, 1) := by decide +kernel
theorem dX7_in_7 : decode cX7_in 7 = .ok (.lload 4, 2) := by decide +kernel
theorem dX7_in_9 : decode cX7_in 9 = .ok (.lcmp, 1) := by decide +kernel
theorem dX7_in_10 : decode cX7_in 10 = .ok (.ifCond .gt 7, 3) := by decide +kernel
theorem dX7_in_13 : decode cX7_in 13 = .ok (.iconst 1, 1) := by decide +kernel
theorem dX7_in_14 : decode cX7_in 14 = .ok (.goto 4, 3) := by decide +kernel
theorem dX7_in_17 : decode cX7_in 17 = .ok (.iconst 0, 1) := by decide +kernel
theorem dX7_in_18 : decode cX7_in 18 = .ok (.ireturn, 1) := by decide +kernel
def wz_X7_in : List Cond := .code yX7_in cX7_in 6 (some .boolean) :: ([])
set_option maxHeartbeats 4000000 in
set_option maxRecDepth 100000 in
theorem c_X7_in (l : Launch) (dC : Nat → ClassId) (dI : Nat → Nat → Nat) (sz : Nat) (v : Int64) (lo : Int64) (hi : Int64) (zv : Int) (zlo : Int) (zhi : Int) (hv : v.toInt = zv) (hlo : lo.toInt = zlo) (hhi : hi.toInt = zhi) : Met l yX7_in wz_X7_in ({ frames := 0, cells := 0, slots := 0, locals := 0 }) (va_Pc [.long v, .long lo, .long hi] (fun U => U.heap.size = sz ∧ va_P (dC, dI) vwCl [] U.heap ∧ va_K (dC, dI) vwCl [] U ∧ va_D (fun _ => True) [])) (va_Qi (fun (r : Int32) (u : Unit) => r = if zlo ≤ zv ∧ zv ≤ zhi then 1 else 0) (fun (_ : Unit) (_ : State) => True) (va_A [] sz)) 0 0 (va_A [] sz) := by
  refine Met.ofW (cc := cX7_in) (maxL := 6) (ret := (some .boolean)) (by decide) rfl ?_
  intro p e s m args below meth c s₁ B hml hv
  obtain ⟨rfl, hsz, hP, hK, hD0⟩ := hv
  have hx := B.exec
  have hb := B.bytes
  have hr := B.returns
  have hts := atoms_spec (ws := wz_X7_in) B.pre
  have hown : s.vm.findClass RX7 = some m.cls := findClass_of_methodNamed B.named
  have hlocks := B.notSynchronized
  subst hsz
  have hD := hD0.self (sz := s.heap.size)
  generalize hAe : va_A [] s.heap.size = A at hD ⊢
  have hA : ∀ q : Nat, s.heap.size ≤ q → A q := fun q h => by rw [← hAe]; exact Or.inr h
  have hS : va_S A s.heap s.heap [] := va_S.rf
  have hP : va_P (dC, dI) vwCl [] s.heap := hP
  have hl := lv_entry ([.long v, .long lo, .long hi]) (n := 6) (Nat.le_of_ble_eq_true rfl)
  rw [lg_entry_eq]
  generalize (lg_sl ([.long v, .long lo, .long hi]) ++ List.replicate (6 - (lg_sl ([.long v, .long lo, .long hi])).length) Slot.unset).toArray = ls at hl ⊢
  have hl : lv_has ls 6 [(0, .long v), (2, .long lo), (4, .long hi)] := hl
  refine lv_lload_n hx hb dX7_in_0 rfl (lv_at hl 0 rfl) ?_
  refine lv_lload_n hx hb dX7_in_1 rfl (lv_at hl 1 rfl) ?_
  refine W.lcmp hx hb dX7_in_2 ?_
  refine lv_if_lt (tgt := 17) hx hb dX7_in_3 (by decide) (fun c_1 => ?_) (fun c_1 => ?_)
  · have c_1 := (lg_cmp_lt v lo).mp c_1
    have c_1 : zv < zlo := i_ltL (a := v) (b := lo) hv hlo c_1
    refine lv_iconst (v := 0) hx hb dX7_in_17 (by decide) ?_
    refine W.widen (k := 0) (n := 0) (by omega) (by omega) ?_
    exact W.zret (v := 0) hx hb hr (by decide) (fun t ht hW => ⟨⟨0, (), rfl, (by first | rfl | ((repeat' split) <;> (first | rfl | (exfalso; omega)))), trivial⟩, hS.F ht⟩) hS.2.2 dX7_in_18
  · have c_1 := fun h => c_1 ((lg_cmp_lt v lo).mpr h)
    have c_1 : zlo ≤ zv := i_nltL (a := v) (b := lo) hv hlo c_1
    refine lv_lload_n hx hb dX7_in_6 rfl (lv_at hl 0 rfl) ?_
    refine lv_lload hx hb dX7_in_7 (lv_at hl 2 rfl) ?_
    refine W.lcmp hx hb dX7_in_9 ?_
    refine lv_if_gt (tgt := 17) hx hb dX7_in_10 (by decide) (fun c_2 => ?_) (fun c_2 => ?_)
    · have c_2 := (lg_cmp_gt v hi).mp c_2
      have c_2 : zhi < zv := i_ltL (a := hi) (b := v) hhi hv c_2
      refine lv_iconst (v := 0) hx hb dX7_in_17 (by decide) ?_
      refine W.widen (k := 0) (n := 0) (by omega) (by omega) ?_
      exact W.zret (v := 0) hx hb hr (by decide) (fun t ht hW => ⟨⟨0, (), rfl, (by first | rfl | ((repeat' split) <;> (first | rfl | (exfalso; omega)))), trivial⟩, hS.F ht⟩) hS.2.2 dX7_in_18
    · have c_2 := fun h => c_2 ((lg_cmp_gt v hi).mpr h)
      have c_2 : zv ≤ zhi := i_nltL (a := hi) (b := v) hhi hv c_2
      refine lv_iconst (v := 1) hx hb dX7_in_13 (by decide) ?_
      refine lv_goto (tgt := 18) hx hb dX7_in_14 (by decide) ?_
      refine W.widen (k := 0) (n := 0) (by omega) (by omega) ?_
      exact W.zret (v := 1) hx hb hr (by decide) (fun t ht hW => ⟨⟨1, (), rfl, (by first | rfl | ((repeat' split) <;> (first | rfl | (exfalso; omega)))), trivial⟩, hS.F ht⟩) hS.2.2 dX7_in_18

theorem dX7_isSlot_0 : decode cX7_isSlot 0 = .ok (.iload_n 0, 1) := by decide +kernel
theorem dX7_isSlot_1 : decode cX7_isSlot 1 = .ok (.i2l, 1) := by decide +kernel
theorem dX7_isSlot_2 : decode cX7_isSlot 2 = .ok (.lconst 0, 1) := by decide +kernel
theorem dX7_isSlot_3 : decode cX7_isSlot 3 = .ok (.ldc2_w 83, 3) := by decide +kernel
theorem dX7_isSlot_6 : decode cX7_isSlot 6 = .ok (.invokestatic 85, 3) := by decide +kernel
theorem dX7_isSlot_9 : decode cX7_isSlot 9 = .ok (.ireturn, 1) := by decide +kernel
def wz_X7_isSlot : List Cond := .code yX7_isSlot cX7_isSlot 1 (some .boolean) :: ([Cond.constantLong RX7 83 (3), Cond.methodLink RX7 85 yX7_in, Cond.static yX7_in, Cond.initialized RX7, Cond.code yX7_in cX7_in 6 (some .boolean)])
theorem wd_X7_isSlot_0 : Cond.constantLong RX7 83 (3) ∈ wz_X7_isSlot := List.mem_of_getElem? (i := 1) rfl
set_option maxRecDepth 20000 in
theorem g_X7_isSlot_X7_in : GoodIn wz_X7_isSlot (va_wsS RX7 85 yX7_in wz_X7_in) := goodIn_r _ [2, 3, 4, 5] rfl (by decide +kernel)
set_option maxHeartbeats 4000000 in
set_option maxRecDepth 100000 in
theorem c_X7_isSlot (l : Launch) (dC : Nat → ClassId) (dI : Nat → Nat → Nat) (sz : Nat) (p0 : Int32)  : Met l yX7_isSlot wz_X7_isSlot ({ frames := 1, cells := 0, slots := 0, locals := 25 }) (va_Pc [.int p0] (fun U => U.heap.size = sz ∧ va_P (dC, dI) vwCl [] U.heap ∧ va_K (dC, dI) vwCl [] U ∧ va_D (fun _ => True) [])) (va_Qi (fun (r : Int32) (u : Unit) => r = if 0 ≤ p0.toInt ∧ p0.toInt ≤ 3 then 1 else 0) (fun (_ : Unit) (_ : State) => True) (va_A [] sz)) 0 0 (va_A [] sz) := by
  refine Met.ofW (cc := cX7_isSlot) (maxL := 1) (ret := (some .boolean)) (by decide) rfl ?_
  intro p e s m args below meth c s₁ B hml hv
  obtain ⟨rfl, hsz, hP, hK, hD0⟩ := hv
  have hx := B.exec
  have hb := B.bytes
  have hr := B.returns
  have hts := atoms_spec (ws := wz_X7_isSlot) B.pre
  have hown : s.vm.findClass RX7 = some m.cls := findClass_of_methodNamed B.named
  have hlocks := B.notSynchronized
  subst hsz
  have hD := hD0.self (sz := s.heap.size)
  generalize hAe : va_A [] s.heap.size = A at hD ⊢
  have hA : ∀ q : Nat, s.heap.size ≤ q → A q := fun q h => by rw [← hAe]; exact Or.inr h
  have hS : va_S A s.heap s.heap [] := va_S.rf
  have hP : va_P (dC, dI) vwCl [] s.heap := hP
  have hl := lv_entry ([.int p0]) (n := 1) (Nat.le_of_ble_eq_true rfl)
  rw [lg_entry_eq]
  generalize (lg_sl ([.int p0]) ++ List.replicate (1 - (lg_sl ([.int p0])).length) Slot.unset).toArray = ls at hl ⊢
  have hl : lv_has ls 1 [(0, .int p0)] := hl
  refine lv_iload_n hx hb dX7_isSlot_0 rfl (lv_at hl 0 rfl) ?_
  refine lv_i2l (v := p0.toInt64) hx hb dX7_isSlot_1 rfl ?_
  refine lv_lconst (v := 0) hx hb dX7_isSlot_2 (by decide) ?_
  refine lv_ldc2 hx hb hown (hts _ wd_X7_isSlot_0) dX7_isSlot_3 ?_
  have hPc := hP.sub (ws' := []) [] rfl
  have hDc := hD.sub (ws' := []) [] (by decide) rfl
  have hKc := hK.sub (tys' := []) [] rfl
  have hFc := va_free (wc := []) hD hS hA [] rfl
  refine va_calli (va_runS (As := [.long p0.toInt64, .long 0, .long 3]) (rest := []) ⟨hx, hb, hml, hown, hts⟩ (c_X7_in l dC dI s.heap.size p0.toInt64 ((0 : Int64)) ((3 : Int64)) p0.toInt ((0 : Int)) ((3 : Int)) ((i_wide rfl)) ((by decide)) ((by decide))) (va_cwS 3 hts g_X7_isSlot_X7_in rfl rfl rfl (by decide +kernel) ⟨Nat.le_of_ble_eq_true rfl, Nat.le_of_ble_eq_true rfl⟩) ⟨fun a U g mk q => by obtain ⟨q0, q1, qP, qK, qD⟩ := q; exact ⟨q0, q1, qP, va_K.moved (u := U) (U := U.calling g mk a) (Vm.Alike.refl U.vm) qK, qD⟩, fun U hU hW => ⟨rfl, by rw [hU], by rw [hU]; exact hPc, va_K.moved hW.alike hKc, hDc.weaken (fun _ _ _ _ => trivial)⟩⟩ rfl rfl hl.1 rfl (lv_room (Nat.le_of_ble_eq_true rfl)) dX7_isSlot_6 ⟨Nat.le_of_ble_eq_true rfl, Nat.le_of_ble_eq_true rfl⟩) hS (fun q _ h => hFc q h) hFc (fun r_1 u t H1 locs ht hvm hw_2 hB hz1 hk1 hS => ?_)
  have hP1 : va_P (dC, dI) vwCl [] H1 := i_nilP
  have hD1 : va_D (va_A [] s.heap.size) [] := i_nilD
  try dsimp only at hw_2
  obtain ⟨hP, hD⟩ := va_join (wr := []) (w1 := []) hP hD [] [] rfl rfl (by decide) (by decide) hk1 hFc hP1 hD1
  generalize H1 = H at hP hS ⊢
  have hP : va_P (dC, dI) vwCl [] H := hP
  have hD : va_D A [] := hD
  rcases i_bool hw_2 with ⟨r_19, hC⟩ | ⟨r_19, hC⟩
  · obtain rfl : r_1 = 1 := r_19
    have hC_3 := hC
    refine W.widen (k := 0) (n := 0) (by omega) (by omega) ?_
    exact W.zret (v := 1) hx hb hr (by decide) (fun t ht hW => ⟨⟨1, (), rfl, (by first | rfl | ((repeat' split) <;> (first | rfl | (exfalso; omega)))), trivial⟩, hS.F ht⟩) hS.2.2 dX7_isSlot_9
  · obtain rfl : r_1 = 0 := r_19
    have hC_4 := hC
    refine W.widen (k := 0) (n := 0) (by omega) (by omega) ?_
    exact W.zret (v := 0) hx hb hr (by decide) (fun t ht hW => ⟨⟨0, (), rfl, (by first | rfl | ((repeat' split) <;> (first | rfl | (exfalso; omega)))), trivial⟩, hS.F ht⟩) hS.2.2 dX7_isSlot_9

theorem dX7_isMaze_0 : decode cX7_isMaze 0 = .ok (.aload_n 0, 1) := by decide +kernel
theorem dX7_isMaze_1 : decode cX7_isMaze 1 = .ok (.getfield 31, 3) := by decide +kernel
theorem dX7_isMaze_4 : decode cX7_isMaze 4 = .ok (.iconst 0, 1) := by decide +kernel
theorem dX7_isMaze_5 : decode cX7_isMaze 5 = .ok (.iaload, 1) := by decide +kernel
theorem dX7_isMaze_6 : decode cX7_isMaze 6 = .ok (.ifCond .le 7, 3) := by decide +kernel
theorem dX7_isMaze_13 : decode cX7_isMaze 13 = .ok (.iconst 0, 1) := by decide +kernel
theorem dX7_isMaze_14 : decode cX7_isMaze 14 = .ok (.ireturn, 1) := by decide +kernel
def wz_X7_isMaze : List Cond := .code yX7_isMaze cX7_isMaze 1 (some .boolean) :: ([Cond.fieldLink RX7 31 "HedgeMazeModel" "lines" "[I"] ++ wsX70)
theorem wd_X7_isMaze_0 : Cond.fieldLink RX7 31 "HedgeMazeModel" "lines" "[I" ∈ wz_X7_isMaze := List.mem_of_getElem? (i := 1) rfl
theorem in_X7_isMaze_X7 : ∀ w ∈ wsX70, w ∈ wz_X7_isMaze := fun _ h => List.mem_cons_of_mem _ (List.mem_append_right _ h)
set_option maxHeartbeats 4000000 in
set_option maxRecDepth 100000 in
theorem c_X7_isMaze (l : Launch) (dC : Nat → ClassId) (dI : Nat → Nat → Nat) (sz : Nat) (h0 : Nat) (m_width : Nat) (m_many : Nat) (m_cells : Nat) (m_moved : Nat) (m_tape : Nat) (m_lines : Nat) (m_has : Nat) (m_state : Nat) (m_gate : Nat) (m_guest : Nat) (m_gone : Nat) (m_isKept : Nat) (m_first : Nat) (m_second : Nat) (m_far : Nat) (m_wished : Nat) (m_wasState : Nat) (m_isHere : Nat) (m_round : Nat) (m_bestRound : Nat) (m_taken : Nat) (k_lines : ClassId)  : Met l yX7_isMaze wz_X7_isMaze ({ frames := 0, cells := 0, slots := 0, locals := 0 }) (va_Pc [.ref h0] (fun U => U.heap.size = sz ∧ va_P (dC, dI) vwCl [(h0, .inr (7, [.int 0, .ref m_width, .ref m_many, .ref m_cells, .ref m_moved, .ref m_tape, .int 0, .int 0, .int 0, .int 0, .int 0, .long 0, .int 0, .int 0, .int 0, .int (-1), .ref m_lines, .ref m_has, .ref m_state, .ref m_gate, .ref m_guest, .ref m_gone, .int 0, .ref m_isKept, .ref m_first, .ref m_second, .int 0, .ref m_far, .ref m_wished, .ref m_wasState, .ref m_isHere, .ref m_round, .ref m_bestRound, .int 0, .int 0, .long 0, .long 0, .ref m_taken, .int 0])), (m_lines, .inl (k_lines, 5, .inl (fun _ => 0)))] U.heap ∧ va_K (dC, dI) vwCl [(k_lines, .int)] U ∧ va_D (fun _ => True) [(h0, .inr (7, [.int 0, .ref m_width, .ref m_many, .ref m_cells, .ref m_moved, .ref m_tape, .int 0, .int 0, .int 0, .int 0, .int 0, .long 0, .int 0, .int 0, .int 0, .int (-1), .ref m_lines, .ref m_has, .ref m_state, .ref m_gate, .ref m_guest, .ref m_gone, .int 0, .ref m_isKept, .ref m_first, .ref m_second, .int 0, .ref m_far, .ref m_wished, .ref m_wasState, .ref m_isHere, .ref m_round, .ref m_bestRound, .int 0, .int 0, .long 0, .long 0, .ref m_taken, .int 0])), (m_lines, .inl (k_lines, 5, .inl (fun _ => 0)))])) (va_Qi (fun (r : Int32) (u : Unit) => r = 0) (fun (u : Unit) (t : State) => va_P (dC, dI) vwCl [(h0, .inr (7, [.int 0, .ref m_width, .ref m_many, .ref m_cells, .ref m_moved, .ref m_tape, .int 0, .int 0, .int 0, .int 0, .int 0, .long 0, .int 0, .int 0, .int 0, .int (-1), .ref m_lines, .ref m_has, .ref m_state, .ref m_gate, .ref m_guest, .ref m_gone, .int 0, .ref m_isKept, .ref m_first, .ref m_second, .int 0, .ref m_far, .ref m_wished, .ref m_wasState, .ref m_isHere, .ref m_round, .ref m_bestRound, .int 0, .int 0, .long 0, .long 0, .ref m_taken, .int 0])), (m_lines, .inl (k_lines, 5, .inl (fun _ => 0)))] t.heap ∧ va_K (dC, dI) vwCl [] t ∧ va_D (va_A [(h0, .inr (7, [.int 0, .ref m_width, .ref m_many, .ref m_cells, .ref m_moved, .ref m_tape, .int 0, .int 0, .int 0, .int 0, .int 0, .long 0, .int 0, .int 0, .int 0, .int (-1), .ref m_lines, .ref m_has, .ref m_state, .ref m_gate, .ref m_guest, .ref m_gone, .int 0, .ref m_isKept, .ref m_first, .ref m_second, .int 0, .ref m_far, .ref m_wished, .ref m_wasState, .ref m_isHere, .ref m_round, .ref m_bestRound, .int 0, .int 0, .long 0, .long 0, .ref m_taken, .int 0])), (m_lines, .inl (k_lines, 5, .inl (fun _ => 0)))] sz) [(h0, .inr (7, [.int 0, .ref m_width, .ref m_many, .ref m_cells, .ref m_moved, .ref m_tape, .int 0, .int 0, .int 0, .int 0, .int 0, .long 0, .int 0, .int 0, .int 0, .int (-1), .ref m_lines, .ref m_has, .ref m_state, .ref m_gate, .ref m_guest, .ref m_gone, .int 0, .ref m_isKept, .ref m_first, .ref m_second, .int 0, .ref m_far, .ref m_wished, .ref m_wasState, .ref m_isHere, .ref m_round, .ref m_bestRound, .int 0, .int 0, .long 0, .long 0, .ref m_taken, .int 0])), (m_lines, .inl (k_lines, 5, .inl (fun _ => 0)))]) (va_A [(h0, .inr (7, [.int 0, .ref m_width, .ref m_many, .ref m_cells, .ref m_moved, .ref m_tape, .int 0, .int 0, .int 0, .int 0, .int 0, .long 0, .int 0, .int 0, .int 0, .int (-1), .ref m_lines, .ref m_has, .ref m_state, .ref m_gate, .ref m_guest, .ref m_gone, .int 0, .ref m_isKept, .ref m_first, .ref m_second, .int 0, .ref m_far, .ref m_wished, .ref m_wasState, .ref m_isHere, .ref m_round, .ref m_bestRound, .int 0, .int 0, .long 0, .long 0, .ref m_taken, .int 0])), (m_lines, .inl (k_lines, 5, .inl (fun _ => 0)))] sz)) 0 0 (va_A [(h0, .inr (7, [.int 0, .ref m_width, .ref m_many, .ref m_cells, .ref m_moved, .ref m_tape, .int 0, .int 0, .int 0, .int 0, .int 0, .long 0, .int 0, .int 0, .int 0, .int (-1), .ref m_lines, .ref m_has, .ref m_state, .ref m_gate, .ref m_guest, .ref m_gone, .int 0, .ref m_isKept, .ref m_first, .ref m_second, .int 0, .ref m_far, .ref m_wished, .ref m_wasState, .ref m_isHere, .ref m_round, .ref m_bestRound, .int 0, .int 0, .long 0, .long 0, .ref m_taken, .int 0])), (m_lines, .inl (k_lines, 5, .inl (fun _ => 0)))] sz) := by
  refine Met.ofW (cc := cX7_isMaze) (maxL := 1) (ret := (some .boolean)) (by decide) rfl ?_
  intro p e s m args below meth c s₁ B hml hv
  obtain ⟨rfl, hsz, hP, hK, hD0⟩ := hv
  have hx := B.exec
  have hb := B.bytes
  have hr := B.returns
  have hts := atoms_spec (ws := wz_X7_isMaze) B.pre
  have hown : s.vm.findClass RX7 = some m.cls := findClass_of_methodNamed B.named
  have hlocks := B.notSynchronized
  subst hsz
  have hD := hD0.self (sz := s.heap.size)
  generalize hAe : va_A [(h0, .inr (7, [.int 0, .ref m_width, .ref m_many, .ref m_cells, .ref m_moved, .ref m_tape, .int 0, .int 0, .int 0, .int 0, .int 0, .long 0, .int 0, .int 0, .int 0, .int (-1), .ref m_lines, .ref m_has, .ref m_state, .ref m_gate, .ref m_guest, .ref m_gone, .int 0, .ref m_isKept, .ref m_first, .ref m_second, .int 0, .ref m_far, .ref m_wished, .ref m_wasState, .ref m_isHere, .ref m_round, .ref m_bestRound, .int 0, .int 0, .long 0, .long 0, .ref m_taken, .int 0])), (m_lines, .inl (k_lines, 5, .inl (fun _ => 0)))] s.heap.size = A at hD ⊢
  have hA : ∀ q : Nat, s.heap.size ≤ q → A q := fun q h => by rw [← hAe]; exact Or.inr h
  have hS : va_S A s.heap s.heap [] := va_S.rf
  have hP : va_P (dC, dI) vwCl [(h0, .inr (7, [.int 0, .ref m_width, .ref m_many, .ref m_cells, .ref m_moved, .ref m_tape, .int 0, .int 0, .int 0, .int 0, .int 0, .long 0, .int 0, .int 0, .int 0, .int (-1), .ref m_lines, .ref m_has, .ref m_state, .ref m_gate, .ref m_guest, .ref m_gone, .int 0, .ref m_isKept, .ref m_first, .ref m_second, .int 0, .ref m_far, .ref m_wished, .ref m_wasState, .ref m_isHere, .ref m_round, .ref m_bestRound, .int 0, .int 0, .long 0, .long 0, .ref m_taken, .int 0])), (m_lines, .inl (k_lines, 5, .inl (fun _ => 0)))] s.heap := hP
  have hl := lv_entry ([.ref h0]) (n := 1) (Nat.le_of_ble_eq_true rfl)
  rw [lg_entry_eq]
  generalize (lg_sl ([.ref h0]) ++ List.replicate (1 - (lg_sl ([.ref h0])).length) Slot.unset).toArray = ls at hl ⊢
  have hl : lv_has ls 1 [(0, .ref h0)] := hl
  refine lv_aload_n hx hb dX7_isMaze_0 rfl (lv_at hl 0 rfl) ?_
  refine va_get (D := (dC, dI)) (ci := 7) (v := .ref m_lines) (C := RX7) (T := TX7) (N := 39) hx hb hts in_X7_isMaze_X7 hown hK hP 0 rfl rfl 16 (by decide) (hts _ wd_X7_isMaze_0) (fun _ h9 => h9) rfl dX7_isMaze_1 ?_
  refine lv_iconst (v := 0) hx hb dX7_isMaze_4 (by decide) ?_
  refine va_iald hx hb hK hP 1 0 rfl rfl (vp_in_iff.mpr ⟨by decide, by decide⟩) dX7_isMaze_5 ?_
  refine lv_topi (fun z_1 ez_1 => ?_)
  obtain rfl : z_1 = 0 := ez_1
  refine lv_if_le (tgt := 13) hx hb dX7_isMaze_6 (by decide) (fun _ => ?_) (fun h => absurd (by decide) h)
  refine lv_iconst (v := 0) hx hb dX7_isMaze_13 (by decide) ?_
  have hP9 := hP.sub (ws' := [(h0, .inr (7, [.int 0, .ref m_width, .ref m_many, .ref m_cells, .ref m_moved, .ref m_tape, .int 0, .int 0, .int 0, .int 0, .int 0, .long 0, .int 0, .int 0, .int 0, .int (-1), .ref m_lines, .ref m_has, .ref m_state, .ref m_gate, .ref m_guest, .ref m_gone, .int 0, .ref m_isKept, .ref m_first, .ref m_second, .int 0, .ref m_far, .ref m_wished, .ref m_wasState, .ref m_isHere, .ref m_round, .ref m_bestRound, .int 0, .int 0, .long 0, .long 0, .ref m_taken, .int 0])), (m_lines, .inl (k_lines, 5, .inl (fun _ => 0)))]) [0, 1] rfl
  have hD9 := hD.sub (ws' := [(h0, .inr (7, [.int 0, .ref m_width, .ref m_many, .ref m_cells, .ref m_moved, .ref m_tape, .int 0, .int 0, .int 0, .int 0, .int 0, .long 0, .int 0, .int 0, .int 0, .int (-1), .ref m_lines, .ref m_has, .ref m_state, .ref m_gate, .ref m_guest, .ref m_gone, .int 0, .ref m_isKept, .ref m_first, .ref m_second, .int 0, .ref m_far, .ref m_wished, .ref m_wasState, .ref m_isHere, .ref m_round, .ref m_bestRound, .int 0, .int 0, .long 0, .long 0, .ref m_taken, .int 0])), (m_lines, .inl (k_lines, 5, .inl (fun _ => 0)))]) [0, 1] (by decide) rfl
  have hK9 := hK.sub (tys' := []) [] rfl
  refine W.widen (k := 0) (n := 0) (by omega) (by omega) ?_
  exact W.zret (v := 0) hx hb hr (by decide) (fun t ht hW => ⟨⟨0, (), rfl, (by first | rfl | ((repeat' split) <;> (first | rfl | (exfalso; omega)))), by rw [ht]; exact hP9, va_K.moved hW.alike hK9, hD9⟩, hS.F ht⟩) hS.2.2 dX7_isMaze_14

theorem dX7_cellMany_0 : decode cX7_cellMany 0 = .ok (.aload_n 0, 1) := by decide +kernel
theorem dX7_cellMany_1 : decode cX7_cellMany 1 = .ok (.getfield 34, 3) := by decide +kernel
theorem dX7_cellMany_4 : decode cX7_cellMany 4 = .ok (.iconst 0, 1) := by decide +kernel
theorem dX7_cellMany_5 : decode cX7_cellMany 5 = .ok (.iaload, 1) := by decide +kernel
theorem dX7_cellMany_6 : decode cX7_cellMany 6 = .ok (.aload_n 0, 1) := by decide +kernel
theorem dX7_cellMany_7 : decode cX7_cellMany 7 = .ok (.getfield 34, 3) := by decide +kernel
theorem dX7_cellMany_10 : decode cX7_cellMany 10 = .ok (.iconst 1, 1) := by decide +kernel
theorem dX7_cellMany_11 : decode cX7_cellMany 11 = .ok (.iaload, 1) := by decide +kernel
theorem dX7_cellMany_12 : decode cX7_cellMany 12 = .ok (.imul, 1) := by decide +kernel
theorem dX7_cellMany_13 : decode cX7_cellMany 13 = .ok (.ireturn, 1) := by decide +kernel
def wz_X7_cellMany : List Cond := .code yX7_cellMany cX7_cellMany 1 (some .int) :: ([Cond.fieldLink RX7 34 "HedgeMazeModel" "has" "[I"] ++ wsX70)
theorem wd_X7_cellMany_0 : Cond.fieldLink RX7 34 "HedgeMazeModel" "has" "[I" ∈ wz_X7_cellMany := List.mem_of_getElem? (i := 1) rfl
theorem in_X7_cellMany_X7 : ∀ w ∈ wsX70, w ∈ wz_X7_cellMany := fun _ h => List.mem_cons_of_mem _ (List.mem_append_right _ h)
set_option maxHeartbeats 4000000 in
set_option maxRecDepth 100000 in
theorem c_X7_cellMany (l : Launch) (dC : Nat → ClassId) (dI : Nat → Nat → Nat) (sz : Nat) (h0 : Nat) (m_width : Nat) (m_many : Nat) (m_cells : Nat) (m_moved : Nat) (m_tape : Nat) (m_lines : Nat) (m_has : Nat) (m_state : Nat) (m_gate : Nat) (m_guest : Nat) (m_gone : Nat) (m_isKept : Nat) (m_first : Nat) (m_second : Nat) (m_far : Nat) (m_wished : Nat) (m_wasState : Nat) (m_isHere : Nat) (m_round : Nat) (m_bestRound : Nat) (m_taken : Nat) (k_has : ClassId)  : Met l yX7_cellMany wz_X7_cellMany ({ frames := 0, cells := 0, slots := 0, locals := 0 }) (va_Pc [.ref h0] (fun U => U.heap.size = sz ∧ va_P (dC, dI) vwCl [(h0, .inr (7, [.int 0, .ref m_width, .ref m_many, .ref m_cells, .ref m_moved, .ref m_tape, .int 0, .int 0, .int 0, .int 0, .int 0, .long 0, .int 0, .int 0, .int 0, .int (-1), .ref m_lines, .ref m_has, .ref m_state, .ref m_gate, .ref m_guest, .ref m_gone, .int 0, .ref m_isKept, .ref m_first, .ref m_second, .int 0, .ref m_far, .ref m_wished, .ref m_wasState, .ref m_isHere, .ref m_round, .ref m_bestRound, .int 0, .int 0, .long 0, .long 0, .ref m_taken, .int 0])), (m_has, .inl (k_has, 45, .inl (fun _ => 0)))] U.heap ∧ va_K (dC, dI) vwCl [(k_has, .int)] U ∧ va_D (fun _ => True) [(h0, .inr (7, [.int 0, .ref m_width, .ref m_many, .ref m_cells, .ref m_moved, .ref m_tape, .int 0, .int 0, .int 0, .int 0, .int 0, .long 0, .int 0, .int 0, .int 0, .int (-1), .ref m_lines, .ref m_has, .ref m_state, .ref m_gate, .ref m_guest, .ref m_gone, .int 0, .ref m_isKept, .ref m_first, .ref m_second, .int 0, .ref m_far, .ref m_wished, .ref m_wasState, .ref m_isHere, .ref m_round, .ref m_bestRound, .int 0, .int 0, .long 0, .long 0, .ref m_taken, .int 0])), (m_has, .inl (k_has, 45, .inl (fun _ => 0)))])) (va_Qi (fun (r : Int32) (u : Unit) => r = 0) (fun (u : Unit) (t : State) => va_P (dC, dI) vwCl [(h0, .inr (7, [.int 0, .ref m_width, .ref m_many, .ref m_cells, .ref m_moved, .ref m_tape, .int 0, .int 0, .int 0, .int 0, .int 0, .long 0, .int 0, .int 0, .int 0, .int (-1), .ref m_lines, .ref m_has, .ref m_state, .ref m_gate, .ref m_guest, .ref m_gone, .int 0, .ref m_isKept, .ref m_first, .ref m_second, .int 0, .ref m_far, .ref m_wished, .ref m_wasState, .ref m_isHere, .ref m_round, .ref m_bestRound, .int 0, .int 0, .long 0, .long 0, .ref m_taken, .int 0])), (m_has, .inl (k_has, 45, .inl (fun _ => 0)))] t.heap ∧ va_K (dC, dI) vwCl [] t ∧ va_D (va_A [(h0, .inr (7, [.int 0, .ref m_width, .ref m_many, .ref m_cells, .ref m_moved, .ref m_tape, .int 0, .int 0, .int 0, .int 0, .int 0, .long 0, .int 0, .int 0, .int 0, .int (-1), .ref m_lines, .ref m_has, .ref m_state, .ref m_gate, .ref m_guest, .ref m_gone, .int 0, .ref m_isKept, .ref m_first, .ref m_second, .int 0, .ref m_far, .ref m_wished, .ref m_wasState, .ref m_isHere, .ref m_round, .ref m_bestRound, .int 0, .int 0, .long 0, .long 0, .ref m_taken, .int 0])), (m_has, .inl (k_has, 45, .inl (fun _ => 0)))] sz) [(h0, .inr (7, [.int 0, .ref m_width, .ref m_many, .ref m_cells, .ref m_moved, .ref m_tape, .int 0, .int 0, .int 0, .int 0, .int 0, .long 0, .int 0, .int 0, .int 0, .int (-1), .ref m_lines, .ref m_has, .ref m_state, .ref m_gate, .ref m_guest, .ref m_gone, .int 0, .ref m_isKept, .ref m_first, .ref m_second, .int 0, .ref m_far, .ref m_wished, .ref m_wasState, .ref m_isHere, .ref m_round, .ref m_bestRound, .int 0, .int 0, .long 0, .long 0, .ref m_taken, .int 0])), (m_has, .inl (k_has, 45, .inl (fun _ => 0)))]) (va_A [(h0, .inr (7, [.int 0, .ref m_width, .ref m_many, .ref m_cells, .ref m_moved, .ref m_tape, .int 0, .int 0, .int 0, .int 0, .int 0, .long 0, .int 0, .int 0, .int 0, .int (-1), .ref m_lines, .ref m_has, .ref m_state, .ref m_gate, .ref m_guest, .ref m_gone, .int 0, .ref m_isKept, .ref m_first, .ref m_second, .int 0, .ref m_far, .ref m_wished, .ref m_wasState, .ref m_isHere, .ref m_round, .ref m_bestRound, .int 0, .int 0, .long 0, .long 0, .ref m_taken, .int 0])), (m_has, .inl (k_has, 45, .inl (fun _ => 0)))] sz)) 0 0 (va_A [(h0, .inr (7, [.int 0, .ref m_width, .ref m_many, .ref m_cells, .ref m_moved, .ref m_tape, .int 0, .int 0, .int 0, .int 0, .int 0, .long 0, .int 0, .int 0, .int 0, .int (-1), .ref m_lines, .ref m_has, .ref m_state, .ref m_gate, .ref m_guest, .ref m_gone, .int 0, .ref m_isKept, .ref m_first, .ref m_second, .int 0, .ref m_far, .ref m_wished, .ref m_wasState, .ref m_isHere, .ref m_round, .ref m_bestRound, .int 0, .int 0, .long 0, .long 0, .ref m_taken, .int 0])), (m_has, .inl (k_has, 45, .inl (fun _ => 0)))] sz) := by
  refine Met.ofW (cc := cX7_cellMany) (maxL := 1) (ret := (some .int)) (by decide) rfl ?_
  intro p e s m args below meth c s₁ B hml hv
  obtain ⟨rfl, hsz, hP, hK, hD0⟩ := hv
  have hx := B.exec
  have hb := B.bytes
  have hr := B.returns
  have hts := atoms_spec (ws := wz_X7_cellMany) B.pre
  have hown : s.vm.findClass RX7 = some m.cls := findClass_of_methodNamed B.named
  have hlocks := B.notSynchronized
  subst hsz
  have hD := hD0.self (sz := s.heap.size)
  generalize hAe : va_A [(h0, .inr (7, [.int 0, .ref m_width, .ref m_many, .ref m_cells, .ref m_moved, .ref m_tape, .int 0, .int 0, .int 0, .int 0, .int 0, .long 0, .int 0, .int 0, .int 0, .int (-1), .ref m_lines, .ref m_has, .ref m_state, .ref m_gate, .ref m_guest, .ref m_gone, .int 0, .ref m_isKept, .ref m_first, .ref m_second, .int 0, .ref m_far, .ref m_wished, .ref m_wasState, .ref m_isHere, .ref m_round, .ref m_bestRound, .int 0, .int 0, .long 0, .long 0, .ref m_taken, .int 0])), (m_has, .inl (k_has, 45, .inl (fun _ => 0)))] s.heap.size = A at hD ⊢
  have hA : ∀ q : Nat, s.heap.size ≤ q → A q := fun q h => by rw [← hAe]; exact Or.inr h
  have hS : va_S A s.heap s.heap [] := va_S.rf
  have hP : va_P (dC, dI) vwCl [(h0, .inr (7, [.int 0, .ref m_width, .ref m_many, .ref m_cells, .ref m_moved, .ref m_tape, .int 0, .int 0, .int 0, .int 0, .int 0, .long 0, .int 0, .int 0, .int 0, .int (-1), .ref m_lines, .ref m_has, .ref m_state, .ref m_gate, .ref m_guest, .ref m_gone, .int 0, .ref m_isKept, .ref m_first, .ref m_second, .int 0, .ref m_far, .ref m_wished, .ref m_wasState, .ref m_isHere, .ref m_round, .ref m_bestRound, .int 0, .int 0, .long 0, .long 0, .ref m_taken, .int 0])), (m_has, .inl (k_has, 45, .inl (fun _ => 0)))] s.heap := hP
  have hl := lv_entry ([.ref h0]) (n := 1) (Nat.le_of_ble_eq_true rfl)
  rw [lg_entry_eq]
  generalize (lg_sl ([.ref h0]) ++ List.replicate (1 - (lg_sl ([.ref h0])).length) Slot.unset).toArray = ls at hl ⊢
  have hl : lv_has ls 1 [(0, .ref h0)] := hl
  refine lv_aload_n hx hb dX7_cellMany_0 rfl (lv_at hl 0 rfl) ?_
  refine va_get (D := (dC, dI)) (ci := 7) (v := .ref m_has) (C := RX7) (T := TX7) (N := 39) hx hb hts in_X7_cellMany_X7 hown hK hP 0 rfl rfl 17 (by decide) (hts _ wd_X7_cellMany_0) (fun _ h9 => h9) rfl dX7_cellMany_1 ?_
  refine lv_iconst (v := 0) hx hb dX7_cellMany_4 (by decide) ?_
  refine va_iald hx hb hK hP 1 0 rfl rfl (vp_in_iff.mpr ⟨by decide, by decide⟩) dX7_cellMany_5 ?_
  refine lv_topi (fun z_1 ez_1 => ?_)
  obtain rfl : z_1 = 0 := ez_1
  refine lv_aload_n hx hb dX7_cellMany_6 rfl (lv_at hl 0 rfl) ?_
  refine va_get (D := (dC, dI)) (ci := 7) (v := .ref m_has) (C := RX7) (T := TX7) (N := 39) hx hb hts in_X7_cellMany_X7 hown hK hP 0 rfl rfl 17 (by decide) (hts _ wd_X7_cellMany_0) (fun _ h9 => h9) rfl dX7_cellMany_7 ?_
  refine lv_iconst (v := 1) hx hb dX7_cellMany_10 (by decide) ?_
  refine va_iald hx hb hK hP 1 0 rfl rfl (vp_in_iff.mpr ⟨by decide, by decide⟩) dX7_cellMany_11 ?_
  refine lv_topi (fun z_2 ez_2 => ?_)
  obtain rfl : z_2 = 0 := ez_2
  refine lv_imul hx hb dX7_cellMany_12 ?_
  refine lv_topi (fun z_3 ez_3 => ?_)
  obtain rfl : z_3 = 0 := ez_3.trans (by decide)
  have hP9 := hP.sub (ws' := [(h0, .inr (7, [.int 0, .ref m_width, .ref m_many, .ref m_cells, .ref m_moved, .ref m_tape, .int 0, .int 0, .int 0, .int 0, .int 0, .long 0, .int 0, .int 0, .int 0, .int (-1), .ref m_lines, .ref m_has, .ref m_state, .ref m_gate, .ref m_guest, .ref m_gone, .int 0, .ref m_isKept, .ref m_first, .ref m_second, .int 0, .ref m_far, .ref m_wished, .ref m_wasState, .ref m_isHere, .ref m_round, .ref m_bestRound, .int 0, .int 0, .long 0, .long 0, .ref m_taken, .int 0])), (m_has, .inl (k_has, 45, .inl (fun _ => 0)))]) [0, 1] rfl
  have hD9 := hD.sub (ws' := [(h0, .inr (7, [.int 0, .ref m_width, .ref m_many, .ref m_cells, .ref m_moved, .ref m_tape, .int 0, .int 0, .int 0, .int 0, .int 0, .long 0, .int 0, .int 0, .int 0, .int (-1), .ref m_lines, .ref m_has, .ref m_state, .ref m_gate, .ref m_guest, .ref m_gone, .int 0, .ref m_isKept, .ref m_first, .ref m_second, .int 0, .ref m_far, .ref m_wished, .ref m_wasState, .ref m_isHere, .ref m_round, .ref m_bestRound, .int 0, .int 0, .long 0, .long 0, .ref m_taken, .int 0])), (m_has, .inl (k_has, 45, .inl (fun _ => 0)))]) [0, 1] (by decide) rfl
  have hK9 := hK.sub (tys' := []) [] rfl
  refine W.widen (k := 0) (n := 0) (by omega) (by omega) ?_
  exact W.iret (v := 0) hx hb hr (fun t ht hW => ⟨⟨0, (), rfl, (by first | rfl | ((repeat' split) <;> (first | rfl | (exfalso; omega)))), by rw [ht]; exact hP9, va_K.moved hW.alike hK9, hD9⟩, hS.F ht⟩) hS.2.2 dX7_cellMany_13

theorem dX7_isCell_0 : decode cX7_isCell 0 = .ok (.iload_n 1, 1) := by decide +kernel
theorem dX7_isCell_1 : decode cX7_isCell 1 = .ok (.i2l, 1) := by decide +kernel
theorem dX7_isCell_2 : decode cX7_isCell 2 = .ok (.lconst 0, 1) := by decide +kernel
theorem dX7_isCell_3 : decode cX7_isCell 3 = .ok (.aload_n 0, 1) := by decide +kernel
theorem dX7_isCell_4 : decode cX7_isCell 4 = .ok (.invokevirtual 260, 3) := by decide +kernel
theorem dX7_isCell_7 : decode cX7_isCell 7 = .ok (.iconst 1, 1) := by decide +kernel
theorem dX7_isCell_8 : decode cX7_isCell 8 = .ok (.isub, 1) := by decide +kernel
theorem dX7_isCell_9 : decode cX7_isCell 9 = .ok (.i2l, 1) := by decide +kernel
theorem dX7_isCell_10 : decode cX7_isCell 10 = .ok (.invokestatic 85, 3) := by decide +kernel
theorem dX7_isCell_13 : decode cX7_isCell 13 = .ok (.ireturn, 1) := by decide +kernel
def wz_X7_isCell : List Cond := .code yX7_isCell cX7_isCell 2 (some .boolean) :: ([Cond.methodLink RX7 260 yX7_cellMany, Cond.instanceMethod yX7_cellMany, Cond.selects RX7 yX7_cellMany yX7_cellMany, Cond.initialized RX7, Cond.code yX7_cellMany cX7_cellMany 1 (some .int), Cond.fieldLink RX7 34 "HedgeMazeModel" "has" "[I", Cond.methodLink RX7 85 yX7_in, Cond.static yX7_in, Cond.code yX7_in cX7_in 6 (some .boolean)] ++ wsX70)
set_option maxRecDepth 20000 in
theorem g_X7_isCell_X7_cellMany : GoodIn wz_X7_isCell (wsV RX7 260 RX7 yX7_cellMany wz_X7_cellMany) := goodIn_r _ [1, 2, 3, 4, 5, 6, 10, 11, 12, 13, 14, 15, 16, 17, 18, 19, 20, 21, 22, 23, 24, 25, 26, 27, 28, 29, 30, 31, 32, 33, 34, 35, 36, 37, 38, 39, 40, 41, 42, 43, 44, 45, 46, 47, 48] rfl (by decide +kernel)
set_option maxRecDepth 20000 in
theorem g_X7_isCell_X7_in : GoodIn wz_X7_isCell (va_wsS RX7 85 yX7_in wz_X7_in) := goodIn_r _ [7, 8, 4, 9] rfl (by decide +kernel)
set_option maxHeartbeats 4000000 in
set_option maxRecDepth 100000 in
theorem c_X7_isCell (l : Launch) (dC : Nat → ClassId) (dI : Nat → Nat → Nat) (sz : Nat) (h0 : Nat) (m_width : Nat) (m_many : Nat) (m_cells : Nat) (m_moved : Nat) (m_tape : Nat) (m_lines : Nat) (m_has : Nat) (m_state : Nat) (m_gate : Nat) (m_guest : Nat) (m_gone : Nat) (m_isKept : Nat) (m_first : Nat) (m_second : Nat) (m_far : Nat) (m_wished : Nat) (m_wasState : Nat) (m_isHere : Nat) (m_round : Nat) (m_bestRound : Nat) (m_taken : Nat) (k_has : ClassId) (p0 : Int32)  : Met l yX7_isCell wz_X7_isCell ({ frames := 1, cells := 0, slots := 0, locals := 25 }) (va_Pc [.ref h0, .int p0] (fun U => U.heap.size = sz ∧ va_P (dC, dI) vwCl [(h0, .inr (7, [.int 0, .ref m_width, .ref m_many, .ref m_cells, .ref m_moved, .ref m_tape, .int 0, .int 0, .int 0, .int 0, .int 0, .long 0, .int 0, .int 0, .int 0, .int (-1), .ref m_lines, .ref m_has, .ref m_state, .ref m_gate, .ref m_guest, .ref m_gone, .int 0, .ref m_isKept, .ref m_first, .ref m_second, .int 0, .ref m_far, .ref m_wished, .ref m_wasState, .ref m_isHere, .ref m_round, .ref m_bestRound, .int 0, .int 0, .long 0, .long 0, .ref m_taken, .int 0])), (m_has, .inl (k_has, 45, .inl (fun _ => 0)))] U.heap ∧ va_K (dC, dI) vwCl [(k_has, .int)] U ∧ va_D (fun _ => True) [(h0, .inr (7, [.int 0, .ref m_width, .ref m_many, .ref m_cells, .ref m_moved, .ref m_tape, .int 0, .int 0, .int 0, .int 0, .int 0, .long 0, .int 0, .int 0, .int 0, .int (-1), .ref m_lines, .ref m_has, .ref m_state, .ref m_gate, .ref m_guest, .ref m_gone, .int 0, .ref m_isKept, .ref m_first, .ref m_second, .int 0, .ref m_far, .ref m_wished, .ref m_wasState, .ref m_isHere, .ref m_round, .ref m_bestRound, .int 0, .int 0, .long 0, .long 0, .ref m_taken, .int 0])), (m_has, .inl (k_has, 45, .inl (fun _ => 0)))])) (va_Qi (fun (r : Int32) (u : Unit) => r = 0) (fun (u : Unit) (t : State) => va_P (dC, dI) vwCl [(h0, .inr (7, [.int 0, .ref m_width, .ref m_many, .ref m_cells, .ref m_moved, .ref m_tape, .int 0, .int 0, .int 0, .int 0, .int 0, .long 0, .int 0, .int 0, .int 0, .int (-1), .ref m_lines, .ref m_has, .ref m_state, .ref m_gate, .ref m_guest, .ref m_gone, .int 0, .ref m_isKept, .ref m_first, .ref m_second, .int 0, .ref m_far, .ref m_wished, .ref m_wasState, .ref m_isHere, .ref m_round, .ref m_bestRound, .int 0, .int 0, .long 0, .long 0, .ref m_taken, .int 0])), (m_has, .inl (k_has, 45, .inl (fun _ => 0)))] t.heap ∧ va_K (dC, dI) vwCl [] t ∧ va_D (va_A [(h0, .inr (7, [.int 0, .ref m_width, .ref m_many, .ref m_cells, .ref m_moved, .ref m_tape, .int 0, .int 0, .int 0, .int 0, .int 0, .long 0, .int 0, .int 0, .int 0, .int (-1), .ref m_lines, .ref m_has, .ref m_state, .ref m_gate, .ref m_guest, .ref m_gone, .int 0, .ref m_isKept, .ref m_first, .ref m_second, .int 0, .ref m_far, .ref m_wished, .ref m_wasState, .ref m_isHere, .ref m_round, .ref m_bestRound, .int 0, .int 0, .long 0, .long 0, .ref m_taken, .int 0])), (m_has, .inl (k_has, 45, .inl (fun _ => 0)))] sz) [(h0, .inr (7, [.int 0, .ref m_width, .ref m_many, .ref m_cells, .ref m_moved, .ref m_tape, .int 0, .int 0, .int 0, .int 0, .int 0, .long 0, .int 0, .int 0, .int 0, .int (-1), .ref m_lines, .ref m_has, .ref m_state, .ref m_gate, .ref m_guest, .ref m_gone, .int 0, .ref m_isKept, .ref m_first, .ref m_second, .int 0, .ref m_far, .ref m_wished, .ref m_wasState, .ref m_isHere, .ref m_round, .ref m_bestRound, .int 0, .int 0, .long 0, .long 0, .ref m_taken, .int 0])), (m_has, .inl (k_has, 45, .inl (fun _ => 0)))]) (va_A [(h0, .inr (7, [.int 0, .ref m_width, .ref m_many, .ref m_cells, .ref m_moved, .ref m_tape, .int 0, .int 0, .int 0, .int 0, .int 0, .long 0, .int 0, .int 0, .int 0, .int (-1), .ref m_lines, .ref m_has, .ref m_state, .ref m_gate, .ref m_guest, .ref m_gone, .int 0, .ref m_isKept, .ref m_first, .ref m_second, .int 0, .ref m_far, .ref m_wished, .ref m_wasState, .ref m_isHere, .ref m_round, .ref m_bestRound, .int 0, .int 0, .long 0, .long 0, .ref m_taken, .int 0])), (m_has, .inl (k_has, 45, .inl (fun _ => 0)))] sz)) 0 0 (va_A [(h0, .inr (7, [.int 0, .ref m_width, .ref m_many, .ref m_cells, .ref m_moved, .ref m_tape, .int 0, .int 0, .int 0, .int 0, .int 0, .long 0, .int 0, .int 0, .int 0, .int (-1), .ref m_lines, .ref m_has, .ref m_state, .ref m_gate, .ref m_guest, .ref m_gone, .int 0, .ref m_isKept, .ref m_first, .ref m_second, .int 0, .ref m_far, .ref m_wished, .ref m_wasState, .ref m_isHere, .ref m_round, .ref m_bestRound, .int 0, .int 0, .long 0, .long 0, .ref m_taken, .int 0])), (m_has, .inl (k_has, 45, .inl (fun _ => 0)))] sz) := by
  refine Met.ofW (cc := cX7_isCell) (maxL := 2) (ret := (some .boolean)) (by decide) rfl ?_
  intro p e s m args below meth c s₁ B hml hv
  obtain ⟨rfl, hsz, hP, hK, hD0⟩ := hv
  have hx := B.exec
  have hb := B.bytes
  have hr := B.returns
  have hts := atoms_spec (ws := wz_X7_isCell) B.pre
  have hown : s.vm.findClass RX7 = some m.cls := findClass_of_methodNamed B.named
  have hlocks := B.notSynchronized
  subst hsz
  have hD := hD0.self (sz := s.heap.size)
  generalize hAe : va_A [(h0, .inr (7, [.int 0, .ref m_width, .ref m_many, .ref m_cells, .ref m_moved, .ref m_tape, .int 0, .int 0, .int 0, .int 0, .int 0, .long 0, .int 0, .int 0, .int 0, .int (-1), .ref m_lines, .ref m_has, .ref m_state, .ref m_gate, .ref m_guest, .ref m_gone, .int 0, .ref m_isKept, .ref m_first, .ref m_second, .int 0, .ref m_far, .ref m_wished, .ref m_wasState, .ref m_isHere, .ref m_round, .ref m_bestRound, .int 0, .int 0, .long 0, .long 0, .ref m_taken, .int 0])), (m_has, .inl (k_has, 45, .inl (fun _ => 0)))] s.heap.size = A at hD ⊢
  have hA : ∀ q : Nat, s.heap.size ≤ q → A q := fun q h => by rw [← hAe]; exact Or.inr h
  have hS : va_S A s.heap s.heap [] := va_S.rf
  have hP : va_P (dC, dI) vwCl [(h0, .inr (7, [.int 0, .ref m_width, .ref m_many, .ref m_cells, .ref m_moved, .ref m_tape, .int 0, .int 0, .int 0, .int 0, .int 0, .long 0, .int 0, .int 0, .int 0, .int (-1), .ref m_lines, .ref m_has, .ref m_state, .ref m_gate, .ref m_guest, .ref m_gone, .int 0, .ref m_isKept, .ref m_first, .ref m_second, .int 0, .ref m_far, .ref m_wished, .ref m_wasState, .ref m_isHere, .ref m_round, .ref m_bestRound, .int 0, .int 0, .long 0, .long 0, .ref m_taken, .int 0])), (m_has, .inl (k_has, 45, .inl (fun _ => 0)))] s.heap := hP
  have hl := lv_entry ([.ref h0, .int p0]) (n := 2) (Nat.le_of_ble_eq_true rfl)
  rw [lg_entry_eq]
  generalize (lg_sl ([.ref h0, .int p0]) ++ List.replicate (2 - (lg_sl ([.ref h0, .int p0])).length) Slot.unset).toArray = ls at hl ⊢
  have hl : lv_has ls 2 [(0, .ref h0), (1, .int p0)] := hl
  refine lv_iload_n hx hb dX7_isCell_0 rfl (lv_at hl 1 rfl) ?_
  refine lv_i2l (v := p0.toInt64) hx hb dX7_isCell_1 rfl ?_
  refine lv_lconst (v := 0) hx hb dX7_isCell_2 (by decide) ?_
  refine lv_aload_n hx hb dX7_isCell_3 rfl (lv_at hl 0 rfl) ?_
  have hPc := hP.sub (ws' := [(h0, .inr (7, [.int 0, .ref m_width, .ref m_many, .ref m_cells, .ref m_moved, .ref m_tape, .int 0, .int 0, .int 0, .int 0, .int 0, .long 0, .int 0, .int 0, .int 0, .int (-1), .ref m_lines, .ref m_has, .ref m_state, .ref m_gate, .ref m_guest, .ref m_gone, .int 0, .ref m_isKept, .ref m_first, .ref m_second, .int 0, .ref m_far, .ref m_wished, .ref m_wasState, .ref m_isHere, .ref m_round, .ref m_bestRound, .int 0, .int 0, .long 0, .long 0, .ref m_taken, .int 0])), (m_has, .inl (k_has, 45, .inl (fun _ => 0)))]) [0, 1] rfl
  have hDc := hD.sub (ws' := [(h0, .inr (7, [.int 0, .ref m_width, .ref m_many, .ref m_cells, .ref m_moved, .ref m_tape, .int 0, .int 0, .int 0, .int 0, .int 0, .long 0, .int 0, .int 0, .int 0, .int (-1), .ref m_lines, .ref m_has, .ref m_state, .ref m_gate, .ref m_guest, .ref m_gone, .int 0, .ref m_isKept, .ref m_first, .ref m_second, .int 0, .ref m_far, .ref m_wished, .ref m_wasState, .ref m_isHere, .ref m_round, .ref m_bestRound, .int 0, .int 0, .long 0, .long 0, .ref m_taken, .int 0])), (m_has, .inl (k_has, 45, .inl (fun _ => 0)))]) [0, 1] (by decide) rfl
  have hKc := hK.sub (tys' := [(k_has, .int)]) [0] rfl
  have hFc := va_free (wc := [(h0, .inr (7, [.int 0, .ref m_width, .ref m_many, .ref m_cells, .ref m_moved, .ref m_tape, .int 0, .int 0, .int 0, .int 0, .int 0, .long 0, .int 0, .int 0, .int 0, .int (-1), .ref m_lines, .ref m_has, .ref m_state, .ref m_gate, .ref m_guest, .ref m_gone, .int 0, .ref m_isKept, .ref m_first, .ref m_second, .int 0, .ref m_far, .ref m_wished, .ref m_wasState, .ref m_isHere, .ref m_round, .ref m_bestRound, .int 0, .int 0, .long 0, .long 0, .ref m_taken, .int 0])), (m_has, .inl (k_has, 45, .inl (fun _ => 0)))]) hD hS hA [0, 1] rfl
  refine va_calli (va_runV (As := []) (rest := [.long 0, .long p0.toInt64]) ⟨hx, hb, hml, hown, hts⟩ (c_X7_cellMany l dC dI s.heap.size h0 m_width m_many m_cells m_moved m_tape m_lines m_has m_state m_gate m_guest m_gone m_isKept m_first m_second m_far m_wished m_wasState m_isHere m_round m_bestRound m_taken k_has ) (cwV 0 hts g_X7_isCell_X7_cellMany rfl rfl rfl (by decide +kernel) ⟨Nat.le_of_ble_eq_true rfl, Nat.le_of_ble_eq_true rfl⟩) ⟨fun a U g mk q => by obtain ⟨q0, q1, qP, qK, qD⟩ := q; exact ⟨q0, q1, qP, va_K.moved (u := U) (U := U.calling g mk a) (Vm.Alike.refl U.vm) qK, qD⟩, va_recv hKc hPc (ci := 7) (q0 := 0) rfl rfl, fun U hU hW => ⟨rfl, by rw [hU], by rw [hU]; exact hPc, va_K.moved hW.alike hKc, hDc.weaken (fun _ _ _ _ => trivial)⟩⟩ rfl rfl hl.1 rfl (lv_room (Nat.le_of_ble_eq_true rfl)) dX7_isCell_4 ⟨Nat.le_of_ble_eq_true rfl, Nat.le_of_ble_eq_true rfl⟩) hS (fun q _ h => hFc q h) hFc (fun r_1 u t H1 locs ht hvm hw_2 hB hz1 hk1 hS => ?_)
  obtain ⟨hP1, hK1, hD1⟩ := hB
  have hP1 : va_P (dC, dI) vwCl [(h0, .inr (7, [.int 0, .ref m_width, .ref m_many, .ref m_cells, .ref m_moved, .ref m_tape, .int 0, .int 0, .int 0, .int 0, .int 0, .long 0, .int 0, .int 0, .int 0, .int (-1), .ref m_lines, .ref m_has, .ref m_state, .ref m_gate, .ref m_guest, .ref m_gone, .int 0, .ref m_isKept, .ref m_first, .ref m_second, .int 0, .ref m_far, .ref m_wished, .ref m_wasState, .ref m_isHere, .ref m_round, .ref m_bestRound, .int 0, .int 0, .long 0, .long 0, .ref m_taken, .int 0])), (m_has, .inl (k_has, 45, .inl (fun _ => 0)))] t.heap := hP1
  rw [ht] at hP1
  try dsimp only at hw_2
  obtain ⟨hP, hD⟩ := va_join (wr := []) (w1 := [(h0, .inr (7, [.int 0, .ref m_width, .ref m_many, .ref m_cells, .ref m_moved, .ref m_tape, .int 0, .int 0, .int 0, .int 0, .int 0, .long 0, .int 0, .int 0, .int 0, .int (-1), .ref m_lines, .ref m_has, .ref m_state, .ref m_gate, .ref m_guest, .ref m_gone, .int 0, .ref m_isKept, .ref m_first, .ref m_second, .int 0, .ref m_far, .ref m_wished, .ref m_wasState, .ref m_isHere, .ref m_round, .ref m_bestRound, .int 0, .int 0, .long 0, .long 0, .ref m_taken, .int 0])), (m_has, .inl (k_has, 45, .inl (fun _ => 0)))]) hP hD [0, 1] [] rfl rfl (by decide) (by decide) hk1 hFc hP1 hD1
  generalize H1 = H at hP hS ⊢
  have hP : va_P (dC, dI) vwCl [(h0, .inr (7, [.int 0, .ref m_width, .ref m_many, .ref m_cells, .ref m_moved, .ref m_tape, .int 0, .int 0, .int 0, .int 0, .int 0, .long 0, .int 0, .int 0, .int 0, .int (-1), .ref m_lines, .ref m_has, .ref m_state, .ref m_gate, .ref m_guest, .ref m_gone, .int 0, .ref m_isKept, .ref m_first, .ref m_second, .int 0, .ref m_far, .ref m_wished, .ref m_wasState, .ref m_isHere, .ref m_round, .ref m_bestRound, .int 0, .int 0, .long 0, .long 0, .ref m_taken, .int 0])), (m_has, .inl (k_has, 45, .inl (fun _ => 0)))] H := hP
  have hD : va_D A [(h0, .inr (7, [.int 0, .ref m_width, .ref m_many, .ref m_cells, .ref m_moved, .ref m_tape, .int 0, .int 0, .int 0, .int 0, .int 0, .long 0, .int 0, .int 0, .int 0, .int (-1), .ref m_lines, .ref m_has, .ref m_state, .ref m_gate, .ref m_guest, .ref m_gone, .int 0, .ref m_isKept, .ref m_first, .ref m_second, .int 0, .ref m_far, .ref m_wished, .ref m_wasState, .ref m_isHere, .ref m_round, .ref m_bestRound, .int 0, .int 0, .long 0, .long 0, .ref m_taken, .int 0])), (m_has, .inl (k_has, 45, .inl (fun _ => 0)))] := hD
  obtain rfl : r_1 = 0 := hw_2
  refine lv_iconst (v := 1) hx hb dX7_isCell_7 (by decide) ?_
  refine lv_isub hx hb dX7_isCell_8 ?_
  refine lv_topi (fun z_3 ez_3 => ?_)
  obtain rfl : z_3 = -1 := ez_3.trans (by decide)
  refine lv_i2l (v := -1) hx hb dX7_isCell_9 (by decide) ?_
  have hPc := hP.sub (ws' := []) [] rfl
  have hDc := hD.sub (ws' := []) [] (by decide) rfl
  have hKc := hK.sub (tys' := []) [] rfl
  have hFc := va_free (wc := []) hD hS hA [] rfl
  refine va_calli (va_runS (As := [.long p0.toInt64, .long 0, .long (-1)]) (rest := []) ⟨hx, hb, hml, hown, hts⟩ (c_X7_in l dC dI H.size p0.toInt64 ((0 : Int64)) ((-1 : Int64)) p0.toInt ((0 : Int)) ((-1)) ((i_wide rfl)) ((by decide)) ((by decide))) (va_cwS 3 hts g_X7_isCell_X7_in rfl rfl rfl (by decide +kernel) ⟨Nat.le_of_ble_eq_true rfl, Nat.le_of_ble_eq_true rfl⟩) ⟨fun a U g mk q => by obtain ⟨q0, q1, qP, qK, qD⟩ := q; exact ⟨q0, q1, qP, va_K.moved (u := U) (U := U.calling g mk a) (Vm.Alike.refl U.vm) qK, qD⟩, fun U hU hW => ⟨rfl, by rw [hU], by rw [hU]; exact hPc, va_K.moved hW.alike hKc, hDc.weaken (fun _ _ _ _ => trivial)⟩⟩ rfl rfl hl.1 rfl (lv_room (Nat.le_of_ble_eq_true rfl)) dX7_isCell_10 ⟨Nat.le_of_ble_eq_true rfl, Nat.le_of_ble_eq_true rfl⟩) hS (fun q _ h => hFc q h) hFc (fun r_4 u t H1 locs ht hvm hw_5 hB hz1 hk1 hS => ?_)
  have hP1 : va_P (dC, dI) vwCl [] H1 := i_nilP
  have hD1 : va_D (va_A [] H.size) [] := i_nilD
  try dsimp only at hw_5
  obtain ⟨hP, hD⟩ := va_join (wr := [(h0, .inr (7, [.int 0, .ref m_width, .ref m_many, .ref m_cells, .ref m_moved, .ref m_tape, .int 0, .int 0, .int 0, .int 0, .int 0, .long 0, .int 0, .int 0, .int 0, .int (-1), .ref m_lines, .ref m_has, .ref m_state, .ref m_gate, .ref m_guest, .ref m_gone, .int 0, .ref m_isKept, .ref m_first, .ref m_second, .int 0, .ref m_far, .ref m_wished, .ref m_wasState, .ref m_isHere, .ref m_round, .ref m_bestRound, .int 0, .int 0, .long 0, .long 0, .ref m_taken, .int 0])), (m_has, .inl (k_has, 45, .inl (fun _ => 0)))]) (w1 := []) hP hD [] [0, 1] rfl rfl (by decide) (by decide) hk1 hFc hP1 hD1
  generalize H1 = H at hP hS ⊢
  have hP : va_P (dC, dI) vwCl [(h0, .inr (7, [.int 0, .ref m_width, .ref m_many, .ref m_cells, .ref m_moved, .ref m_tape, .int 0, .int 0, .int 0, .int 0, .int 0, .long 0, .int 0, .int 0, .int 0, .int (-1), .ref m_lines, .ref m_has, .ref m_state, .ref m_gate, .ref m_guest, .ref m_gone, .int 0, .ref m_isKept, .ref m_first, .ref m_second, .int 0, .ref m_far, .ref m_wished, .ref m_wasState, .ref m_isHere, .ref m_round, .ref m_bestRound, .int 0, .int 0, .long 0, .long 0, .ref m_taken, .int 0])), (m_has, .inl (k_has, 45, .inl (fun _ => 0)))] H := hP
  have hD : va_D A [(h0, .inr (7, [.int 0, .ref m_width, .ref m_many, .ref m_cells, .ref m_moved, .ref m_tape, .int 0, .int 0, .int 0, .int 0, .int 0, .long 0, .int 0, .int 0, .int 0, .int (-1), .ref m_lines, .ref m_has, .ref m_state, .ref m_gate, .ref m_guest, .ref m_gone, .int 0, .ref m_isKept, .ref m_first, .ref m_second, .int 0, .ref m_far, .ref m_wished, .ref m_wasState, .ref m_isHere, .ref m_round, .ref m_bestRound, .int 0, .int 0, .long 0, .long 0, .ref m_taken, .int 0])), (m_has, .inl (k_has, 45, .inl (fun _ => 0)))] := hD
  rcases i_bool hw_5 with ⟨r_49, hC⟩ | ⟨r_49, hC⟩
  · obtain rfl : r_4 = 1 := r_49
    have hC_6 := hC
    have hP9 := hP.sub (ws' := [(h0, .inr (7, [.int 0, .ref m_width, .ref m_many, .ref m_cells, .ref m_moved, .ref m_tape, .int 0, .int 0, .int 0, .int 0, .int 0, .long 0, .int 0, .int 0, .int 0, .int (-1), .ref m_lines, .ref m_has, .ref m_state, .ref m_gate, .ref m_guest, .ref m_gone, .int 0, .ref m_isKept, .ref m_first, .ref m_second, .int 0, .ref m_far, .ref m_wished, .ref m_wasState, .ref m_isHere, .ref m_round, .ref m_bestRound, .int 0, .int 0, .long 0, .long 0, .ref m_taken, .int 0])), (m_has, .inl (k_has, 45, .inl (fun _ => 0)))]) [0, 1] rfl
    have hD9 := hD.sub (ws' := [(h0, .inr (7, [.int 0, .ref m_width, .ref m_many, .ref m_cells, .ref m_moved, .ref m_tape, .int 0, .int 0, .int 0, .int 0, .int 0, .long 0, .int 0, .int 0, .int 0, .int (-1), .ref m_lines, .ref m_has, .ref m_state, .ref m_gate, .ref m_guest, .ref m_gone, .int 0, .ref m_isKept, .ref m_first, .ref m_second, .int 0, .ref m_far, .ref m_wished, .ref m_wasState, .ref m_isHere, .ref m_round, .ref m_bestRound, .int 0, .int 0, .long 0, .long 0, .ref m_taken, .int 0])), (m_has, .inl (k_has, 45, .inl (fun _ => 0)))]) [0, 1] (by decide) rfl
    have hK9 := hK.sub (tys' := []) [] rfl
    refine W.widen (k := 0) (n := 0) (by omega) (by omega) ?_
    exact W.zret (v := 1) hx hb hr (by decide) (fun t ht hW => ⟨⟨1, (), rfl, (by first | rfl | ((repeat' split) <;> (first | rfl | (exfalso; omega)))), by rw [ht]; exact hP9, va_K.moved hW.alike hK9, hD9⟩, hS.F ht⟩) hS.2.2 dX7_isCell_13
  · obtain rfl : r_4 = 0 := r_49
    have hC_7 := hC
    have hP9 := hP.sub (ws' := [(h0, .inr (7, [.int 0, .ref m_width, .ref m_many, .ref m_cells, .ref m_moved, .ref m_tape, .int 0, .int 0, .int 0, .int 0, .int 0, .long 0, .int 0, .int 0, .int 0, .int (-1), .ref m_lines, .ref m_has, .ref m_state, .ref m_gate, .ref m_guest, .ref m_gone, .int 0, .ref m_isKept, .ref m_first, .ref m_second, .int 0, .ref m_far, .ref m_wished, .ref m_wasState, .ref m_isHere, .ref m_round, .ref m_bestRound, .int 0, .int 0, .long 0, .long 0, .ref m_taken, .int 0])), (m_has, .inl (k_has, 45, .inl (fun _ => 0)))]) [0, 1] rfl
    have hD9 := hD.sub (ws' := [(h0, .inr (7, [.int 0, .ref m_width, .ref m_many, .ref m_cells, .ref m_moved, .ref m_tape, .int 0, .int 0, .int 0, .int 0, .int 0, .long 0, .int 0, .int 0, .int 0, .int (-1), .ref m_lines, .ref m_has, .ref m_state, .ref m_gate, .ref m_guest, .ref m_gone, .int 0, .ref m_isKept, .ref m_first, .ref m_second, .int 0, .ref m_far, .ref m_wished, .ref m_wasState, .ref m_isHere, .ref m_round, .ref m_bestRound, .int 0, .int 0, .long 0, .long 0, .ref m_taken, .int 0])), (m_has, .inl (k_has, 45, .inl (fun _ => 0)))]) [0, 1] (by decide) rfl
    have hK9 := hK.sub (tys' := []) [] rfl
    refine W.widen (k := 0) (n := 0) (by omega) (by omega) ?_
    exact W.zret (v := 0) hx hb hr (by decide) (fun t ht hW => ⟨⟨0, (), rfl, (by first | rfl | ((repeat' split) <;> (first | rfl | (exfalso; omega)))), by rw [ht]; exact hP9, va_K.moved hW.alike hK9, hD9⟩, hS.F ht⟩) hS.2.2 dX7_isCell_13

theorem dX7_isSide_0 : decode cX7_isSide 0 = .ok (.aload_n 0, 1) := by decide +kernel
theorem dX7_isSide_1 : decode cX7_isSide 1 = .ok (.invokevirtual 263, 3) := by decide +kernel
theorem dX7_isSide_4 : decode cX7_isSide 4 = .ok (.ifCond .eq 22, 3) := by decide +kernel
theorem dX7_isSide_26 : decode cX7_isSide 26 = .ok (.iconst 0, 1) := by decide +kernel
theorem dX7_isSide_27 : decode cX7_isSide 27 = .ok (.ireturn, 1) := by decide +kernel
def wz_X7_isSide : List Cond := .code yX7_isSide cX7_isSide 3 (some .boolean) :: ([Cond.methodLink RX7 263 yX7_isMaze, Cond.instanceMethod yX7_isMaze, Cond.selects RX7 yX7_isMaze yX7_isMaze, Cond.initialized RX7, Cond.code yX7_isMaze cX7_isMaze 1 (some .boolean), Cond.fieldLink RX7 31 "HedgeMazeModel" "lines" "[I"] ++ wsX70)
set_option maxRecDepth 20000 in
theorem g_X7_isSide_X7_isMaze : GoodIn wz_X7_isSide (wsV RX7 263 RX7 yX7_isMaze wz_X7_isMaze) := goodIn_r _ [1, 2, 3, 4, 5, 6, 7, 8, 9, 10, 11, 12, 13, 14, 15, 16, 17, 18, 19, 20, 21, 22, 23, 24, 25, 26, 27, 28, 29, 30, 31, 32, 33, 34, 35, 36, 37, 38, 39, 40, 41, 42, 43, 44, 45] rfl (by decide +kernel)
set_option maxHeartbeats 4000000 in
set_option maxRecDepth 100000 in
theorem c_X7_isSide (l : Launch) (dC : Nat → ClassId) (dI : Nat → Nat → Nat) (sz : Nat) (h0 : Nat) (m_width : Nat) (m_many : Nat) (m_cells : Nat) (m_moved : Nat) (m_tape : Nat) (m_lines : Nat) (m_has : Nat) (m_state : Nat) (m_gate : Nat) (m_guest : Nat) (m_gone : Nat) (m_isKept : Nat) (m_first : Nat) (m_second : Nat) (m_far : Nat) (m_wished : Nat) (m_wasState : Nat) (m_isHere : Nat) (m_round : Nat) (m_bestRound : Nat) (m_taken : Nat) (k_lines : ClassId) (p0 : Int64)  : Met l yX7_isSide wz_X7_isSide ({ frames := 1, cells := 0, slots := 0, locals := 20 }) (va_Pc [.ref h0, .long p0] (fun U => U.heap.size = sz ∧ va_P (dC, dI) vwCl [(h0, .inr (7, [.int 0, .ref m_width, .ref m_many, .ref m_cells, .ref m_moved, .ref m_tape, .int 0, .int 0, .int 0, .int 0, .int 0, .long 0, .int 0, .int 0, .int 0, .int (-1), .ref m_lines, .ref m_has, .ref m_state, .ref m_gate, .ref m_guest, .ref m_gone, .int 0, .ref m_isKept, .ref m_first, .ref m_second, .int 0, .ref m_far, .ref m_wished, .ref m_wasState, .ref m_isHere, .ref m_round, .ref m_bestRound, .int 0, .int 0, .long 0, .long 0, .ref m_taken, .int 0])), (m_lines, .inl (k_lines, 5, .inl (fun _ => 0)))] U.heap ∧ va_K (dC, dI) vwCl [(k_lines, .int)] U ∧ va_D (fun _ => True) [(h0, .inr (7, [.int 0, .ref m_width, .ref m_many, .ref m_cells, .ref m_moved, .ref m_tape, .int 0, .int 0, .int 0, .int 0, .int 0, .long 0, .int 0, .int 0, .int 0, .int (-1), .ref m_lines, .ref m_has, .ref m_state, .ref m_gate, .ref m_guest, .ref m_gone, .int 0, .ref m_isKept, .ref m_first, .ref m_second, .int 0, .ref m_far, .ref m_wished, .ref m_wasState, .ref m_isHere, .ref m_round, .ref m_bestRound, .int 0, .int 0, .long 0, .long 0, .ref m_taken, .int 0])), (m_lines, .inl (k_lines, 5, .inl (fun _ => 0)))])) (va_Qi (fun (r : Int32) (u : Unit) => r = 0) (fun (u : Unit) (t : State) => va_P (dC, dI) vwCl [(h0, .inr (7, [.int 0, .ref m_width, .ref m_many, .ref m_cells, .ref m_moved, .ref m_tape, .int 0, .int 0, .int 0, .int 0, .int 0, .long 0, .int 0, .int 0, .int 0, .int (-1), .ref m_lines, .ref m_has, .ref m_state, .ref m_gate, .ref m_guest, .ref m_gone, .int 0, .ref m_isKept, .ref m_first, .ref m_second, .int 0, .ref m_far, .ref m_wished, .ref m_wasState, .ref m_isHere, .ref m_round, .ref m_bestRound, .int 0, .int 0, .long 0, .long 0, .ref m_taken, .int 0])), (m_lines, .inl (k_lines, 5, .inl (fun _ => 0)))] t.heap ∧ va_K (dC, dI) vwCl [] t ∧ va_D (va_A [(h0, .inr (7, [.int 0, .ref m_width, .ref m_many, .ref m_cells, .ref m_moved, .ref m_tape, .int 0, .int 0, .int 0, .int 0, .int 0, .long 0, .int 0, .int 0, .int 0, .int (-1), .ref m_lines, .ref m_has, .ref m_state, .ref m_gate, .ref m_guest, .ref m_gone, .int 0, .ref m_isKept, .ref m_first, .ref m_second, .int 0, .ref m_far, .ref m_wished, .ref m_wasState, .ref m_isHere, .ref m_round, .ref m_bestRound, .int 0, .int 0, .long 0, .long 0, .ref m_taken, .int 0])), (m_lines, .inl (k_lines, 5, .inl (fun _ => 0)))] sz) [(h0, .inr (7, [.int 0, .ref m_width, .ref m_many, .ref m_cells, .ref m_moved, .ref m_tape, .int 0, .int 0, .int 0, .int 0, .int 0, .long 0, .int 0, .int 0, .int 0, .int (-1), .ref m_lines, .ref m_has, .ref m_state, .ref m_gate, .ref m_guest, .ref m_gone, .int 0, .ref m_isKept, .ref m_first, .ref m_second, .int 0, .ref m_far, .ref m_wished, .ref m_wasState, .ref m_isHere, .ref m_round, .ref m_bestRound, .int 0, .int 0, .long 0, .long 0, .ref m_taken, .int 0])), (m_lines, .inl (k_lines, 5, .inl (fun _ => 0)))]) (va_A [(h0, .inr (7, [.int 0, .ref m_width, .ref m_many, .ref m_cells, .ref m_moved, .ref m_tape, .int 0, .int 0, .int 0, .int 0, .int 0, .long 0, .int 0, .int 0, .int 0, .int (-1), .ref m_lines, .ref m_has, .ref m_state, .ref m_gate, .ref m_guest, .ref m_gone, .int 0, .ref m_isKept, .ref m_first, .ref m_second, .int 0, .ref m_far, .ref m_wished, .ref m_wasState, .ref m_isHere, .ref m_round, .ref m_bestRound, .int 0, .int 0, .long 0, .long 0, .ref m_taken, .int 0])), (m_lines, .inl (k_lines, 5, .inl (fun _ => 0)))] sz)) 0 0 (va_A [(h0, .inr (7, [.int 0, .ref m_width, .ref m_many, .ref m_cells, .ref m_moved, .ref m_tape, .int 0, .int 0, .int 0, .int 0, .int 0, .long 0, .int 0, .int 0, .int 0, .int (-1), .ref m_lines, .ref m_has, .ref m_state, .ref m_gate, .ref m_guest, .ref m_gone, .int 0, .ref m_isKept, .ref m_first, .ref m_second, .int 0, .ref m_far, .ref m_wished, .ref m_wasState, .ref m_isHere, .ref m_round, .ref m_bestRound, .int 0, .int 0, .long 0, .long 0, .ref m_taken, .int 0])), (m_lines, .inl (k_lines, 5, .inl (fun _ => 0)))] sz) := by
  refine Met.ofW (cc := cX7_isSide) (maxL := 3) (ret := (some .boolean)) (by decide) rfl ?_
  intro p e s m args below meth c s₁ B hml hv
  obtain ⟨rfl, hsz, hP, hK, hD0⟩ := hv
  have hx := B.exec
  have hb := B.bytes
  have hr := B.returns
  have hts := atoms_spec (ws := wz_X7_isSide) B.pre
  have hown : s.vm.findClass RX7 = some m.cls := findClass_of_methodNamed B.named
  have hlocks := B.notSynchronized
  subst hsz
  have hD := hD0.self (sz := s.heap.size)
  generalize hAe : va_A [(h0, .inr (7, [.int 0, .ref m_width, .ref m_many, .ref m_cells, .ref m_moved, .ref m_tape, .int 0, .int 0, .int 0, .int 0, .int 0, .long 0, .int 0, .int 0, .int 0, .int (-1), .ref m_lines, .ref m_has, .ref m_state, .ref m_gate, .ref m_guest, .ref m_gone, .int 0, .ref m_isKept, .ref m_first, .ref m_second, .int 0, .ref m_far, .ref m_wished, .ref m_wasState, .ref m_isHere, .ref m_round, .ref m_bestRound, .int 0, .int 0, .long 0, .long 0, .ref m_taken, .int 0])), (m_lines, .inl (k_lines, 5, .inl (fun _ => 0)))] s.heap.size = A at hD ⊢
  have hA : ∀ q : Nat, s.heap.size ≤ q → A q := fun q h => by rw [← hAe]; exact Or.inr h
  have hS : va_S A s.heap s.heap [] := va_S.rf
  have hP : va_P (dC, dI) vwCl [(h0, .inr (7, [.int 0, .ref m_width, .ref m_many, .ref m_cells, .ref m_moved, .ref m_tape, .int 0, .int 0, .int 0, .int 0, .int 0, .long 0, .int 0, .int 0, .int 0, .int (-1), .ref m_lines, .ref m_has, .ref m_state, .ref m_gate, .ref m_guest, .ref m_gone, .int 0, .ref m_isKept, .ref m_first, .ref m_second, .int 0, .ref m_far, .ref m_wished, .ref m_wasState, .ref m_isHere, .ref m_round, .ref m_bestRound, .int 0, .int 0, .long 0, .long 0, .ref m_taken, .int 0])), (m_lines, .inl (k_lines, 5, .inl (fun _ => 0)))] s.heap := hP
  have hl := lv_entry ([.ref h0, .long p0]) (n := 3) (Nat.le_of_ble_eq_true rfl)
  rw [lg_entry_eq]
  generalize (lg_sl ([.ref h0, .long p0]) ++ List.replicate (3 - (lg_sl ([.ref h0, .long p0])).length) Slot.unset).toArray = ls at hl ⊢
  have hl : lv_has ls 3 [(0, .ref h0), (1, .long p0)] := hl
  refine lv_aload_n hx hb dX7_isSide_0 rfl (lv_at hl 0 rfl) ?_
  have hPc := hP.sub (ws' := [(h0, .inr (7, [.int 0, .ref m_width, .ref m_many, .ref m_cells, .ref m_moved, .ref m_tape, .int 0, .int 0, .int 0, .int 0, .int 0, .long 0, .int 0, .int 0, .int 0, .int (-1), .ref m_lines, .ref m_has, .ref m_state, .ref m_gate, .ref m_guest, .ref m_gone, .int 0, .ref m_isKept, .ref m_first, .ref m_second, .int 0, .ref m_far, .ref m_wished, .ref m_wasState, .ref m_isHere, .ref m_round, .ref m_bestRound, .int 0, .int 0, .long 0, .long 0, .ref m_taken, .int 0])), (m_lines, .inl (k_lines, 5, .inl (fun _ => 0)))]) [0, 1] rfl
  have hDc := hD.sub (ws' := [(h0, .inr (7, [.int 0, .ref m_width, .ref m_many, .ref m_cells, .ref m_moved, .ref m_tape, .int 0, .int 0, .int 0, .int 0, .int 0, .long 0, .int 0, .int 0, .int 0, .int (-1), .ref m_lines, .ref m_has, .ref m_state, .ref m_gate, .ref m_guest, .ref m_gone, .int 0, .ref m_isKept, .ref m_first, .ref m_second, .int 0, .ref m_far, .ref m_wished, .ref m_wasState, .ref m_isHere, .ref m_round, .ref m_bestRound, .int 0, .int 0, .long 0, .long 0, .ref m_taken, .int 0])), (m_lines, .inl (k_lines, 5, .inl (fun _ => 0)))]) [0, 1] (by decide) rfl
  have hKc := hK.sub (tys' := [(k_lines, .int)]) [0] rfl
  have hFc := va_free (wc := [(h0, .inr (7, [.int 0, .ref m_width, .ref m_many, .ref m_cells, .ref m_moved, .ref m_tape, .int 0, .int 0, .int 0, .int 0, .int 0, .long 0, .int 0, .int 0, .int 0, .int (-1), .ref m_lines, .ref m_has, .ref m_state, .ref m_gate, .ref m_guest, .ref m_gone, .int 0, .ref m_isKept, .ref m_first, .ref m_second, .int 0, .ref m_far, .ref m_wished, .ref m_wasState, .ref m_isHere, .ref m_round, .ref m_bestRound, .int 0, .int 0, .long 0, .long 0, .ref m_taken, .int 0])), (m_lines, .inl (k_lines, 5, .inl (fun _ => 0)))]) hD hS hA [0, 1] rfl
  refine va_calli (va_runV (As := []) (rest := []) ⟨hx, hb, hml, hown, hts⟩ (c_X7_isMaze l dC dI s.heap.size h0 m_width m_many m_cells m_moved m_tape m_lines m_has m_state m_gate m_guest m_gone m_isKept m_first m_second m_far m_wished m_wasState m_isHere m_round m_bestRound m_taken k_lines ) (cwV 0 hts g_X7_isSide_X7_isMaze rfl rfl rfl (by decide +kernel) ⟨Nat.le_of_ble_eq_true rfl, Nat.le_of_ble_eq_true rfl⟩) ⟨fun a U g mk q => by obtain ⟨q0, q1, qP, qK, qD⟩ := q; exact ⟨q0, q1, qP, va_K.moved (u := U) (U := U.calling g mk a) (Vm.Alike.refl U.vm) qK, qD⟩, va_recv hKc hPc (ci := 7) (q0 := 0) rfl rfl, fun U hU hW => ⟨rfl, by rw [hU], by rw [hU]; exact hPc, va_K.moved hW.alike hKc, hDc.weaken (fun _ _ _ _ => trivial)⟩⟩ rfl rfl hl.1 rfl (lv_room (Nat.le_of_ble_eq_true rfl)) dX7_isSide_1 ⟨Nat.le_of_ble_eq_true rfl, Nat.le_of_ble_eq_true rfl⟩) hS (fun q _ h => hFc q h) hFc (fun r_1 u t H1 locs ht hvm hw_2 hB hz1 hk1 hS => ?_)
  obtain ⟨hP1, hK1, hD1⟩ := hB
  have hP1 : va_P (dC, dI) vwCl [(h0, .inr (7, [.int 0, .ref m_width, .ref m_many, .ref m_cells, .ref m_moved, .ref m_tape, .int 0, .int 0, .int 0, .int 0, .int 0, .long 0, .int 0, .int 0, .int 0, .int (-1), .ref m_lines, .ref m_has, .ref m_state, .ref m_gate, .ref m_guest, .ref m_gone, .int 0, .ref m_isKept, .ref m_first, .ref m_second, .int 0, .ref m_far, .ref m_wished, .ref m_wasState, .ref m_isHere, .ref m_round, .ref m_bestRound, .int 0, .int 0, .long 0, .long 0, .ref m_taken, .int 0])), (m_lines, .inl (k_lines, 5, .inl (fun _ => 0)))] t.heap := hP1
  rw [ht] at hP1
  try dsimp only at hw_2
  obtain ⟨hP, hD⟩ := va_join (wr := []) (w1 := [(h0, .inr (7, [.int 0, .ref m_width, .ref m_many, .ref m_cells, .ref m_moved, .ref m_tape, .int 0, .int 0, .int 0, .int 0, .int 0, .long 0, .int 0, .int 0, .int 0, .int (-1), .ref m_lines, .ref m_has, .ref m_state, .ref m_gate, .ref m_guest, .ref m_gone, .int 0, .ref m_isKept, .ref m_first, .ref m_second, .int 0, .ref m_far, .ref m_wished, .ref m_wasState, .ref m_isHere, .ref m_round, .ref m_bestRound, .int 0, .int 0, .long 0, .long 0, .ref m_taken, .int 0])), (m_lines, .inl (k_lines, 5, .inl (fun _ => 0)))]) hP hD [0, 1] [] rfl rfl (by decide) (by decide) hk1 hFc hP1 hD1
  generalize H1 = H at hP hS ⊢
  have hP : va_P (dC, dI) vwCl [(h0, .inr (7, [.int 0, .ref m_width, .ref m_many, .ref m_cells, .ref m_moved, .ref m_tape, .int 0, .int 0, .int 0, .int 0, .int 0, .long 0, .int 0, .int 0, .int 0, .int (-1), .ref m_lines, .ref m_has, .ref m_state, .ref m_gate, .ref m_guest, .ref m_gone, .int 0, .ref m_isKept, .ref m_first, .ref m_second, .int 0, .ref m_far, .ref m_wished, .ref m_wasState, .ref m_isHere, .ref m_round, .ref m_bestRound, .int 0, .int 0, .long 0, .long 0, .ref m_taken, .int 0])), (m_lines, .inl (k_lines, 5, .inl (fun _ => 0)))] H := hP
  have hD : va_D A [(h0, .inr (7, [.int 0, .ref m_width, .ref m_many, .ref m_cells, .ref m_moved, .ref m_tape, .int 0, .int 0, .int 0, .int 0, .int 0, .long 0, .int 0, .int 0, .int 0, .int (-1), .ref m_lines, .ref m_has, .ref m_state, .ref m_gate, .ref m_guest, .ref m_gone, .int 0, .ref m_isKept, .ref m_first, .ref m_second, .int 0, .ref m_far, .ref m_wished, .ref m_wasState, .ref m_isHere, .ref m_round, .ref m_bestRound, .int 0, .int 0, .long 0, .long 0, .ref m_taken, .int 0])), (m_lines, .inl (k_lines, 5, .inl (fun _ => 0)))] := hD
  obtain rfl : r_1 = 0 := hw_2
  refine lv_if_eq (tgt := 26) hx hb dX7_isSide_4 (by decide) (fun _ => ?_) (fun h => absurd (by decide) h)
  refine lv_iconst (v := 0) hx hb dX7_isSide_26 (by decide) ?_
  have hP9 := hP.sub (ws' := [(h0, .inr (7, [.int 0, .ref m_width, .ref m_many, .ref m_cells, .ref m_moved, .ref m_tape, .int 0, .int 0, .int 0, .int 0, .int 0, .long 0, .int 0, .int 0, .int 0, .int (-1), .ref m_lines, .ref m_has, .ref m_state, .ref m_gate, .ref m_guest, .ref m_gone, .int 0, .ref m_isKept, .ref m_first, .ref m_second, .int 0, .ref m_far, .ref m_wished, .ref m_wasState, .ref m_isHere, .ref m_round, .ref m_bestRound, .int 0, .int 0, .long 0, .long 0, .ref m_taken, .int 0])), (m_lines, .inl (k_lines, 5, .inl (fun _ => 0)))]) [0, 1] rfl
  have hD9 := hD.sub (ws' := [(h0, .inr (7, [.int 0, .ref m_width, .ref m_many, .ref m_cells, .ref m_moved, .ref m_tape, .int 0, .int 0, .int 0, .int 0, .int 0, .long 0, .int 0, .int 0, .int 0, .int (-1), .ref m_lines, .ref m_has, .ref m_state, .ref m_gate, .ref m_guest, .ref m_gone, .int 0, .ref m_isKept, .ref m_first, .ref m_second, .int 0, .ref m_far, .ref m_wished, .ref m_wasState, .ref m_isHere, .ref m_round, .ref m_bestRound, .int 0, .int 0, .long 0, .long 0, .ref m_taken, .int 0])), (m_lines, .inl (k_lines, 5, .inl (fun _ => 0)))]) [0, 1] (by decide) rfl
  have hK9 := hK.sub (tys' := []) [] rfl
  refine W.widen (k := 0) (n := 0) (by omega) (by omega) ?_
  exact W.zret (v := 0) hx hb hr (by decide) (fun t ht hW => ⟨⟨0, (), rfl, (by first | rfl | ((repeat' split) <;> (first | rfl | (exfalso; omega)))), by rw [ht]; exact hP9, va_K.moved hW.alike hK9, hD9⟩, hS.F ht⟩) hS.2.2 dX7_isSide_27

theorem dX7_isHold_0 : decode cX7_isHold 0 = .ok (.aload_n 0, 1) := by decide +kernel
theorem dX7_isHold_1 : decode cX7_isHold 1 = .ok (.invokevirtual 263, 3) := by decide +kernel
theorem dX7_isHold_4 : decode cX7_isHold 4 = .ok (.ifCond .eq 31, 3) := by decide +kernel
theorem dX7_isHold_35 : decode cX7_isHold 35 = .ok (.iconst 0, 1) := by decide +kernel
theorem dX7_isHold_36 : decode cX7_isHold 36 = .ok (.ireturn, 1) := by decide +kernel
def wz_X7_isHold : List Cond := .code yX7_isHold cX7_isHold 3 (some .boolean) :: ([Cond.methodLink RX7 263 yX7_isMaze, Cond.instanceMethod yX7_isMaze, Cond.selects RX7 yX7_isMaze yX7_isMaze, Cond.initialized RX7, Cond.code yX7_isMaze cX7_isMaze 1 (some .boolean), Cond.fieldLink RX7 31 "HedgeMazeModel" "lines" "[I"] ++ wsX70)
set_option maxRecDepth 20000 in
theorem g_X7_isHold_X7_isMaze : GoodIn wz_X7_isHold (wsV RX7 263 RX7 yX7_isMaze wz_X7_isMaze) := goodIn_r _ [1, 2, 3, 4, 5, 6, 7, 8, 9, 10, 11, 12, 13, 14, 15, 16, 17, 18, 19, 20, 21, 22, 23, 24, 25, 26, 27, 28, 29, 30, 31, 32, 33, 34, 35, 36, 37, 38, 39, 40, 41, 42, 43, 44, 45] rfl (by decide +kernel)
set_option maxHeartbeats 4000000 in
set_option maxRecDepth 100000 in
theorem c_X7_isHold (l : Launch) (dC : Nat → ClassId) (dI : Nat → Nat → Nat) (sz : Nat) (h0 : Nat) (m_width : Nat) (m_many : Nat) (m_cells : Nat) (m_moved : Nat) (m_tape : Nat) (m_lines : Nat) (m_has : Nat) (m_state : Nat) (m_gate : Nat) (m_guest : Nat) (m_gone : Nat) (m_isKept : Nat) (m_first : Nat) (m_second : Nat) (m_far : Nat) (m_wished : Nat) (m_wasState : Nat) (m_isHere : Nat) (m_round : Nat) (m_bestRound : Nat) (m_taken : Nat) (k_lines : ClassId) (p0 : Int32) (p1 : Int32)  : Met l yX7_isHold wz_X7_isHold ({ frames := 1, cells := 0, slots := 0, locals := 20 }) (va_Pc [.ref h0, .int p0, .int p1] (fun U => U.heap.size = sz ∧ va_P (dC, dI) vwCl [(h0, .inr (7, [.int 0, .ref m_width, .ref m_many, .ref m_cells, .ref m_moved, .ref m_tape, .int 0, .int 0, .int 0, .int 0, .int 0, .long 0, .int 0, .int 0, .int 0, .int (-1), .ref m_lines, .ref m_has, .ref m_state, .ref m_gate, .ref m_guest, .ref m_gone, .int 0, .ref m_isKept, .ref m_first, .ref m_second, .int 0, .ref m_far, .ref m_wished, .ref m_wasState, .ref m_isHere, .ref m_round, .ref m_bestRound, .int 0, .int 0, .long 0, .long 0, .ref m_taken, .int 0])), (m_lines, .inl (k_lines, 5, .inl (fun _ => 0)))] U.heap ∧ va_K (dC, dI) vwCl [(k_lines, .int)] U ∧ va_D (fun _ => True) [(h0, .inr (7, [.int 0, .ref m_width, .ref m_many, .ref m_cells, .ref m_moved, .ref m_tape, .int 0, .int 0, .int 0, .int 0, .int 0, .long 0, .int 0, .int 0, .int 0, .int (-1), .ref m_lines, .ref m_has, .ref m_state, .ref m_gate, .ref m_guest, .ref m_gone, .int 0, .ref m_isKept, .ref m_first, .ref m_second, .int 0, .ref m_far, .ref m_wished, .ref m_wasState, .ref m_isHere, .ref m_round, .ref m_bestRound, .int 0, .int 0, .long 0, .long 0, .ref m_taken, .int 0])), (m_lines, .inl (k_lines, 5, .inl (fun _ => 0)))])) (va_Qi (fun (r : Int32) (u : Unit) => r = 0) (fun (_ : Unit) (_ : State) => True) (va_A [(h0, .inr (7, [.int 0, .ref m_width, .ref m_many, .ref m_cells, .ref m_moved, .ref m_tape, .int 0, .int 0, .int 0, .int 0, .int 0, .long 0, .int 0, .int 0, .int 0, .int (-1), .ref m_lines, .ref m_has, .ref m_state, .ref m_gate, .ref m_guest, .ref m_gone, .int 0, .ref m_isKept, .ref m_first, .ref m_second, .int 0, .ref m_far, .ref m_wished, .ref m_wasState, .ref m_isHere, .ref m_round, .ref m_bestRound, .int 0, .int 0, .long 0, .long 0, .ref m_taken, .int 0])), (m_lines, .inl (k_lines, 5, .inl (fun _ => 0)))] sz)) 0 0 (va_A [(h0, .inr (7, [.int 0, .ref m_width, .ref m_many, .ref m_cells, .ref m_moved, .ref m_tape, .int 0, .int 0, .int 0, .int 0, .int 0, .long 0, .int 0, .int 0, .int 0, .int (-1), .ref m_lines, .ref m_has, .ref m_state, .ref m_gate, .ref m_guest, .ref m_gone, .int 0, .ref m_isKept, .ref m_first, .ref m_second, .int 0, .ref m_far, .ref m_wished, .ref m_wasState, .ref m_isHere, .ref m_round, .ref m_bestRound, .int 0, .int 0, .long 0, .long 0, .ref m_taken, .int 0])), (m_lines, .inl (k_lines, 5, .inl (fun _ => 0)))] sz) := by
  refine Met.ofW (cc := cX7_isHold) (maxL := 3) (ret := (some .boolean)) (by decide) rfl ?_
  intro p e s m args below meth c s₁ B hml hv
  obtain ⟨rfl, hsz, hP, hK, hD0⟩ := hv
  have hx := B.exec
  have hb := B.bytes
  have hr := B.returns
  have hts := atoms_spec (ws := wz_X7_isHold) B.pre
  have hown : s.vm.findClass RX7 = some m.cls := findClass_of_methodNamed B.named
  have hlocks := B.notSynchronized
  subst hsz
  have hD := hD0.self (sz := s.heap.size)
  generalize hAe : va_A [(h0, .inr (7, [.int 0, .ref m_width, .ref m_many, .ref m_cells, .ref m_moved, .ref m_tape, .int 0, .int 0, .int 0, .int 0, .int 0, .long 0, .int 0, .int 0, .int 0, .int (-1), .ref m_lines, .ref m_has, .ref m_state, .ref m_gate, .ref m_guest, .ref m_gone, .int 0, .ref m_isKept, .ref m_first, .ref m_second, .int 0, .ref m_far, .ref m_wished, .ref m_wasState, .ref m_isHere, .ref m_round, .ref m_bestRound, .int 0, .int 0, .long 0, .long 0, .ref m_taken, .int 0])), (m_lines, .inl (k_lines, 5, .inl (fun _ => 0)))] s.heap.size = A at hD ⊢
  have hA : ∀ q : Nat, s.heap.size ≤ q → A q := fun q h => by rw [← hAe]; exact Or.inr h
  have hS : va_S A s.heap s.heap [] := va_S.rf
  have hP : va_P (dC, dI) vwCl [(h0, .inr (7, [.int 0, .ref m_width, .ref m_many, .ref m_cells, .ref m_moved, .ref m_tape, .int 0, .int 0, .int 0, .int 0, .int 0, .long 0, .int 0, .int 0, .int 0, .int (-1), .ref m_lines, .ref m_has, .ref m_state, .ref m_gate, .ref m_guest, .ref m_gone, .int 0, .ref m_isKept, .ref m_first, .ref m_second, .int 0, .ref m_far, .ref m_wished, .ref m_wasState, .ref m_isHere, .ref m_round, .ref m_bestRound, .int 0, .int 0, .long 0, .long 0, .ref m_taken, .int 0])), (m_lines, .inl (k_lines, 5, .inl (fun _ => 0)))] s.heap := hP
  have hl := lv_entry ([.ref h0, .int p0, .int p1]) (n := 3) (Nat.le_of_ble_eq_true rfl)
  rw [lg_entry_eq]
  generalize (lg_sl ([.ref h0, .int p0, .int p1]) ++ List.replicate (3 - (lg_sl ([.ref h0, .int p0, .int p1])).length) Slot.unset).toArray = ls at hl ⊢
  have hl : lv_has ls 3 [(0, .ref h0), (1, .int p0), (2, .int p1)] := hl
  refine lv_aload_n hx hb dX7_isHold_0 rfl (lv_at hl 0 rfl) ?_
  have hPc := hP.sub (ws' := [(h0, .inr (7, [.int 0, .ref m_width, .ref m_many, .ref m_cells, .ref m_moved, .ref m_tape, .int 0, .int 0, .int 0, .int 0, .int 0, .long 0, .int 0, .int 0, .int 0, .int (-1), .ref m_lines, .ref m_has, .ref m_state, .ref m_gate, .ref m_guest, .ref m_gone, .int 0, .ref m_isKept, .ref m_first, .ref m_second, .int 0, .ref m_far, .ref m_wished, .ref m_wasState, .ref m_isHere, .ref m_round, .ref m_bestRound, .int 0, .int 0, .long 0, .long 0, .ref m_taken, .int 0])), (m_lines, .inl (k_lines, 5, .inl (fun _ => 0)))]) [0, 1] rfl
  have hDc := hD.sub (ws' := [(h0, .inr (7, [.int 0, .ref m_width, .ref m_many, .ref m_cells, .ref m_moved, .ref m_tape, .int 0, .int 0, .int 0, .int 0, .int 0, .long 0, .int 0, .int 0, .int 0, .int (-1), .ref m_lines, .ref m_has, .ref m_state, .ref m_gate, .ref m_guest, .ref m_gone, .int 0, .ref m_isKept, .ref m_first, .ref m_second, .int 0, .ref m_far, .ref m_wished, .ref m_wasState, .ref m_isHere, .ref m_round, .ref m_bestRound, .int 0, .int 0, .long 0, .long 0, .ref m_taken, .int 0])), (m_lines, .inl (k_lines, 5, .inl (fun _ => 0)))]) [0, 1] (by decide) rfl
  have hKc := hK.sub (tys' := [(k_lines, .int)]) [0] rfl
  have hFc := va_free (wc := [(h0, .inr (7, [.int 0, .ref m_width, .ref m_many, .ref m_cells, .ref m_moved, .ref m_tape, .int 0, .int 0, .int 0, .int 0, .int 0, .long 0, .int 0, .int 0, .int 0, .int (-1), .ref m_lines, .ref m_has, .ref m_state, .ref m_gate, .ref m_guest, .ref m_gone, .int 0, .ref m_isKept, .ref m_first, .ref m_second, .int 0, .ref m_far, .ref m_wished, .ref m_wasState, .ref m_isHere, .ref m_round, .ref m_bestRound, .int 0, .int 0, .long 0, .long 0, .ref m_taken, .int 0])), (m_lines, .inl (k_lines, 5, .inl (fun _ => 0)))]) hD hS hA [0, 1] rfl
  refine va_calli (va_runV (As := []) (rest := []) ⟨hx, hb, hml, hown, hts⟩ (c_X7_isMaze l dC dI s.heap.size h0 m_width m_many m_cells m_moved m_tape m_lines m_has m_state m_gate m_guest m_gone m_isKept m_first m_second m_far m_wished m_wasState m_isHere m_round m_bestRound m_taken k_lines ) (cwV 0 hts g_X7_isHold_X7_isMaze rfl rfl rfl (by decide +kernel) ⟨Nat.le_of_ble_eq_true rfl, Nat.le_of_ble_eq_true rfl⟩) ⟨fun a U g mk q => by obtain ⟨q0, q1, qP, qK, qD⟩ := q; exact ⟨q0, q1, qP, va_K.moved (u := U) (U := U.calling g mk a) (Vm.Alike.refl U.vm) qK, qD⟩, va_recv hKc hPc (ci := 7) (q0 := 0) rfl rfl, fun U hU hW => ⟨rfl, by rw [hU], by rw [hU]; exact hPc, va_K.moved hW.alike hKc, hDc.weaken (fun _ _ _ _ => trivial)⟩⟩ rfl rfl hl.1 rfl (lv_room (Nat.le_of_ble_eq_true rfl)) dX7_isHold_1 ⟨Nat.le_of_ble_eq_true rfl, Nat.le_of_ble_eq_true rfl⟩) hS (fun q _ h => hFc q h) hFc (fun r_1 u t H1 locs ht hvm hw_2 hB hz1 hk1 hS => ?_)
  obtain ⟨hP1, hK1, hD1⟩ := hB
  have hP1 : va_P (dC, dI) vwCl [(h0, .inr (7, [.int 0, .ref m_width, .ref m_many, .ref m_cells, .ref m_moved, .ref m_tape, .int 0, .int 0, .int 0, .int 0, .int 0, .long 0, .int 0, .int 0, .int 0, .int (-1), .ref m_lines, .ref m_has, .ref m_state, .ref m_gate, .ref m_guest, .ref m_gone, .int 0, .ref m_isKept, .ref m_first, .ref m_second, .int 0, .ref m_far, .ref m_wished, .ref m_wasState, .ref m_isHere, .ref m_round, .ref m_bestRound, .int 0, .int 0, .long 0, .long 0, .ref m_taken, .int 0])), (m_lines, .inl (k_lines, 5, .inl (fun _ => 0)))] t.heap := hP1
  rw [ht] at hP1
  try dsimp only at hw_2
  obtain ⟨hP, hD⟩ := va_join (wr := []) (w1 := [(h0, .inr (7, [.int 0, .ref m_width, .ref m_many, .ref m_cells, .ref m_moved, .ref m_tape, .int 0, .int 0, .int 0, .int 0, .int 0, .long 0, .int 0, .int 0, .int 0, .int (-1), .ref m_lines, .ref m_has, .ref m_state, .ref m_gate, .ref m_guest, .ref m_gone, .int 0, .ref m_isKept, .ref m_first, .ref m_second, .int 0, .ref m_far, .ref m_wished, .ref m_wasState, .ref m_isHere, .ref m_round, .ref m_bestRound, .int 0, .int 0, .long 0, .long 0, .ref m_taken, .int 0])), (m_lines, .inl (k_lines, 5, .inl (fun _ => 0)))]) hP hD [0, 1] [] rfl rfl (by decide) (by decide) hk1 hFc hP1 hD1
  generalize H1 = H at hP hS ⊢
  have hP : va_P (dC, dI) vwCl [(h0, .inr (7, [.int 0, .ref m_width, .ref m_many, .ref m_cells, .ref m_moved, .ref m_tape, .int 0, .int 0, .int 0, .int 0, .int 0, .long 0, .int 0, .int 0, .int 0, .int (-1), .ref m_lines, .ref m_has, .ref m_state, .ref m_gate, .ref m_guest, .ref m_gone, .int 0, .ref m_isKept, .ref m_first, .ref m_second, .int 0, .ref m_far, .ref m_wished, .ref m_wasState, .ref m_isHere, .ref m_round, .ref m_bestRound, .int 0, .int 0, .long 0, .long 0, .ref m_taken, .int 0])), (m_lines, .inl (k_lines, 5, .inl (fun _ => 0)))] H := hP
  have hD : va_D A [(h0, .inr (7, [.int 0, .ref m_width, .ref m_many, .ref m_cells, .ref m_moved, .ref m_tape, .int 0, .int 0, .int 0, .int 0, .int 0, .long 0, .int 0, .int 0, .int 0, .int (-1), .ref m_lines, .ref m_has, .ref m_state, .ref m_gate, .ref m_guest, .ref m_gone, .int 0, .ref m_isKept, .ref m_first, .ref m_second, .int 0, .ref m_far, .ref m_wished, .ref m_wasState, .ref m_isHere, .ref m_round, .ref m_bestRound, .int 0, .int 0, .long 0, .long 0, .ref m_taken, .int 0])), (m_lines, .inl (k_lines, 5, .inl (fun _ => 0)))] := hD
  obtain rfl : r_1 = 0 := hw_2
  refine lv_if_eq (tgt := 35) hx hb dX7_isHold_4 (by decide) (fun _ => ?_) (fun h => absurd (by decide) h)
  refine lv_iconst (v := 0) hx hb dX7_isHold_35 (by decide) ?_
  refine W.widen (k := 0) (n := 0) (by omega) (by omega) ?_
  exact W.zret (v := 0) hx hb hr (by decide) (fun t ht hW => ⟨⟨0, (), rfl, (by first | rfl | ((repeat' split) <;> (first | rfl | (exfalso; omega)))), trivial⟩, hS.F ht⟩) hS.2.2 dX7_isHold_36

theorem dX7_isDrawn_0 : decode cX7_isDrawn 0 = .ok (.aload_n 0, 1) := by decide +kernel
theorem dX7_isDrawn_1 : decode cX7_isDrawn 1 = .ok (.invokevirtual 263, 3) := by decide +kernel
theorem dX7_isDrawn_4 : decode cX7_isDrawn 4 = .ok (.ifCond .eq 31, 3) := by decide +kernel
theorem dX7_isDrawn_35 : decode cX7_isDrawn 35 = .ok (.iconst 0, 1) := by decide +kernel
theorem dX7_isDrawn_36 : decode cX7_isDrawn 36 = .ok (.ireturn, 1) := by decide +kernel
def wz_X7_isDrawn : List Cond := .code yX7_isDrawn cX7_isDrawn 3 (some .boolean) :: ([Cond.methodLink RX7 263 yX7_isMaze, Cond.instanceMethod yX7_isMaze, Cond.selects RX7 yX7_isMaze yX7_isMaze, Cond.initialized RX7, Cond.code yX7_isMaze cX7_isMaze 1 (some .boolean), Cond.fieldLink RX7 31 "HedgeMazeModel" "lines" "[I"] ++ wsX70)
set_option maxRecDepth 20000 in
theorem g_X7_isDrawn_X7_isMaze : GoodIn wz_X7_isDrawn (wsV RX7 263 RX7 yX7_isMaze wz_X7_isMaze) := goodIn_r _ [1, 2, 3, 4, 5, 6, 7, 8, 9, 10, 11, 12, 13, 14, 15, 16, 17, 18, 19, 20, 21, 22, 23, 24, 25, 26, 27, 28, 29, 30, 31, 32, 33, 34, 35, 36, 37, 38, 39, 40, 41, 42, 43, 44, 45] rfl (by decide +kernel)
set_option maxHeartbeats 4000000 in
set_option maxRecDepth 100000 in
theorem c_X7_isDrawn (l : Launch) (dC : Nat → ClassId) (dI : Nat → Nat → Nat) (sz : Nat) (h0 : Nat) (m_width : Nat) (m_many : Nat) (m_cells : Nat) (m_moved : Nat) (m_tape : Nat) (m_lines : Nat) (m_has : Nat) (m_state : Nat) (m_gate : Nat) (m_guest : Nat) (m_gone : Nat) (m_isKept : Nat) (m_first : Nat) (m_second : Nat) (m_far : Nat) (m_wished : Nat) (m_wasState : Nat) (m_isHere : Nat) (m_round : Nat) (m_bestRound : Nat) (m_taken : Nat) (k_lines : ClassId) (p0 : Int32) (p1 : Int32)  : Met l yX7_isDrawn wz_X7_isDrawn ({ frames := 1, cells := 0, slots := 0, locals := 20 }) (va_Pc [.ref h0, .int p0, .int p1] (fun U => U.heap.size = sz ∧ va_P (dC, dI) vwCl [(h0, .inr (7, [.int 0, .ref m_width, .ref m_many, .ref m_cells, .ref m_moved, .ref m_tape, .int 0, .int 0, .int 0, .int 0, .int 0, .long 0, .int 0, .int 0, .int 0, .int (-1), .ref m_lines, .ref m_has, .ref m_state, .ref m_gate, .ref m_guest, .ref m_gone, .int 0, .ref m_isKept, .ref m_first, .ref m_second, .int 0, .ref m_far, .ref m_wished, .ref m_wasState, .ref m_isHere, .ref m_round, .ref m_bestRound, .int 0, .int 0, .long 0, .long 0, .ref m_taken, .int 0])), (m_lines, .inl (k_lines, 5, .inl (fun _ => 0)))] U.heap ∧ va_K (dC, dI) vwCl [(k_lines, .int)] U ∧ va_D (fun _ => True) [(h0, .inr (7, [.int 0, .ref m_width, .ref m_many, .ref m_cells, .ref m_moved, .ref m_tape, .int 0, .int 0, .int 0, .int 0, .int 0, .long 0, .int 0, .int 0, .int 0, .int (-1), .ref m_lines, .ref m_has, .ref m_state, .ref m_gate, .ref m_guest, .ref m_gone, .int 0, .ref m_isKept, .ref m_first, .ref m_second, .int 0, .ref m_far, .ref m_wished, .ref m_wasState, .ref m_isHere, .ref m_round, .ref m_bestRound, .int 0, .int 0, .long 0, .long 0, .ref m_taken, .int 0])), (m_lines, .inl (k_lines, 5, .inl (fun _ => 0)))])) (va_Qi (fun (r : Int32) (u : Unit) => r = 0) (fun (u : Unit) (t : State) => va_P (dC, dI) vwCl [(h0, .inr (7, [.int 0, .ref m_width, .ref m_many, .ref m_cells, .ref m_moved, .ref m_tape, .int 0, .int 0, .int 0, .int 0, .int 0, .long 0, .int 0, .int 0, .int 0, .int (-1), .ref m_lines, .ref m_has, .ref m_state, .ref m_gate, .ref m_guest, .ref m_gone, .int 0, .ref m_isKept, .ref m_first, .ref m_second, .int 0, .ref m_far, .ref m_wished, .ref m_wasState, .ref m_isHere, .ref m_round, .ref m_bestRound, .int 0, .int 0, .long 0, .long 0, .ref m_taken, .int 0])), (m_lines, .inl (k_lines, 5, .inl (fun _ => 0)))] t.heap ∧ va_K (dC, dI) vwCl [] t ∧ va_D (va_A [(h0, .inr (7, [.int 0, .ref m_width, .ref m_many, .ref m_cells, .ref m_moved, .ref m_tape, .int 0, .int 0, .int 0, .int 0, .int 0, .long 0, .int 0, .int 0, .int 0, .int (-1), .ref m_lines, .ref m_has, .ref m_state, .ref m_gate, .ref m_guest, .ref m_gone, .int 0, .ref m_isKept, .ref m_first, .ref m_second, .int 0, .ref m_far, .ref m_wished, .ref m_wasState, .ref m_isHere, .ref m_round, .ref m_bestRound, .int 0, .int 0, .long 0, .long 0, .ref m_taken, .int 0])), (m_lines, .inl (k_lines, 5, .inl (fun _ => 0)))] sz) [(h0, .inr (7, [.int 0, .ref m_width, .ref m_many, .ref m_cells, .ref m_moved, .ref m_tape, .int 0, .int 0, .int 0, .int 0, .int 0, .long 0, .int 0, .int 0, .int 0, .int (-1), .ref m_lines, .ref m_has, .ref m_state, .ref m_gate, .ref m_guest, .ref m_gone, .int 0, .ref m_isKept, .ref m_first, .ref m_second, .int 0, .ref m_far, .ref m_wished, .ref m_wasState, .ref m_isHere, .ref m_round, .ref m_bestRound, .int 0, .int 0, .long 0, .long 0, .ref m_taken, .int 0])), (m_lines, .inl (k_lines, 5, .inl (fun _ => 0)))]) (va_A [(h0, .inr (7, [.int 0, .ref m_width, .ref m_many, .ref m_cells, .ref m_moved, .ref m_tape, .int 0, .int 0, .int 0, .int 0, .int 0, .long 0, .int 0, .int 0, .int 0, .int (-1), .ref m_lines, .ref m_has, .ref m_state, .ref m_gate, .ref m_guest, .ref m_gone, .int 0, .ref m_isKept, .ref m_first, .ref m_second, .int 0, .ref m_far, .ref m_wished, .ref m_wasState, .ref m_isHere, .ref m_round, .ref m_bestRound, .int 0, .int 0, .long 0, .long 0, .ref m_taken, .int 0])), (m_lines, .inl (k_lines, 5, .inl (fun _ => 0)))] sz)) 0 0 (va_A [(h0, .inr (7, [.int 0, .ref m_width, .ref m_many, .ref m_cells, .ref m_moved, .ref m_tape, .int 0, .int 0, .int 0, .int 0, .int 0, .long 0, .int 0, .int 0, .int 0, .int (-1), .ref m_lines, .ref m_has, .ref m_state, .ref m_gate, .ref m_guest, .ref m_gone, .int 0, .ref m_isKept, .ref m_first, .ref m_second, .int 0, .ref m_far, .ref m_wished, .ref m_wasState, .ref m_isHere, .ref m_round, .ref m_bestRound, .int 0, .int 0, .long 0, .long 0, .ref m_taken, .int 0])), (m_lines, .inl (k_lines, 5, .inl (fun _ => 0)))] sz) := by
  refine Met.ofW (cc := cX7_isDrawn) (maxL := 3) (ret := (some .boolean)) (by decide) rfl ?_
  intro p e s m args below meth c s₁ B hml hv
  obtain ⟨rfl, hsz, hP, hK, hD0⟩ := hv
  have hx := B.exec
  have hb := B.bytes
  have hr := B.returns
  have hts := atoms_spec (ws := wz_X7_isDrawn) B.pre
  have hown : s.vm.findClass RX7 = some m.cls := findClass_of_methodNamed B.named
  have hlocks := B.notSynchronized
  subst hsz
  have hD := hD0.self (sz := s.heap.size)
  generalize hAe : va_A [(h0, .inr (7, [.int 0, .ref m_width, .ref m_many, .ref m_cells, .ref m_moved, .ref m_tape, .int 0, .int 0, .int 0, .int 0, .int 0, .long 0, .int 0, .int 0, .int 0, .int (-1), .ref m_lines, .ref m_has, .ref m_state, .ref m_gate, .ref m_guest, .ref m_gone, .int 0, .ref m_isKept, .ref m_first, .ref m_second, .int 0, .ref m_far, .ref m_wished, .ref m_wasState, .ref m_isHere, .ref m_round, .ref m_bestRound, .int 0, .int 0, .long 0, .long 0, .ref m_taken, .int 0])), (m_lines, .inl (k_lines, 5, .inl (fun _ => 0)))] s.heap.size = A at hD ⊢
  have hA : ∀ q : Nat, s.heap.size ≤ q → A q := fun q h => by rw [← hAe]; exact Or.inr h
  have hS : va_S A s.heap s.heap [] := va_S.rf
  have hP : va_P (dC, dI) vwCl [(h0, .inr (7, [.int 0, .ref m_width, .ref m_many, .ref m_cells, .ref m_moved, .ref m_tape, .int 0, .int 0, .int 0, .int 0, .int 0, .long 0, .int 0, .int 0, .int 0, .int (-1), .ref m_lines, .ref m_has, .ref m_state, .ref m_gate, .ref m_guest, .ref m_gone, .int 0, .ref m_isKept, .ref m_first, .ref m_second, .int 0, .ref m_far, .ref m_wished, .ref m_wasState, .ref m_isHere, .ref m_round, .ref m_bestRound, .int 0, .int 0, .long 0, .long 0, .ref m_taken, .int 0])), (m_lines, .inl (k_lines, 5, .inl (fun _ => 0)))] s.heap := hP
  have hl := lv_entry ([.ref h0, .int p0, .int p1]) (n := 3) (Nat.le_of_ble_eq_true rfl)
  rw [lg_entry_eq]
  generalize (lg_sl ([.ref h0, .int p0, .int p1]) ++ List.replicate (3 - (lg_sl ([.ref h0, .int p0, .int p1])).length) Slot.unset).toArray = ls at hl ⊢
  have hl : lv_has ls 3 [(0, .ref h0), (1, .int p0), (2, .int p1)] := hl
  refine lv_aload_n hx hb dX7_isDrawn_0 rfl (lv_at hl 0 rfl) ?_
  have hPc := hP.sub (ws' := [(h0, .inr (7, [.int 0, .ref m_width, .ref m_many, .ref m_cells, .ref m_moved, .ref m_tape, .int 0, .int 0, .int 0, .int 0, .int 0, .long 0, .int 0, .int 0, .int 0, .int (-1), .ref m_lines, .ref m_has, .ref m_state, .ref m_gate, .ref m_guest, .ref m_gone, .int 0, .ref m_isKept, .ref m_first, .ref m_second, .int 0, .ref m_far, .ref m_wished, .ref m_wasState, .ref m_isHere, .ref m_round, .ref m_bestRound, .int 0, .int 0, .long 0, .long 0, .ref m_taken, .int 0])), (m_lines, .inl (k_lines, 5, .inl (fun _ => 0)))]) [0, 1] rfl
  have hDc := hD.sub (ws' := [(h0, .inr (7, [.int 0, .ref m_width, .ref m_many, .ref m_cells, .ref m_moved, .ref m_tape, .int 0, .int 0, .int 0, .int 0, .int 0, .long 0, .int 0, .int 0, .int 0, .int (-1), .ref m_lines, .ref m_has, .ref m_state, .ref m_gate, .ref m_guest, .ref m_gone, .int 0, .ref m_isKept, .ref m_first, .ref m_second, .int 0, .ref m_far, .ref m_wished, .ref m_wasState, .ref m_isHere, .ref m_round, .ref m_bestRound, .int 0, .int 0, .long 0, .long 0, .ref m_taken, .int 0])), (m_lines, .inl (k_lines, 5, .inl (fun _ => 0)))]) [0, 1] (by decide) rfl
  have hKc := hK.sub (tys' := [(k_lines, .int)]) [0] rfl
  have hFc := va_free (wc := [(h0, .inr (7, [.int 0, .ref m_width, .ref m_many, .ref m_cells, .ref m_moved, .ref m_tape, .int 0, .int 0, .int 0, .int 0, .int 0, .long 0, .int 0, .int 0, .int 0, .int (-1), .ref m_lines, .ref m_has, .ref m_state, .ref m_gate, .ref m_guest, .ref m_gone, .int 0, .ref m_isKept, .ref m_first, .ref m_second, .int 0, .ref m_far, .ref m_wished, .ref m_wasState, .ref m_isHere, .ref m_round, .ref m_bestRound, .int 0, .int 0, .long 0, .long 0, .ref m_taken, .int 0])), (m_lines, .inl (k_lines, 5, .inl (fun _ => 0)))]) hD hS hA [0, 1] rfl
  refine va_calli (va_runV (As := []) (rest := []) ⟨hx, hb, hml, hown, hts⟩ (c_X7_isMaze l dC dI s.heap.size h0 m_width m_many m_cells m_moved m_tape m_lines m_has m_state m_gate m_guest m_gone m_isKept m_first m_second m_far m_wished m_wasState m_isHere m_round m_bestRound m_taken k_lines ) (cwV 0 hts g_X7_isDrawn_X7_isMaze rfl rfl rfl (by decide +kernel) ⟨Nat.le_of_ble_eq_true rfl, Nat.le_of_ble_eq_true rfl⟩) ⟨fun a U g mk q => by obtain ⟨q0, q1, qP, qK, qD⟩ := q; exact ⟨q0, q1, qP, va_K.moved (u := U) (U := U.calling g mk a) (Vm.Alike.refl U.vm) qK, qD⟩, va_recv hKc hPc (ci := 7) (q0 := 0) rfl rfl, fun U hU hW => ⟨rfl, by rw [hU], by rw [hU]; exact hPc, va_K.moved hW.alike hKc, hDc.weaken (fun _ _ _ _ => trivial)⟩⟩ rfl rfl hl.1 rfl (lv_room (Nat.le_of_ble_eq_true rfl)) dX7_isDrawn_1 ⟨Nat.le_of_ble_eq_true rfl, Nat.le_of_ble_eq_true rfl⟩) hS (fun q _ h => hFc q h) hFc (fun r_1 u t H1 locs ht hvm hw_2 hB hz1 hk1 hS => ?_)
  obtain ⟨hP1, hK1, hD1⟩ := hB
  have hP1 : va_P (dC, dI) vwCl [(h0, .inr (7, [.int 0, .ref m_width, .ref m_many, .ref m_cells, .ref m_moved, .ref m_tape, .int 0, .int 0, .int 0, .int 0, .int 0, .long 0, .int 0, .int 0, .int 0, .int (-1), .ref m_lines, .ref m_has, .ref m_state, .ref m_gate, .ref m_guest, .ref m_gone, .int 0, .ref m_isKept, .ref m_first, .ref m_second, .int 0, .ref m_far, .ref m_wished, .ref m_wasState, .ref m_isHere, .ref m_round, .ref m_bestRound, .int 0, .int 0, .long 0, .long 0, .ref m_taken, .int 0])), (m_lines, .inl (k_lines, 5, .inl (fun _ => 0)))] t.heap := hP1
  rw [ht] at hP1
  try dsimp only at hw_2
  obtain ⟨hP, hD⟩ := va_join (wr := []) (w1 := [(h0, .inr (7, [.int 0, .ref m_width, .ref m_many, .ref m_cells, .ref m_moved, .ref m_tape, .int 0, .int 0, .int 0, .int 0, .int 0, .long 0, .int 0, .int 0, .int 0, .int (-1), .ref m_lines, .ref m_has, .ref m_state, .ref m_gate, .ref m_guest, .ref m_gone, .int 0, .ref m_isKept, .ref m_first, .ref m_second, .int 0, .ref m_far, .ref m_wished, .ref m_wasState, .ref m_isHere, .ref m_round, .ref m_bestRound, .int 0, .int 0, .long 0, .long 0, .ref m_taken, .int 0])), (m_lines, .inl (k_lines, 5, .inl (fun _ => 0)))]) hP hD [0, 1] [] rfl rfl (by decide) (by decide) hk1 hFc hP1 hD1
  generalize H1 = H at hP hS ⊢
  have hP : va_P (dC, dI) vwCl [(h0, .inr (7, [.int 0, .ref m_width, .ref m_many, .ref m_cells, .ref m_moved, .ref m_tape, .int 0, .int 0, .int 0, .int 0, .int 0, .long 0, .int 0, .int 0, .int 0, .int (-1), .ref m_lines, .ref m_has, .ref m_state, .ref m_gate, .ref m_guest, .ref m_gone, .int 0, .ref m_isKept, .ref m_first, .ref m_second, .int 0, .ref m_far, .ref m_wished, .ref m_wasState, .ref m_isHere, .ref m_round, .ref m_bestRound, .int 0, .int 0, .long 0, .long 0, .ref m_taken, .int 0])), (m_lines, .inl (k_lines, 5, .inl (fun _ => 0)))] H := hP
  have hD : va_D A [(h0, .inr (7, [.int 0, .ref m_width, .ref m_many, .ref m_cells, .ref m_moved, .ref m_tape, .int 0, .int 0, .int 0, .int 0, .int 0, .long 0, .int 0, .int 0, .int 0, .int (-1), .ref m_lines, .ref m_has, .ref m_state, .ref m_gate, .ref m_guest, .ref m_gone, .int 0, .ref m_isKept, .ref m_first, .ref m_second, .int 0, .ref m_far, .ref m_wished, .ref m_wasState, .ref m_isHere, .ref m_round, .ref m_bestRound, .int 0, .int 0, .long 0, .long 0, .ref m_taken, .int 0])), (m_lines, .inl (k_lines, 5, .inl (fun _ => 0)))] := hD
  obtain rfl : r_1 = 0 := hw_2
  refine lv_if_eq (tgt := 35) hx hb dX7_isDrawn_4 (by decide) (fun _ => ?_) (fun h => absurd (by decide) h)
  refine lv_iconst (v := 0) hx hb dX7_isDrawn_35 (by decide) ?_
  have hP9 := hP.sub (ws' := [(h0, .inr (7, [.int 0, .ref m_width, .ref m_many, .ref m_cells, .ref m_moved, .ref m_tape, .int 0, .int 0, .int 0, .int 0, .int 0, .long 0, .int 0, .int 0, .int 0, .int (-1), .ref m_lines, .ref m_has, .ref m_state, .ref m_gate, .ref m_guest, .ref m_gone, .int 0, .ref m_isKept, .ref m_first, .ref m_second, .int 0, .ref m_far, .ref m_wished, .ref m_wasState, .ref m_isHere, .ref m_round, .ref m_bestRound, .int 0, .int 0, .long 0, .long 0, .ref m_taken, .int 0])), (m_lines, .inl (k_lines, 5, .inl (fun _ => 0)))]) [0, 1] rfl
  have hD9 := hD.sub (ws' := [(h0, .inr (7, [.int 0, .ref m_width, .ref m_many, .ref m_cells, .ref m_moved, .ref m_tape, .int 0, .int 0, .int 0, .int 0, .int 0, .long 0, .int 0, .int 0, .int 0, .int (-1), .ref m_lines, .ref m_has, .ref m_state, .ref m_gate, .ref m_guest, .ref m_gone, .int 0, .ref m_isKept, .ref m_first, .ref m_second, .int 0, .ref m_far, .ref m_wished, .ref m_wasState, .ref m_isHere, .ref m_round, .ref m_bestRound, .int 0, .int 0, .long 0, .long 0, .ref m_taken, .int 0])), (m_lines, .inl (k_lines, 5, .inl (fun _ => 0)))]) [0, 1] (by decide) rfl
  have hK9 := hK.sub (tys' := []) [] rfl
  refine W.widen (k := 0) (n := 0) (by omega) (by omega) ?_
  exact W.zret (v := 0) hx hb hr (by decide) (fun t ht hW => ⟨⟨0, (), rfl, (by first | rfl | ((repeat' split) <;> (first | rfl | (exfalso; omega)))), by rw [ht]; exact hP9, va_K.moved hW.alike hK9, hD9⟩, hS.F ht⟩) hS.2.2 dX7_isDrawn_36

theorem dX7_whyNotSlot_0 : decode cX7_whyNotSlot 0 = .ok (.iload_n 1, 1) := by decide +kernel
theorem dX7_whyNotSlot_1 : decode cX7_whyNotSlot 1 = .ok (.invokestatic 89, 3) := by decide +kernel
theorem dX7_whyNotSlot_4 : decode cX7_whyNotSlot 4 = .ok (.ifCond .eq 10, 3) := by decide +kernel
theorem dX7_whyNotSlot_7 : decode cX7_whyNotSlot 7 = .ok (.aload_n 0, 1) := by decide +kernel
theorem dX7_whyNotSlot_8 : decode cX7_whyNotSlot 8 = .ok (.invokevirtual 263, 3) := by decide +kernel
theorem dX7_whyNotSlot_11 : decode cX7_whyNotSlot 11 = .ok (.ifCond .ne 8, 3) := by decide +kernel
theorem dX7_whyNotSlot_14 : decode cX7_whyNotSlot 14 = .ok (.bipush (-2), 2) := by decide +kernel
theorem dX7_whyNotSlot_16 : decode cX7_whyNotSlot 16 = .ok (.goto 19, 3) := by decide +kernel
theorem dX7_whyNotSlot_35 : decode cX7_whyNotSlot 35 = .ok (.ireturn, 1) := by decide +kernel
def wz_X7_whyNotSlot : List Cond := .code yX7_whyNotSlot cX7_whyNotSlot 2 (some .int) :: ([Cond.methodLink RX7 89 yX7_isSlot, Cond.static yX7_isSlot, Cond.initialized RX7, Cond.code yX7_isSlot cX7_isSlot 1 (some .boolean), Cond.constantLong RX7 83 (3), Cond.methodLink RX7 85 yX7_in, Cond.static yX7_in, Cond.code yX7_in cX7_in 6 (some .boolean), Cond.methodLink RX7 263 yX7_isMaze, Cond.instanceMethod yX7_isMaze, Cond.selects RX7 yX7_isMaze yX7_isMaze, Cond.code yX7_isMaze cX7_isMaze 1 (some .boolean), Cond.fieldLink RX7 31 "HedgeMazeModel" "lines" "[I"] ++ wsX70)
set_option maxRecDepth 20000 in
theorem g_X7_whyNotSlot_X7_isSlot : GoodIn wz_X7_whyNotSlot (va_wsS RX7 89 yX7_isSlot wz_X7_isSlot) := goodIn_r _ [1, 2, 3, 4, 5, 6, 7, 3, 8] rfl (by decide +kernel)
set_option maxRecDepth 20000 in
theorem g_X7_whyNotSlot_X7_isMaze : GoodIn wz_X7_whyNotSlot (wsV RX7 263 RX7 yX7_isMaze wz_X7_isMaze) := goodIn_r _ [9, 10, 11, 3, 12, 13, 14, 15, 16, 17, 18, 19, 20, 21, 22, 23, 24, 25, 26, 27, 28, 29, 30, 31, 32, 33, 34, 35, 36, 37, 38, 39, 40, 41, 42, 43, 44, 45, 46, 47, 48, 49, 50, 51, 52] rfl (by decide +kernel)
set_option maxHeartbeats 4000000 in
set_option maxRecDepth 100000 in
theorem c_X7_whyNotSlot (l : Launch) (dC : Nat → ClassId) (dI : Nat → Nat → Nat) (sz : Nat) (h0 : Nat) (m_width : Nat) (m_many : Nat) (m_cells : Nat) (m_moved : Nat) (m_tape : Nat) (m_lines : Nat) (m_has : Nat) (m_state : Nat) (m_gate : Nat) (m_guest : Nat) (m_gone : Nat) (m_isKept : Nat) (m_first : Nat) (m_second : Nat) (m_far : Nat) (m_wished : Nat) (m_wasState : Nat) (m_isHere : Nat) (m_round : Nat) (m_bestRound : Nat) (m_taken : Nat) (k_lines : ClassId) (p0 : Int32)  : Met l yX7_whyNotSlot wz_X7_whyNotSlot ({ frames := 2, cells := 0, slots := 0, locals := 45 }) (va_Pc [.ref h0, .int p0] (fun U => U.heap.size = sz ∧ va_P (dC, dI) vwCl [(h0, .inr (7, [.int 0, .ref m_width, .ref m_many, .ref m_cells, .ref m_moved, .ref m_tape, .int 0, .int 0, .int 0, .int 0, .int 0, .long 0, .int 0, .int 0, .int 0, .int (-1), .ref m_lines, .ref m_has, .ref m_state, .ref m_gate, .ref m_guest, .ref m_gone, .int 0, .ref m_isKept, .ref m_first, .ref m_second, .int 0, .ref m_far, .ref m_wished, .ref m_wasState, .ref m_isHere, .ref m_round, .ref m_bestRound, .int 0, .int 0, .long 0, .long 0, .ref m_taken, .int 0])), (m_lines, .inl (k_lines, 5, .inl (fun _ => 0)))] U.heap ∧ va_K (dC, dI) vwCl [(k_lines, .int)] U ∧ va_D (fun _ => True) [(h0, .inr (7, [.int 0, .ref m_width, .ref m_many, .ref m_cells, .ref m_moved, .ref m_tape, .int 0, .int 0, .int 0, .int 0, .int 0, .long 0, .int 0, .int 0, .int 0, .int (-1), .ref m_lines, .ref m_has, .ref m_state, .ref m_gate, .ref m_guest, .ref m_gone, .int 0, .ref m_isKept, .ref m_first, .ref m_second, .int 0, .ref m_far, .ref m_wished, .ref m_wasState, .ref m_isHere, .ref m_round, .ref m_bestRound, .int 0, .int 0, .long 0, .long 0, .ref m_taken, .int 0])), (m_lines, .inl (k_lines, 5, .inl (fun _ => 0)))])) (va_Qi (fun (r : Int32) (u : Unit) => r = -2) (fun (_ : Unit) (_ : State) => True) (va_A [(h0, .inr (7, [.int 0, .ref m_width, .ref m_many, .ref m_cells, .ref m_moved, .ref m_tape, .int 0, .int 0, .int 0, .int 0, .int 0, .long 0, .int 0, .int 0, .int 0, .int (-1), .ref m_lines, .ref m_has, .ref m_state, .ref m_gate, .ref m_guest, .ref m_gone, .int 0, .ref m_isKept, .ref m_first, .ref m_second, .int 0, .ref m_far, .ref m_wished, .ref m_wasState, .ref m_isHere, .ref m_round, .ref m_bestRound, .int 0, .int 0, .long 0, .long 0, .ref m_taken, .int 0])), (m_lines, .inl (k_lines, 5, .inl (fun _ => 0)))] sz)) 0 0 (va_A [(h0, .inr (7, [.int 0, .ref m_width, .ref m_many, .ref m_cells, .ref m_moved, .ref m_tape, .int 0, .int 0, .int 0, .int 0, .int 0, .long 0, .int 0, .int 0, .int 0, .int (-1), .ref m_lines, .ref m_has, .ref m_state, .ref m_gate, .ref m_guest, .ref m_gone, .int 0, .ref m_isKept, .ref m_first, .ref m_second, .int 0, .ref m_far, .ref m_wished, .ref m_wasState, .ref m_isHere, .ref m_round, .ref m_bestRound, .int 0, .int 0, .long 0, .long 0, .ref m_taken, .int 0])), (m_lines, .inl (k_lines, 5, .inl (fun _ => 0)))] sz) := by
  refine Met.ofW (cc := cX7_whyNotSlot) (maxL := 2) (ret := (some .int)) (by decide) rfl ?_
  intro p e s m args below meth c s₁ B hml hv
  obtain ⟨rfl, hsz, hP, hK, hD0⟩ := hv
  have hx := B.exec
  have hb := B.bytes
  have hr := B.returns
  have hts := atoms_spec (ws := wz_X7_whyNotSlot) B.pre
  have hown : s.vm.findClass RX7 = some m.cls := findClass_of_methodNamed B.named
  have hlocks := B.notSynchronized
  subst hsz
  have hD := hD0.self (sz := s.heap.size)
  generalize hAe : va_A [(h0, .inr (7, [.int 0, .ref m_width, .ref m_many, .ref m_cells, .ref m_moved, .ref m_tape, .int 0, .int 0, .int 0, .int 0, .int 0, .long 0, .int 0, .int 0, .int 0, .int (-1), .ref m_lines, .ref m_has, .ref m_state, .ref m_gate, .ref m_guest, .ref m_gone, .int 0, .ref m_isKept, .ref m_first, .ref m_second, .int 0, .ref m_far, .ref m_wished, .ref m_wasState, .ref m_isHere, .ref m_round, .ref m_bestRound, .int 0, .int 0, .long 0, .long 0, .ref m_taken, .int 0])), (m_lines, .inl (k_lines, 5, .inl (fun _ => 0)))] s.heap.size = A at hD ⊢
  have hA : ∀ q : Nat, s.heap.size ≤ q → A q := fun q h => by rw [← hAe]; exact Or.inr h
  have hS : va_S A s.heap s.heap [] := va_S.rf
  have hP : va_P (dC, dI) vwCl [(h0, .inr (7, [.int 0, .ref m_width, .ref m_many, .ref m_cells, .ref m_moved, .ref m_tape, .int 0, .int 0, .int 0, .int 0, .int 0, .long 0, .int 0, .int 0, .int 0, .int (-1), .ref m_lines, .ref m_has, .ref m_state, .ref m_gate, .ref m_guest, .ref m_gone, .int 0, .ref m_isKept, .ref m_first, .ref m_second, .int 0, .ref m_far, .ref m_wished, .ref m_wasState, .ref m_isHere, .ref m_round, .ref m_bestRound, .int 0, .int 0, .long 0, .long 0, .ref m_taken, .int 0])), (m_lines, .inl (k_lines, 5, .inl (fun _ => 0)))] s.heap := hP
  have hl := lv_entry ([.ref h0, .int p0]) (n := 2) (Nat.le_of_ble_eq_true rfl)
  rw [lg_entry_eq]
  generalize (lg_sl ([.ref h0, .int p0]) ++ List.replicate (2 - (lg_sl ([.ref h0, .int p0])).length) Slot.unset).toArray = ls at hl ⊢
  have hl : lv_has ls 2 [(0, .ref h0), (1, .int p0)] := hl
  refine lv_iload_n hx hb dX7_whyNotSlot_0 rfl (lv_at hl 1 rfl) ?_
  have hPc := hP.sub (ws' := []) [] rfl
  have hDc := hD.sub (ws' := []) [] (by decide) rfl
  have hKc := hK.sub (tys' := []) [] rfl
  have hFc := va_free (wc := []) hD hS hA [] rfl
  refine va_calli (va_runS (As := [.int p0]) (rest := []) ⟨hx, hb, hml, hown, hts⟩ (c_X7_isSlot l dC dI s.heap.size p0 ) (va_cwS 1 hts g_X7_whyNotSlot_X7_isSlot rfl rfl rfl (by decide +kernel) ⟨Nat.le_of_ble_eq_true rfl, Nat.le_of_ble_eq_true rfl⟩) ⟨fun a U g mk q => by obtain ⟨q0, q1, qP, qK, qD⟩ := q; exact ⟨q0, q1, qP, va_K.moved (u := U) (U := U.calling g mk a) (Vm.Alike.refl U.vm) qK, qD⟩, fun U hU hW => ⟨rfl, by rw [hU], by rw [hU]; exact hPc, va_K.moved hW.alike hKc, hDc.weaken (fun _ _ _ _ => trivial)⟩⟩ rfl rfl hl.1 rfl (lv_room (Nat.le_of_ble_eq_true rfl)) dX7_whyNotSlot_1 ⟨Nat.le_of_ble_eq_true rfl, Nat.le_of_ble_eq_true rfl⟩) hS (fun q _ h => hFc q h) hFc (fun r_1 u t H1 locs ht hvm hw_2 hB hz1 hk1 hS => ?_)
  have hP1 : va_P (dC, dI) vwCl [] H1 := i_nilP
  have hD1 : va_D (va_A [] s.heap.size) [] := i_nilD
  try dsimp only at hw_2
  obtain ⟨hP, hD⟩ := va_join (wr := [(h0, .inr (7, [.int 0, .ref m_width, .ref m_many, .ref m_cells, .ref m_moved, .ref m_tape, .int 0, .int 0, .int 0, .int 0, .int 0, .long 0, .int 0, .int 0, .int 0, .int (-1), .ref m_lines, .ref m_has, .ref m_state, .ref m_gate, .ref m_guest, .ref m_gone, .int 0, .ref m_isKept, .ref m_first, .ref m_second, .int 0, .ref m_far, .ref m_wished, .ref m_wasState, .ref m_isHere, .ref m_round, .ref m_bestRound, .int 0, .int 0, .long 0, .long 0, .ref m_taken, .int 0])), (m_lines, .inl (k_lines, 5, .inl (fun _ => 0)))]) (w1 := []) hP hD [] [0, 1] rfl rfl (by decide) (by decide) hk1 hFc hP1 hD1
  generalize H1 = H at hP hS ⊢
  have hP : va_P (dC, dI) vwCl [(h0, .inr (7, [.int 0, .ref m_width, .ref m_many, .ref m_cells, .ref m_moved, .ref m_tape, .int 0, .int 0, .int 0, .int 0, .int 0, .long 0, .int 0, .int 0, .int 0, .int (-1), .ref m_lines, .ref m_has, .ref m_state, .ref m_gate, .ref m_guest, .ref m_gone, .int 0, .ref m_isKept, .ref m_first, .ref m_second, .int 0, .ref m_far, .ref m_wished, .ref m_wasState, .ref m_isHere, .ref m_round, .ref m_bestRound, .int 0, .int 0, .long 0, .long 0, .ref m_taken, .int 0])), (m_lines, .inl (k_lines, 5, .inl (fun _ => 0)))] H := hP
  have hD : va_D A [(h0, .inr (7, [.int 0, .ref m_width, .ref m_many, .ref m_cells, .ref m_moved, .ref m_tape, .int 0, .int 0, .int 0, .int 0, .int 0, .long 0, .int 0, .int 0, .int 0, .int (-1), .ref m_lines, .ref m_has, .ref m_state, .ref m_gate, .ref m_guest, .ref m_gone, .int 0, .ref m_isKept, .ref m_first, .ref m_second, .int 0, .ref m_far, .ref m_wished, .ref m_wasState, .ref m_isHere, .ref m_round, .ref m_bestRound, .int 0, .int 0, .long 0, .long 0, .ref m_taken, .int 0])), (m_lines, .inl (k_lines, 5, .inl (fun _ => 0)))] := hD
  rcases i_bool hw_2 with ⟨r_19, hC⟩ | ⟨r_19, hC⟩
  · obtain rfl : r_1 = 1 := r_19
    have hC_3 := hC
    refine lv_if_eq (tgt := 14) hx hb dX7_whyNotSlot_4 (by decide) (fun h => absurd h (by decide)) (fun _ => ?_)
    refine lv_aload_n hx hb dX7_whyNotSlot_7 rfl (lv_at hl 0 rfl) ?_
    have hPc := hP.sub (ws' := [(h0, .inr (7, [.int 0, .ref m_width, .ref m_many, .ref m_cells, .ref m_moved, .ref m_tape, .int 0, .int 0, .int 0, .int 0, .int 0, .long 0, .int 0, .int 0, .int 0, .int (-1), .ref m_lines, .ref m_has, .ref m_state, .ref m_gate, .ref m_guest, .ref m_gone, .int 0, .ref m_isKept, .ref m_first, .ref m_second, .int 0, .ref m_far, .ref m_wished, .ref m_wasState, .ref m_isHere, .ref m_round, .ref m_bestRound, .int 0, .int 0, .long 0, .long 0, .ref m_taken, .int 0])), (m_lines, .inl (k_lines, 5, .inl (fun _ => 0)))]) [0, 1] rfl
    have hDc := hD.sub (ws' := [(h0, .inr (7, [.int 0, .ref m_width, .ref m_many, .ref m_cells, .ref m_moved, .ref m_tape, .int 0, .int 0, .int 0, .int 0, .int 0, .long 0, .int 0, .int 0, .int 0, .int (-1), .ref m_lines, .ref m_has, .ref m_state, .ref m_gate, .ref m_guest, .ref m_gone, .int 0, .ref m_isKept, .ref m_first, .ref m_second, .int 0, .ref m_far, .ref m_wished, .ref m_wasState, .ref m_isHere, .ref m_round, .ref m_bestRound, .int 0, .int 0, .long 0, .long 0, .ref m_taken, .int 0])), (m_lines, .inl (k_lines, 5, .inl (fun _ => 0)))]) [0, 1] (by decide) rfl
    have hKc := hK.sub (tys' := [(k_lines, .int)]) [0] rfl
    have hFc := va_free (wc := [(h0, .inr (7, [.int 0, .ref m_width, .ref m_many, .ref m_cells, .ref m_moved, .ref m_tape, .int 0, .int 0, .int 0, .int 0, .int 0, .long 0, .int 0, .int 0, .int 0, .int (-1), .ref m_lines, .ref m_has, .ref m_state, .ref m_gate, .ref m_guest, .ref m_gone, .int 0, .ref m_isKept, .ref m_first, .ref m_second, .int 0, .ref m_far, .ref m_wished, .ref m_wasState, .ref m_isHere, .ref m_round, .ref m_bestRound, .int 0, .int 0, .long 0, .long 0, .ref m_taken, .int 0])), (m_lines, .inl (k_lines, 5, .inl (fun _ => 0)))]) hD hS hA [0, 1] rfl
    refine va_calli (va_runV (As := []) (rest := []) ⟨hx, hb, hml, hown, hts⟩ (c_X7_isMaze l dC dI H.size h0 m_width m_many m_cells m_moved m_tape m_lines m_has m_state m_gate m_guest m_gone m_isKept m_first m_second m_far m_wished m_wasState m_isHere m_round m_bestRound m_taken k_lines ) (cwV 0 hts g_X7_whyNotSlot_X7_isMaze rfl rfl rfl (by decide +kernel) ⟨Nat.le_of_ble_eq_true rfl, Nat.le_of_ble_eq_true rfl⟩) ⟨fun a U g mk q => by obtain ⟨q0, q1, qP, qK, qD⟩ := q; exact ⟨q0, q1, qP, va_K.moved (u := U) (U := U.calling g mk a) (Vm.Alike.refl U.vm) qK, qD⟩, va_recv hKc hPc (ci := 7) (q0 := 0) rfl rfl, fun U hU hW => ⟨rfl, by rw [hU], by rw [hU]; exact hPc, va_K.moved hW.alike hKc, hDc.weaken (fun _ _ _ _ => trivial)⟩⟩ rfl rfl hl.1 rfl (lv_room (Nat.le_of_ble_eq_true rfl)) dX7_whyNotSlot_8 ⟨Nat.le_of_ble_eq_true rfl, Nat.le_of_ble_eq_true rfl⟩) hS (fun q _ h => hFc q h) hFc (fun r_5 u t H1 locs ht hvm hw_6 hB hz1 hk1 hS => ?_)
    obtain ⟨hP1, hK1, hD1⟩ := hB
    have hP1 : va_P (dC, dI) vwCl [(h0, .inr (7, [.int 0, .ref m_width, .ref m_many, .ref m_cells, .ref m_moved, .ref m_tape, .int 0, .int 0, .int 0, .int 0, .int 0, .long 0, .int 0, .int 0, .int 0, .int (-1), .ref m_lines, .ref m_has, .ref m_state, .ref m_gate, .ref m_guest, .ref m_gone, .int 0, .ref m_isKept, .ref m_first, .ref m_second, .int 0, .ref m_far, .ref m_wished, .ref m_wasState, .ref m_isHere, .ref m_round, .ref m_bestRound, .int 0, .int 0, .long 0, .long 0, .ref m_taken, .int 0])), (m_lines, .inl (k_lines, 5, .inl (fun _ => 0)))] t.heap := hP1
    rw [ht] at hP1
    try dsimp only at hw_6
    obtain ⟨hP, hD⟩ := va_join (wr := []) (w1 := [(h0, .inr (7, [.int 0, .ref m_width, .ref m_many, .ref m_cells, .ref m_moved, .ref m_tape, .int 0, .int 0, .int 0, .int 0, .int 0, .long 0, .int 0, .int 0, .int 0, .int (-1), .ref m_lines, .ref m_has, .ref m_state, .ref m_gate, .ref m_guest, .ref m_gone, .int 0, .ref m_isKept, .ref m_first, .ref m_second, .int 0, .ref m_far, .ref m_wished, .ref m_wasState, .ref m_isHere, .ref m_round, .ref m_bestRound, .int 0, .int 0, .long 0, .long 0, .ref m_taken, .int 0])), (m_lines, .inl (k_lines, 5, .inl (fun _ => 0)))]) hP hD [0, 1] [] rfl rfl (by decide) (by decide) hk1 hFc hP1 hD1
    generalize H1 = H at hP hS ⊢
    have hP : va_P (dC, dI) vwCl [(h0, .inr (7, [.int 0, .ref m_width, .ref m_many, .ref m_cells, .ref m_moved, .ref m_tape, .int 0, .int 0, .int 0, .int 0, .int 0, .long 0, .int 0, .int 0, .int 0, .int (-1), .ref m_lines, .ref m_has, .ref m_state, .ref m_gate, .ref m_guest, .ref m_gone, .int 0, .ref m_isKept, .ref m_first, .ref m_second, .int 0, .ref m_far, .ref m_wished, .ref m_wasState, .ref m_isHere, .ref m_round, .ref m_bestRound, .int 0, .int 0, .long 0, .long 0, .ref m_taken, .int 0])), (m_lines, .inl (k_lines, 5, .inl (fun _ => 0)))] H := hP
    have hD : va_D A [(h0, .inr (7, [.int 0, .ref m_width, .ref m_many, .ref m_cells, .ref m_moved, .ref m_tape, .int 0, .int 0, .int 0, .int 0, .int 0, .long 0, .int 0, .int 0, .int 0, .int (-1), .ref m_lines, .ref m_has, .ref m_state, .ref m_gate, .ref m_guest, .ref m_gone, .int 0, .ref m_isKept, .ref m_first, .ref m_second, .int 0, .ref m_far, .ref m_wished, .ref m_wasState, .ref m_isHere, .ref m_round, .ref m_bestRound, .int 0, .int 0, .long 0, .long 0, .ref m_taken, .int 0])), (m_lines, .inl (k_lines, 5, .inl (fun _ => 0)))] := hD
    obtain rfl : r_5 = 0 := hw_6
    refine lv_if_ne (tgt := 19) hx hb dX7_whyNotSlot_11 (by decide) (fun h => absurd (by decide) h) (fun _ => ?_)
    refine lv_bipush (v := -2) hx hb dX7_whyNotSlot_14 (by decide) ?_
    refine lv_goto (tgt := 35) hx hb dX7_whyNotSlot_16 (by decide) ?_
    refine W.widen (k := 0) (n := 0) (by omega) (by omega) ?_
    exact W.iret (v := -2) hx hb hr (fun t ht hW => ⟨⟨(-2), (), rfl, (by first | rfl | ((repeat' split) <;> (first | rfl | (exfalso; omega)))), trivial⟩, hS.F ht⟩) hS.2.2 dX7_whyNotSlot_35
  · obtain rfl : r_1 = 0 := r_19
    have hC_8 := hC
    refine lv_if_eq (tgt := 14) hx hb dX7_whyNotSlot_4 (by decide) (fun _ => ?_) (fun h => absurd (by decide) h)
    refine lv_bipush (v := -2) hx hb dX7_whyNotSlot_14 (by decide) ?_
    refine lv_goto (tgt := 35) hx hb dX7_whyNotSlot_16 (by decide) ?_
    refine W.widen (k := 0) (n := 0) (by omega) (by omega) ?_
    exact W.iret (v := -2) hx hb hr (fun t ht hW => ⟨⟨(-2), (), rfl, (by first | rfl | ((repeat' split) <;> (first | rfl | (exfalso; omega)))), trivial⟩, hS.F ht⟩) hS.2.2 dX7_whyNotSlot_35

theorem dX7_whyNotWalk_0 : decode cX7_whyNotWalk 0 = .ok (.iload_n 1, 1) := by decide +kernel
theorem dX7_whyNotWalk_1 : decode cX7_whyNotWalk 1 = .ok (.invokestatic 89, 3) := by decide +kernel
theorem dX7_whyNotWalk_4 : decode cX7_whyNotWalk 4 = .ok (.ifCond .eq 11, 3) := by decide +kernel
theorem dX7_whyNotWalk_7 : decode cX7_whyNotWalk 7 = .ok (.aload_n 0, 1) := by decide +kernel
theorem dX7_whyNotWalk_8 : decode cX7_whyNotWalk 8 = .ok (.iload_n 2, 1) := by decide +kernel
theorem dX7_whyNotWalk_9 : decode cX7_whyNotWalk 9 = .ok (.invokevirtual 276, 3) := by decide +kernel
theorem dX7_whyNotWalk_12 : decode cX7_whyNotWalk 12 = .ok (.ifCond .ne 6, 3) := by decide +kernel
theorem dX7_whyNotWalk_15 : decode cX7_whyNotWalk 15 = .ok (.bipush (-2), 2) := by decide +kernel
theorem dX7_whyNotWalk_17 : decode cX7_whyNotWalk 17 = .ok (.ireturn, 1) := by decide +kernel
def wz_X7_whyNotWalk : List Cond := .code yX7_whyNotWalk cX7_whyNotWalk 4 (some .int) :: ([Cond.methodLink RX7 89 yX7_isSlot, Cond.static yX7_isSlot, Cond.initialized RX7, Cond.code yX7_isSlot cX7_isSlot 1 (some .boolean), Cond.constantLong RX7 83 (3), Cond.methodLink RX7 85 yX7_in, Cond.static yX7_in, Cond.code yX7_in cX7_in 6 (some .boolean), Cond.methodLink RX7 276 yX7_isCell, Cond.instanceMethod yX7_isCell, Cond.selects RX7 yX7_isCell yX7_isCell, Cond.code yX7_isCell cX7_isCell 2 (some .boolean), Cond.methodLink RX7 260 yX7_cellMany, Cond.instanceMethod yX7_cellMany, Cond.selects RX7 yX7_cellMany yX7_cellMany, Cond.code yX7_cellMany cX7_cellMany 1 (some .int), Cond.fieldLink RX7 34 "HedgeMazeModel" "has" "[I"] ++ wsX70)
set_option maxRecDepth 20000 in
theorem g_X7_whyNotWalk_X7_isSlot : GoodIn wz_X7_whyNotWalk (va_wsS RX7 89 yX7_isSlot wz_X7_isSlot) := goodIn_r _ [1, 2, 3, 4, 5, 6, 7, 3, 8] rfl (by decide +kernel)
set_option maxRecDepth 20000 in
theorem g_X7_whyNotWalk_X7_isCell : GoodIn wz_X7_whyNotWalk (wsV RX7 276 RX7 yX7_isCell wz_X7_isCell) := goodIn_r _ [9, 10, 11, 3, 12, 13, 14, 15, 3, 16, 17, 6, 7, 8, 18, 19, 20, 21, 22, 23, 24, 25, 26, 27, 28, 29, 30, 31, 32, 33, 34, 35, 36, 37, 38, 39, 40, 41, 42, 43, 44, 45, 46, 47, 48, 49, 50, 51, 52, 53, 54, 55, 56] rfl (by decide +kernel)
set_option maxHeartbeats 4000000 in
set_option maxRecDepth 100000 in
theorem c_X7_whyNotWalk (l : Launch) (dC : Nat → ClassId) (dI : Nat → Nat → Nat) (sz : Nat) (h0 : Nat) (m_width : Nat) (m_many : Nat) (m_cells : Nat) (m_moved : Nat) (m_tape : Nat) (m_lines : Nat) (m_has : Nat) (m_state : Nat) (m_gate : Nat) (m_guest : Nat) (m_gone : Nat) (m_isKept : Nat) (m_first : Nat) (m_second : Nat) (m_far : Nat) (m_wished : Nat) (m_wasState : Nat) (m_isHere : Nat) (m_round : Nat) (m_bestRound : Nat) (m_taken : Nat) (k_has : ClassId) (p0 : Int32) (p1 : Int32)  : Met l yX7_whyNotWalk wz_X7_whyNotWalk ({ frames := 2, cells := 0, slots := 0, locals := 46 }) (va_Pc [.ref h0, .int p0, .int p1] (fun U => U.heap.size = sz ∧ va_P (dC, dI) vwCl [(h0, .inr (7, [.int 0, .ref m_width, .ref m_many, .ref m_cells, .ref m_moved, .ref m_tape, .int 0, .int 0, .int 0, .int 0, .int 0, .long 0, .int 0, .int 0, .int 0, .int (-1), .ref m_lines, .ref m_has, .ref m_state, .ref m_gate, .ref m_guest, .ref m_gone, .int 0, .ref m_isKept, .ref m_first, .ref m_second, .int 0, .ref m_far, .ref m_wished, .ref m_wasState, .ref m_isHere, .ref m_round, .ref m_bestRound, .int 0, .int 0, .long 0, .long 0, .ref m_taken, .int 0])), (m_has, .inl (k_has, 45, .inl (fun _ => 0)))] U.heap ∧ va_K (dC, dI) vwCl [(k_has, .int)] U ∧ va_D (fun _ => True) [(h0, .inr (7, [.int 0, .ref m_width, .ref m_many, .ref m_cells, .ref m_moved, .ref m_tape, .int 0, .int 0, .int 0, .int 0, .int 0, .long 0, .int 0, .int 0, .int 0, .int (-1), .ref m_lines, .ref m_has, .ref m_state, .ref m_gate, .ref m_guest, .ref m_gone, .int 0, .ref m_isKept, .ref m_first, .ref m_second, .int 0, .ref m_far, .ref m_wished, .ref m_wasState, .ref m_isHere, .ref m_round, .ref m_bestRound, .int 0, .int 0, .long 0, .long 0, .ref m_taken, .int 0])), (m_has, .inl (k_has, 45, .inl (fun _ => 0)))])) (va_Qi (fun (r : Int32) (u : Unit) => r = -2) (fun (_ : Unit) (_ : State) => True) (va_A [(h0, .inr (7, [.int 0, .ref m_width, .ref m_many, .ref m_cells, .ref m_moved, .ref m_tape, .int 0, .int 0, .int 0, .int 0, .int 0, .long 0, .int 0, .int 0, .int 0, .int (-1), .ref m_lines, .ref m_has, .ref m_state, .ref m_gate, .ref m_guest, .ref m_gone, .int 0, .ref m_isKept, .ref m_first, .ref m_second, .int 0, .ref m_far, .ref m_wished, .ref m_wasState, .ref m_isHere, .ref m_round, .ref m_bestRound, .int 0, .int 0, .long 0, .long 0, .ref m_taken, .int 0])), (m_has, .inl (k_has, 45, .inl (fun _ => 0)))] sz)) 0 0 (va_A [(h0, .inr (7, [.int 0, .ref m_width, .ref m_many, .ref m_cells, .ref m_moved, .ref m_tape, .int 0, .int 0, .int 0, .int 0, .int 0, .long 0, .int 0, .int 0, .int 0, .int (-1), .ref m_lines, .ref m_has, .ref m_state, .ref m_gate, .ref m_guest, .ref m_gone, .int 0, .ref m_isKept, .ref m_first, .ref m_second, .int 0, .ref m_far, .ref m_wished, .ref m_wasState, .ref m_isHere, .ref m_round, .ref m_bestRound, .int 0, .int 0, .long 0, .long 0, .ref m_taken, .int 0])), (m_has, .inl (k_has, 45, .inl (fun _ => 0)))] sz) := by
  refine Met.ofW (cc := cX7_whyNotWalk) (maxL := 4) (ret := (some .int)) (by decide) rfl ?_
  intro p e s m args below meth c s₁ B hml hv
  obtain ⟨rfl, hsz, hP, hK, hD0⟩ := hv
  have hx := B.exec
  have hb := B.bytes
  have hr := B.returns
  have hts := atoms_spec (ws := wz_X7_whyNotWalk) B.pre
  have hown : s.vm.findClass RX7 = some m.cls := findClass_of_methodNamed B.named
  have hlocks := B.notSynchronized
  subst hsz
  have hD := hD0.self (sz := s.heap.size)
  generalize hAe : va_A [(h0, .inr (7, [.int 0, .ref m_width, .ref m_many, .ref m_cells, .ref m_moved, .ref m_tape, .int 0, .int 0, .int 0, .int 0, .int 0, .long 0, .int 0, .int 0, .int 0, .int (-1), .ref m_lines, .ref m_has, .ref m_state, .ref m_gate, .ref m_guest, .ref m_gone, .int 0, .ref m_isKept, .ref m_first, .ref m_second, .int 0, .ref m_far, .ref m_wished, .ref m_wasState, .ref m_isHere, .ref m_round, .ref m_bestRound, .int 0, .int 0, .long 0, .long 0, .ref m_taken, .int 0])), (m_has, .inl (k_has, 45, .inl (fun _ => 0)))] s.heap.size = A at hD ⊢
  have hA : ∀ q : Nat, s.heap.size ≤ q → A q := fun q h => by rw [← hAe]; exact Or.inr h
  have hS : va_S A s.heap s.heap [] := va_S.rf
  have hP : va_P (dC, dI) vwCl [(h0, .inr (7, [.int 0, .ref m_width, .ref m_many, .ref m_cells, .ref m_moved, .ref m_tape, .int 0, .int 0, .int 0, .int 0, .int 0, .long 0, .int 0, .int 0, .int 0, .int (-1), .ref m_lines, .ref m_has, .ref m_state, .ref m_gate, .ref m_guest, .ref m_gone, .int 0, .ref m_isKept, .ref m_first, .ref m_second, .int 0, .ref m_far, .ref m_wished, .ref m_wasState, .ref m_isHere, .ref m_round, .ref m_bestRound, .int 0, .int 0, .long 0, .long 0, .ref m_taken, .int 0])), (m_has, .inl (k_has, 45, .inl (fun _ => 0)))] s.heap := hP
  have hl := lv_entry ([.ref h0, .int p0, .int p1]) (n := 4) (Nat.le_of_ble_eq_true rfl)
  rw [lg_entry_eq]
  generalize (lg_sl ([.ref h0, .int p0, .int p1]) ++ List.replicate (4 - (lg_sl ([.ref h0, .int p0, .int p1])).length) Slot.unset).toArray = ls at hl ⊢
  have hl : lv_has ls 4 [(0, .ref h0), (1, .int p0), (2, .int p1)] := hl
  refine lv_iload_n hx hb dX7_whyNotWalk_0 rfl (lv_at hl 1 rfl) ?_
  have hPc := hP.sub (ws' := []) [] rfl
  have hDc := hD.sub (ws' := []) [] (by decide) rfl
  have hKc := hK.sub (tys' := []) [] rfl
  have hFc := va_free (wc := []) hD hS hA [] rfl
  refine va_calli (va_runS (As := [.int p0]) (rest := []) ⟨hx, hb, hml, hown, hts⟩ (c_X7_isSlot l dC dI s.heap.size p0 ) (va_cwS 1 hts g_X7_whyNotWalk_X7_isSlot rfl rfl rfl (by decide +kernel) ⟨Nat.le_of_ble_eq_true rfl, Nat.le_of_ble_eq_true rfl⟩) ⟨fun a U g mk q => by obtain ⟨q0, q1, qP, qK, qD⟩ := q; exact ⟨q0, q1, qP, va_K.moved (u := U) (U := U.calling g mk a) (Vm.Alike.refl U.vm) qK, qD⟩, fun U hU hW => ⟨rfl, by rw [hU], by rw [hU]; exact hPc, va_K.moved hW.alike hKc, hDc.weaken (fun _ _ _ _ => trivial)⟩⟩ rfl rfl hl.1 rfl (lv_room (Nat.le_of_ble_eq_true rfl)) dX7_whyNotWalk_1 ⟨Nat.le_of_ble_eq_true rfl, Nat.le_of_ble_eq_true rfl⟩) hS (fun q _ h => hFc q h) hFc (fun r_1 u t H1 locs ht hvm hw_2 hB hz1 hk1 hS => ?_)
  have hP1 : va_P (dC, dI) vwCl [] H1 := i_nilP
  have hD1 : va_D (va_A [] s.heap.size) [] := i_nilD
  try dsimp only at hw_2
  obtain ⟨hP, hD⟩ := va_join (wr := [(h0, .inr (7, [.int 0, .ref m_width, .ref m_many, .ref m_cells, .ref m_moved, .ref m_tape, .int 0, .int 0, .int 0, .int 0, .int 0, .long 0, .int 0, .int 0, .int 0, .int (-1), .ref m_lines, .ref m_has, .ref m_state, .ref m_gate, .ref m_guest, .ref m_gone, .int 0, .ref m_isKept, .ref m_first, .ref m_second, .int 0, .ref m_far, .ref m_wished, .ref m_wasState, .ref m_isHere, .ref m_round, .ref m_bestRound, .int 0, .int 0, .long 0, .long 0, .ref m_taken, .int 0])), (m_has, .inl (k_has, 45, .inl (fun _ => 0)))]) (w1 := []) hP hD [] [0, 1] rfl rfl (by decide) (by decide) hk1 hFc hP1 hD1
  generalize H1 = H at hP hS ⊢
  have hP : va_P (dC, dI) vwCl [(h0, .inr (7, [.int 0, .ref m_width, .ref m_many, .ref m_cells, .ref m_moved, .ref m_tape, .int 0, .int 0, .int 0, .int 0, .int 0, .long 0, .int 0, .int 0, .int 0, .int (-1), .ref m_lines, .ref m_has, .ref m_state, .ref m_gate, .ref m_guest, .ref m_gone, .int 0, .ref m_isKept, .ref m_first, .ref m_second, .int 0, .ref m_far, .ref m_wished, .ref m_wasState, .ref m_isHere, .ref m_round, .ref m_bestRound, .int 0, .int 0, .long 0, .long 0, .ref m_taken, .int 0])), (m_has, .inl (k_has, 45, .inl (fun _ => 0)))] H := hP
  have hD : va_D A [(h0, .inr (7, [.int 0, .ref m_width, .ref m_many, .ref m_cells, .ref m_moved, .ref m_tape, .int 0, .int 0, .int 0, .int 0, .int 0, .long 0, .int 0, .int 0, .int 0, .int (-1), .ref m_lines, .ref m_has, .ref m_state, .ref m_gate, .ref m_guest, .ref m_gone, .int 0, .ref m_isKept, .ref m_first, .ref m_second, .int 0, .ref m_far, .ref m_wished, .ref m_wasState, .ref m_isHere, .ref m_round, .ref m_bestRound, .int 0, .int 0, .long 0, .long 0, .ref m_taken, .int 0])), (m_has, .inl (k_has, 45, .inl (fun _ => 0)))] := hD
  rcases i_bool hw_2 with ⟨r_19, hC⟩ | ⟨r_19, hC⟩
  · obtain rfl : r_1 = 1 := r_19
    have hC_3 := hC
    refine lv_if_eq (tgt := 15) hx hb dX7_whyNotWalk_4 (by decide) (fun h => absurd h (by decide)) (fun _ => ?_)
    refine lv_aload_n hx hb dX7_whyNotWalk_7 rfl (lv_at hl 0 rfl) ?_
    refine lv_iload_n hx hb dX7_whyNotWalk_8 rfl (lv_at hl 2 rfl) ?_
    have hPc := hP.sub (ws' := [(h0, .inr (7, [.int 0, .ref m_width, .ref m_many, .ref m_cells, .ref m_moved, .ref m_tape, .int 0, .int 0, .int 0, .int 0, .int 0, .long 0, .int 0, .int 0, .int 0, .int (-1), .ref m_lines, .ref m_has, .ref m_state, .ref m_gate, .ref m_guest, .ref m_gone, .int 0, .ref m_isKept, .ref m_first, .ref m_second, .int 0, .ref m_far, .ref m_wished, .ref m_wasState, .ref m_isHere, .ref m_round, .ref m_bestRound, .int 0, .int 0, .long 0, .long 0, .ref m_taken, .int 0])), (m_has, .inl (k_has, 45, .inl (fun _ => 0)))]) [0, 1] rfl
    have hDc := hD.sub (ws' := [(h0, .inr (7, [.int 0, .ref m_width, .ref m_many, .ref m_cells, .ref m_moved, .ref m_tape, .int 0, .int 0, .int 0, .int 0, .int 0, .long 0, .int 0, .int 0, .int 0, .int (-1), .ref m_lines, .ref m_has, .ref m_state, .ref m_gate, .ref m_guest, .ref m_gone, .int 0, .ref m_isKept, .ref m_first, .ref m_second, .int 0, .ref m_far, .ref m_wished, .ref m_wasState, .ref m_isHere, .ref m_round, .ref m_bestRound, .int 0, .int 0, .long 0, .long 0, .ref m_taken, .int 0])), (m_has, .inl (k_has, 45, .inl (fun _ => 0)))]) [0, 1] (by decide) rfl
    have hKc := hK.sub (tys' := [(k_has, .int)]) [0] rfl
    have hFc := va_free (wc := [(h0, .inr (7, [.int 0, .ref m_width, .ref m_many, .ref m_cells, .ref m_moved, .ref m_tape, .int 0, .int 0, .int 0, .int 0, .int 0, .long 0, .int 0, .int 0, .int 0, .int (-1), .ref m_lines, .ref m_has, .ref m_state, .ref m_gate, .ref m_guest, .ref m_gone, .int 0, .ref m_isKept, .ref m_first, .ref m_second, .int 0, .ref m_far, .ref m_wished, .ref m_wasState, .ref m_isHere, .ref m_round, .ref m_bestRound, .int 0, .int 0, .long 0, .long 0, .ref m_taken, .int 0])), (m_has, .inl (k_has, 45, .inl (fun _ => 0)))]) hD hS hA [0, 1] rfl
    refine va_calli (va_runV (As := [.int p1]) (rest := []) ⟨hx, hb, hml, hown, hts⟩ (c_X7_isCell l dC dI H.size h0 m_width m_many m_cells m_moved m_tape m_lines m_has m_state m_gate m_guest m_gone m_isKept m_first m_second m_far m_wished m_wasState m_isHere m_round m_bestRound m_taken k_has p1 ) (cwV 1 hts g_X7_whyNotWalk_X7_isCell rfl rfl rfl (by decide +kernel) ⟨Nat.le_of_ble_eq_true rfl, Nat.le_of_ble_eq_true rfl⟩) ⟨fun a U g mk q => by obtain ⟨q0, q1, qP, qK, qD⟩ := q; exact ⟨q0, q1, qP, va_K.moved (u := U) (U := U.calling g mk a) (Vm.Alike.refl U.vm) qK, qD⟩, va_recv hKc hPc (ci := 7) (q0 := 0) rfl rfl, fun U hU hW => ⟨rfl, by rw [hU], by rw [hU]; exact hPc, va_K.moved hW.alike hKc, hDc.weaken (fun _ _ _ _ => trivial)⟩⟩ rfl rfl hl.1 rfl (lv_room (Nat.le_of_ble_eq_true rfl)) dX7_whyNotWalk_9 ⟨Nat.le_of_ble_eq_true rfl, Nat.le_of_ble_eq_true rfl⟩) hS (fun q _ h => hFc q h) hFc (fun r_5 u t H1 locs ht hvm hw_6 hB hz1 hk1 hS => ?_)
    obtain ⟨hP1, hK1, hD1⟩ := hB
    have hP1 : va_P (dC, dI) vwCl [(h0, .inr (7, [.int 0, .ref m_width, .ref m_many, .ref m_cells, .ref m_moved, .ref m_tape, .int 0, .int 0, .int 0, .int 0, .int 0, .long 0, .int 0, .int 0, .int 0, .int (-1), .ref m_lines, .ref m_has, .ref m_state, .ref m_gate, .ref m_guest, .ref m_gone, .int 0, .ref m_isKept, .ref m_first, .ref m_second, .int 0, .ref m_far, .ref m_wished, .ref m_wasState, .ref m_isHere, .ref m_round, .ref m_bestRound, .int 0, .int 0, .long 0, .long 0, .ref m_taken, .int 0])), (m_has, .inl (k_has, 45, .inl (fun _ => 0)))] t.heap := hP1
    rw [ht] at hP1
    try dsimp only at hw_6
    obtain ⟨hP, hD⟩ := va_join (wr := []) (w1 := [(h0, .inr (7, [.int 0, .ref m_width, .ref m_many, .ref m_cells, .ref m_moved, .ref m_tape, .int 0, .int 0, .int 0, .int 0, .int 0, .long 0, .int 0, .int 0, .int 0, .int (-1), .ref m_lines, .ref m_has, .ref m_state, .ref m_gate, .ref m_guest, .ref m_gone, .int 0, .ref m_isKept, .ref m_first, .ref m_second, .int 0, .ref m_far, .ref m_wished, .ref m_wasState, .ref m_isHere, .ref m_round, .ref m_bestRound, .int 0, .int 0, .long 0, .long 0, .ref m_taken, .int 0])), (m_has, .inl (k_has, 45, .inl (fun _ => 0)))]) hP hD [0, 1] [] rfl rfl (by decide) (by decide) hk1 hFc hP1 hD1
    generalize H1 = H at hP hS ⊢
    have hP : va_P (dC, dI) vwCl [(h0, .inr (7, [.int 0, .ref m_width, .ref m_many, .ref m_cells, .ref m_moved, .ref m_tape, .int 0, .int 0, .int 0, .int 0, .int 0, .long 0, .int 0, .int 0, .int 0, .int (-1), .ref m_lines, .ref m_has, .ref m_state, .ref m_gate, .ref m_guest, .ref m_gone, .int 0, .ref m_isKept, .ref m_first, .ref m_second, .int 0, .ref m_far, .ref m_wished, .ref m_wasState, .ref m_isHere, .ref m_round, .ref m_bestRound, .int 0, .int 0, .long 0, .long 0, .ref m_taken, .int 0])), (m_has, .inl (k_has, 45, .inl (fun _ => 0)))] H := hP
    have hD : va_D A [(h0, .inr (7, [.int 0, .ref m_width, .ref m_many, .ref m_cells, .ref m_moved, .ref m_tape, .int 0, .int 0, .int 0, .int 0, .int 0, .long 0, .int 0, .int 0, .int 0, .int (-1), .ref m_lines, .ref m_has, .ref m_state, .ref m_gate, .ref m_guest, .ref m_gone, .int 0, .ref m_isKept, .ref m_first, .ref m_second, .int 0, .ref m_far, .ref m_wished, .ref m_wasState, .ref m_isHere, .ref m_round, .ref m_bestRound, .int 0, .int 0, .long 0, .long 0, .ref m_taken, .int 0])), (m_has, .inl (k_has, 45, .inl (fun _ => 0)))] := hD
    obtain rfl : r_5 = 0 := hw_6
    refine lv_if_ne (tgt := 18) hx hb dX7_whyNotWalk_12 (by decide) (fun h => absurd (by decide) h) (fun _ => ?_)
    refine lv_bipush (v := -2) hx hb dX7_whyNotWalk_15 (by decide) ?_
    refine W.widen (k := 0) (n := 0) (by omega) (by omega) ?_
    exact W.iret (v := -2) hx hb hr (fun t ht hW => ⟨⟨(-2), (), rfl, (by first | rfl | ((repeat' split) <;> (first | rfl | (exfalso; omega)))), trivial⟩, hS.F ht⟩) hS.2.2 dX7_whyNotWalk_17
  · obtain rfl : r_1 = 0 := r_19
    have hC_8 := hC
    refine lv_if_eq (tgt := 15) hx hb dX7_whyNotWalk_4 (by decide) (fun _ => ?_) (fun h => absurd (by decide) h)
    refine lv_bipush (v := -2) hx hb dX7_whyNotWalk_15 (by decide) ?_
    refine W.widen (k := 0) (n := 0) (by omega) (by omega) ?_
    exact W.iret (v := -2) hx hb hr (fun t ht hW => ⟨⟨(-2), (), rfl, (by first | rfl | ((repeat' split) <;> (first | rfl | (exfalso; omega)))), trivial⟩, hS.F ht⟩) hS.2.2 dX7_whyNotWalk_17

